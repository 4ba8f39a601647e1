theorem V.swap {X : WX} {G : GX} {own : String} {cc : ByteArray} {nL : Nat} {ret : Option FieldType} {D cells slots : Nat} {Q : State → Prop} {b b2 : Bool} {o : Mm} {pc : Nat} {lv : List (Nat × Value)} {st : List Value} {h : Mm} (hb : (!b) = b2) (k : V X G own cc nL ret D cells slots Q b2 h pc lv st o) : V X G own cc nL ret D cells slots Q b o pc lv st h := by
  subst hb
  intro C H locs ls hR hl
  have e : cbs b h o = cbs (!b) o h := by cases b <;> rfl
  rw [e] at hR
  exact k C H locs ls hR hl
theorem V.ialdL {X : WX} {G : GX} {own : String} {cc : ByteArray} {nL : Nat} {ret : Option FieldType} {D cells slots : Nat} {Q : State → Prop} {b : Bool} {o : Mm} {pc : Nat} {lv : List (Nat × Value)} {st : List Value} {h : Mm} {i : Int32} (hin : inB i (xn X)) (hdg : decode cc pc = .ok (.iaload, 1)) (kk : V X G own cc nL ret D cells slots Q b o (pc + 1) lv (.int (xs X i.toNatClampNeg) :: st) h) : V X G own cc nL ret D cells slots Q b o pc lv (.int i :: .ref (xa X 1000) :: st) h := by
  intro C H locs ls hR hl
  have C0 := C
  obtain ⟨hx, hb, hml, hown, hts, hlk, hr, hK, hE, hD, hA, hfr, hlo⟩ := C0
  refine va_ti hx hb (hE.1 1000 (by omega) (by omega)) hR.2.1 (i := i) ?_ ?_ hdg (kk C H locs ls hR hl)
  · rw [exn, if_pos rfl]; exact hin.vp
  · rw [exv, if_pos rfl]
theorem V.alenL {X : WX} {G : GX} {own : String} {cc : ByteArray} {nL : Nat} {ret : Option FieldType} {D cells slots : Nat} {Q : State → Prop} {b : Bool} {o : Mm} {pc : Nat} {lv : List (Nat × Value)} {st : List Value} {h : Mm} (hdg : decode cc pc = .ok (.arraylength, 1)) (kk : V X G own cc nL ret D cells slots Q b o (pc + 1) lv (.int (Int32.ofNat (xn X)) :: st) h) : V X G own cc nL ret D cells slots Q b o pc lv (.ref (xa X 1000) :: st) h := by
  intro C H locs ls hR hl
  have C0 := C
  obtain ⟨hx, hb, hml, hown, hts, hlk, hr, hK, hE, hD, hA, hfr, hlo⟩ := C0
  exact va_tlen hx hb (hE.1 1000 (by omega) (by omega)) hR.2.1 (by rw [exn, if_pos rfl]) hdg (kk C H locs ls hR hl)
theorem V.callL {X : WX} {G : GX} {own : String} {cc : ByteArray} {nL : Nat} {ret : Option FieldType} {D cells slots : Nat} {Q : State → Prop} {b : Bool} {o : Mm} {pc : Nat} {lv : List (Nat × Value)} {st : List Value} {h : Mm} {y : MethodName} {cc2 : ByteArray} {nL2 d n idx id ci : Nat} {ret2 : Option FieldType} {As : List Value} {w : Value} {h' : Mm} {st0 : List Value} (hm : mV y cc2 nL2 ret2 n ci) (hw : Cond.methodLink own idx y ∈ gtbl) (hs : SHF[id]? = some (.inl ci)) (hM : Sat X y cc2 nL2 ret2 d (.ref (xa X id) :: As) b o h (some w) h') (hd : d + 1 ≤ D) (hst : As.reverse ++ .ref (xa X id) :: st = st0) (hn : As.length = n) (hW : (st.map fun v => v.category).sum ≤ 8) (hcs : cells ≤ (gR G).cells ∧ slots ≤ (gR G).slots) (hdg : decode cc pc = .ok (.invokevirtual idx, 3)) (kk : V X G own cc nL ret D cells slots Q b o (pc + 3) lv (w :: st) h') : V X G own cc nL ret D cells slots Q b o pc lv st0 h :=
  V.callVG hm hw hs hM hd hst hn hW (fun _ => hcs) hdg kk
