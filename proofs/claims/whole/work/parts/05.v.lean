def gtbl : List Cond := lw_tbl.filter goodWord
/-! a frame: program, environment, room, start, method, arguments, frames below, method, code -/
abbrev GX : Type := Program × Env × Room × State × MethodId × Array Value × List Frame × Method × Code
abbrev gp (G : GX) : Program := G.1
abbrev ge (G : GX) : Env := G.2.1
abbrev gR (G : GX) : Room := G.2.2.1
abbrev gs (G : GX) : State := G.2.2.2.1
abbrev gm (G : GX) : MethodId := G.2.2.2.2.1
abbrev ga (G : GX) : Array Value := G.2.2.2.2.2.1
abbrev gb (G : GX) : List Frame := G.2.2.2.2.2.2.1
abbrev gt (G : GX) : Method := G.2.2.2.2.2.2.2.1
abbrev gc (G : GX) : Code := G.2.2.2.2.2.2.2.2
def Cx (X : WX) (G : GX) (own : String) (cc : ByteArray) (nL : Nat) (ret : Option FieldType) (D : Nat) : Prop :=
  (gp G).tables.exec = Jvm.exec ∧ (gc G).code = cc ∧ (gc G).maxLocals = nL ∧ (gs G).vm.findClass own = some (gm G).cls ∧ (∀ w ∈ gtbl, w.before (ga G) (gs G) = true) ∧ (gt G).locks = false ∧ (gt G).sig.returnType = ret ∧ va_K (xD X) vwCl (tyT X) (gs G) ∧ Ext X (gs G) ∧ Dj X ∧ (∀ q, (gs G).heap.size ≤ q → xA X q) ∧ D ≤ (gR G).frames ∧ 64 * D ≤ (gR G).locals
def Rl (X : WX) (M : Mm) (G : GX) (H : Heap) (locs : List Loc) : Prop := va_P (xD X) vwCl (wd X M) H ∧ va_S (xA X) (gs G).heap H locs ∧ Fix M
def V (X : WX) (G : GX) (own : String) (cc : ByteArray) (nL : Nat) (ret : Option FieldType) (D cells slots : Nat) (Q : State → Prop) (b : Bool) (o : Mm) (pc : Nat) (lv : List (Nat × Value)) (st : List Value) (h : Mm) : Prop :=
  Cx X G own cc nL ret D → ∀ (H : Heap) (locs : List Loc) (ls : Array Slot), Rl X (cbs b h o) G H locs → lv_has ls nL lv → W (gp G) (xl X) (ge G) (gR G) (gs G) (gm G) (ga G) (gb G) (gt G) (gc G) H locs cells slots Q (F0 (gm G) pc ls st)
def rmd (d : Nat) : Room := { frames := d, cells := 0, slots := 0, locals := 64 * d }
def mws (y : MethodName) (cc : ByteArray) (nL : Nat) (ret : Option FieldType) : List Cond := .code y cc nL ret :: gtbl
def Post (X : WX) (b : Bool) (o : Mm) (v : Option Value) (h' : Mm) : Array Value → State → Outcome → State → Prop := fun _ st oc t => oc = .returned v ∧ va_P (xD X) vwCl (wd X (cbs b h' o)) t.heap ∧ Fix (cbs b h' o) ∧ va_F (xA X) st t
/-- a method's contract: with these arguments and this memory it answers v and leaves h' -/
def Sat (X : WX) (y : MethodName) (cc : ByteArray) (nL : Nat) (ret : Option FieldType) (d : Nat) (as : List Value) (b : Bool) (o h : Mm) (v : Option Value) (h' : Mm) : Prop :=
  Met (xl X) y (mws y cc nL ret) (rmd d) (va_Pc as (PreR X (cbs b h o))) (Post X b o v h') 0 0 (xA X)
abbrev QR (X : WX) (G : GX) (b : Bool) (o : Mm) (v : Option Value) (h' : Mm) : State → Prop := MQ (gb G) (Post X b o v h') (ga G) (gs G) 0 0 (xA X)
theorem gin {w : Cond} (i : Nat) (h : lw_tbl[i]? = some w) (hg : goodWord w = true) : w ∈ gtbl := List.mem_filter.mpr ⟨List.mem_of_getElem? h, hg⟩
theorem tbl_in {w : Cond} (h : w ∈ gtbl) : (w.onTables && w.keeps) = true ∨ ∃ ty, w = .arrayClass ty := good_of_word (List.mem_filter.mp h).2
theorem mws_good {y : MethodName} {cc : ByteArray} {nL : Nat} {ret : Option FieldType} (h : Cond.code y cc nL ret ∈ gtbl) : GoodIn gtbl (mws y cc nL ret) := by
  intro w hw
  rcases List.mem_cons.mp hw with rfl | hw
  · exact ⟨h, tbl_in h⟩
  · exact ⟨hw, tbl_in hw⟩
section VL
variable {X : WX} {G : GX} {own : String} {cc : ByteArray} {nL : Nat} {ret : Option FieldType} {D cells slots : Nat} {Q : State → Prop} {b : Bool} {o : Mm} {pc : Nat} {lv lv' : List (Nat × Value)} {st : List Value} {h : Mm}
theorem Sat.of {y : MethodName} {d : Nat} {as : List Value} {v : Option Value} {h' : Mm} (hy : plainFor y = true) (hn : (lg_sl as).length ≤ nL) (k : ∀ G, V X G y.cls cc nL ret d 0 0 (QR X G b o v h') b o 0 (lv_args 0 as) [] h) : Sat X y cc nL ret d as b o h v h' := by
  refine va_MetF (cc := cc) (maxL := nL) (ret := ret) hy rfl ?_
  intro p e s m args below meth c s₁ B hml hv
  obtain ⟨rfl, hP, hK, hE, hF, hD, hA⟩ := hv
  have hts := atoms_spec (ws := mws y cc nL ret) B.pre
  have C : Cx X (p, e, (headSpec (mws y cc nL ret) (rmd d)).room, s, m, as.toArray, below, meth, c) y.cls cc nL ret d :=
    ⟨B.exec, B.bytes, hml, findClass_of_methodNamed B.named, fun w hw => hts w (List.mem_cons_of_mem _ hw), B.notSynchronized, B.returns, hK, hE, hD, hA, Nat.le_refl d, Nat.le_refl _⟩
  have hl := lv_entry as (n := nL) hn
  rw [lg_entry_eq]
  exact k (p, e, (headSpec (mws y cc nL ret) (rmd d)).room, s, m, as.toArray, below, meth, c) C s.heap [] _ ⟨hP, va_S.rf, hF⟩ hl
theorem Sat.mk {y : MethodName} {d : Nat} {as : List Value} {v : Option Value} {h' : Mm} (hown : y.cls = own) (hy : plainFor y = true) (hn : (lg_sl as).length ≤ nL) (k : ∀ G, V X G own cc nL ret d 0 0 (QR X G b o v h') b o 0 (lv_args 0 as) [] h) : Sat X y cc nL ret d as b o h v h' := by
  subst hown; exact Sat.of hy hn k
theorem V.iret {v : Int32} (hdg : decode cc pc = .ok (.ireturn, 1)) : V X G own cc nL (some .int) D 0 0 (QR X G b o (some (.int v)) h) b o pc lv [.int v] h := by
  intro C H locs ls hR hl
  obtain ⟨hx, hb, hml, hown, hts, hlk, hr, hK, hE, hD, hA, hf, hlo⟩ := C
  exact W.iret hx hb hr (fun t ht _ => ⟨rfl, by rw [ht]; exact hR.1, hR.2.2, hR.2.1.F ht⟩) hR.2.1.2.2 hdg hlk
theorem V.zret {v : Int32} {ty : FieldType} (hn : narrow ty (.int v) = .int v) (hdg : decode cc pc = .ok (.ireturn, 1)) : V X G own cc nL (some ty) D 0 0 (QR X G b o (some (.int v)) h) b o pc lv [.int v] h := by
  intro C H locs ls hR hl
  obtain ⟨hx, hb, hml, hown, hts, hlk, hr, hK, hE, hD, hA, hf, hlo⟩ := C
  exact W.zret hx hb hr hn (fun t ht _ => ⟨rfl, by rw [ht]; exact hR.1, hR.2.2, hR.2.1.F ht⟩) hR.2.1.2.2 hdg hlk
theorem V.bret {v : Bool} (hdg : decode cc pc = .ok (.ireturn, 1)) : V X G own cc nL (some .boolean) D 0 0 (QR X G b o (some (.int (b2i v))) h) b o pc lv [.int (b2i v)] h := V.zret (by cases v <;> rfl) hdg
theorem V.vret (hdg : decode cc pc = .ok (.return_, 1)) : V X G own cc nL none D 0 0 (QR X G b o none h) b o pc lv [] h := by
  intro C H locs ls hR hl
  obtain ⟨hx, hb, hml, hown, hts, hlk, hr, hK, hE, hD, hA, hf, hlo⟩ := C
  exact W.vret hx hb hr (fun t ht _ => ⟨rfl, by rw [ht]; exact hR.1, hR.2.2, hR.2.1.F ht⟩) hR.2.1.2.2 hdg hlk
theorem V.lret {v : Int64} (hdg : decode cc pc = .ok (.lreturn, 1)) : V X G own cc nL (some .long) D 0 0 (QR X G b o (some (.long v)) h) b o pc lv [.long v] h := by
  intro C H locs ls hR hl
  obtain ⟨hx, hb, hml, hown, hts, hlk, hr, hK, hE, hD, hA, hf, hlo⟩ := C
  exact W.lret hx hb hr (fun t ht _ => ⟨rfl, by rw [ht]; exact hR.1, hR.2.2, hR.2.1.F ht⟩) hR.2.1.2.2 hdg hlk
theorem V.iconst {n : Int} {v : Int32} (hdg : decode cc pc = .ok (.iconst n, 1)) (hv : Int32.ofInt n = v) (k : V X G own cc nL ret D cells slots Q b o (pc + 1) lv (.int v :: st) h) : V X G own cc nL ret D cells slots Q b o pc lv st h := by
  intro C H locs ls hR hl
  have C0 := C
  obtain ⟨hx, hb, hml, hown, hts, hlk, hr, hK, hE, hD, hA, hf, hlo⟩ := C0
  exact lv_iconst hx hb hdg hv (k C H locs ls hR hl)
theorem V.bipush {n : Int} {v : Int32} (hdg : decode cc pc = .ok (.bipush n, 2)) (hv : (Int8.ofInt n).toInt32 = v) (k : V X G own cc nL ret D cells slots Q b o (pc + 2) lv (.int v :: st) h) : V X G own cc nL ret D cells slots Q b o pc lv st h := by
  intro C H locs ls hR hl
  have C0 := C
  obtain ⟨hx, hb, hml, hown, hts, hlk, hr, hK, hE, hD, hA, hf, hlo⟩ := C0
  exact lv_bipush hx hb hdg hv (k C H locs ls hR hl)
theorem V.sipush {n : Int} {v : Int32} (hdg : decode cc pc = .ok (.sipush n, 3)) (hv : (Int16.ofInt n).toInt32 = v) (k : V X G own cc nL ret D cells slots Q b o (pc + 3) lv (.int v :: st) h) : V X G own cc nL ret D cells slots Q b o pc lv st h := by
  intro C H locs ls hR hl
  have C0 := C
  obtain ⟨hx, hb, hml, hown, hts, hlk, hr, hK, hE, hD, hA, hf, hlo⟩ := C0
  exact lv_sipush hx hb hdg hv (k C H locs ls hR hl)
theorem V.lconst {n : Fin 2} {v : Int64} (hdg : decode cc pc = .ok (.lconst n, 1)) (hv : Int64.ofNat (n : Nat) = v) (k : V X G own cc nL ret D cells slots Q b o (pc + 1) lv (.long v :: st) h) : V X G own cc nL ret D cells slots Q b o pc lv st h := by
  intro C H locs ls hR hl
  have C0 := C
  obtain ⟨hx, hb, hml, hown, hts, hlk, hr, hK, hE, hD, hA, hf, hlo⟩ := C0
  exact lv_lconst hx hb hdg hv (k C H locs ls hR hl)
theorem V.iload_n {k0 : Fin 4} {i : Nat} {x : Int32} (n : Nat) (hdg : decode cc pc = .ok (.iload_n k0, 1)) (hi : (k0 : Nat) = i) (hk : lv[n]? = some (i, .int x)) (k : V X G own cc nL ret D cells slots Q b o (pc + 1) lv (.int x :: st) h) : V X G own cc nL ret D cells slots Q b o pc lv st h := by
  intro C H locs ls hR hl
  have C0 := C
  obtain ⟨hx, hb, hml, hown, hts, hlk, hr, hK, hE, hD, hA, hf, hlo⟩ := C0
  exact lv_iload_n hx hb hdg hi (lv_at hl n hk) (k C H locs ls hR hl)
theorem V.iload {i : Nat} {x : Int32} (n : Nat) (hdg : decode cc pc = .ok (.iload i, 2)) (hk : lv[n]? = some (i, .int x)) (k : V X G own cc nL ret D cells slots Q b o (pc + 2) lv (.int x :: st) h) : V X G own cc nL ret D cells slots Q b o pc lv st h := by
  intro C H locs ls hR hl
  have C0 := C
  obtain ⟨hx, hb, hml, hown, hts, hlk, hr, hK, hE, hD, hA, hf, hlo⟩ := C0
  exact lv_iload hx hb hdg (lv_at hl n hk) (k C H locs ls hR hl)
theorem V.lload_n {k0 : Fin 4} {i : Nat} {x : Int64} (n : Nat) (hdg : decode cc pc = .ok (.lload_n k0, 1)) (hi : (k0 : Nat) = i) (hk : lv[n]? = some (i, .long x)) (k : V X G own cc nL ret D cells slots Q b o (pc + 1) lv (.long x :: st) h) : V X G own cc nL ret D cells slots Q b o pc lv st h := by
  intro C H locs ls hR hl
  have C0 := C
  obtain ⟨hx, hb, hml, hown, hts, hlk, hr, hK, hE, hD, hA, hf, hlo⟩ := C0
  exact lv_lload_n hx hb hdg hi (lv_at hl n hk) (k C H locs ls hR hl)
theorem V.lload {i : Nat} {x : Int64} (n : Nat) (hdg : decode cc pc = .ok (.lload i, 2)) (hk : lv[n]? = some (i, .long x)) (k : V X G own cc nL ret D cells slots Q b o (pc + 2) lv (.long x :: st) h) : V X G own cc nL ret D cells slots Q b o pc lv st h := by
  intro C H locs ls hR hl
  have C0 := C
  obtain ⟨hx, hb, hml, hown, hts, hlk, hr, hK, hE, hD, hA, hf, hlo⟩ := C0
  exact lv_lload hx hb hdg (lv_at hl n hk) (k C H locs ls hR hl)
theorem V.aload_n {k0 : Fin 4} {i : Nat} {x : Nat} (n : Nat) (hdg : decode cc pc = .ok (.aload_n k0, 1)) (hi : (k0 : Nat) = i) (hk : lv[n]? = some (i, .ref x)) (k : V X G own cc nL ret D cells slots Q b o (pc + 1) lv (.ref x :: st) h) : V X G own cc nL ret D cells slots Q b o pc lv st h := by
  intro C H locs ls hR hl
  have C0 := C
  obtain ⟨hx, hb, hml, hown, hts, hlk, hr, hK, hE, hD, hA, hf, hlo⟩ := C0
  exact lv_aload_n hx hb hdg hi (lv_at hl n hk) (k C H locs ls hR hl)
theorem V.aload {i : Nat} {x : Nat} (n : Nat) (hdg : decode cc pc = .ok (.aload i, 2)) (hk : lv[n]? = some (i, .ref x)) (k : V X G own cc nL ret D cells slots Q b o (pc + 2) lv (.ref x :: st) h) : V X G own cc nL ret D cells slots Q b o pc lv st h := by
  intro C H locs ls hR hl
  have C0 := C
  obtain ⟨hx, hb, hml, hown, hts, hlk, hr, hK, hE, hD, hA, hf, hlo⟩ := C0
  exact lv_aload hx hb hdg (lv_at hl n hk) (k C H locs ls hR hl)
theorem V.istore_n {k0 : Fin 4} {i : Nat} {x : Int32} (lv' : List (Nat × Value)) (hdg : decode cc pc = .ok (.istore_n k0, 1)) (hi : (k0 : Nat) = i) (hn : i < nL) (he : (i, Value.int x) :: lv.filter (fun q => !(q.1 == i) && !(q.1 + 1 == i && q.2.category == 2)) = lv') (k : V X G own cc nL ret D cells slots Q b o (pc + 1) lv' st h) : V X G own cc nL ret D cells slots Q b o pc lv (.int x :: st) h := by
  intro C H locs ls hR hl
  have C0 := C
  obtain ⟨hx, hb, hml, hown, hts, hlk, hr, hK, hE, hD, hA, hf, hlo⟩ := C0
  exact lv_istore_n hx hb hdg hi hl hn he (fun ls hl => k C H locs ls hR hl)
theorem V.istore {i : Nat} {x : Int32} (lv' : List (Nat × Value)) (hdg : decode cc pc = .ok (.istore i, 2)) (hn : i < nL) (he : (i, Value.int x) :: lv.filter (fun q => !(q.1 == i) && !(q.1 + 1 == i && q.2.category == 2)) = lv') (k : V X G own cc nL ret D cells slots Q b o (pc + 2) lv' st h) : V X G own cc nL ret D cells slots Q b o pc lv (.int x :: st) h := by
  intro C H locs ls hR hl
  have C0 := C
  obtain ⟨hx, hb, hml, hown, hts, hlk, hr, hK, hE, hD, hA, hf, hlo⟩ := C0
  exact lv_istore hx hb hdg hl hn he (fun ls hl => k C H locs ls hR hl)
theorem V.lstore_n {k0 : Fin 4} {i : Nat} {x : Int64} (lv' : List (Nat × Value)) (hdg : decode cc pc = .ok (.lstore_n k0, 1)) (hi : (k0 : Nat) = i) (hn : i + 1 < nL) (he : (i, Value.long x) :: lv.filter (fun q => !(q.1 == i) && (!(q.1 == i + 1) && !(q.1 + 1 == i && q.2.category == 2))) = lv') (k : V X G own cc nL ret D cells slots Q b o (pc + 1) lv' st h) : V X G own cc nL ret D cells slots Q b o pc lv (.long x :: st) h := by
  intro C H locs ls hR hl
  have C0 := C
  obtain ⟨hx, hb, hml, hown, hts, hlk, hr, hK, hE, hD, hA, hf, hlo⟩ := C0
  exact lv_lstore_n hx hb hdg hi hl hn he (fun ls hl => k C H locs ls hR hl)
theorem V.lstore {i : Nat} {x : Int64} (lv' : List (Nat × Value)) (hdg : decode cc pc = .ok (.lstore i, 2)) (hn : i + 1 < nL) (he : (i, Value.long x) :: lv.filter (fun q => !(q.1 == i) && (!(q.1 == i + 1) && !(q.1 + 1 == i && q.2.category == 2))) = lv') (k : V X G own cc nL ret D cells slots Q b o (pc + 2) lv' st h) : V X G own cc nL ret D cells slots Q b o pc lv (.long x :: st) h := by
  intro C H locs ls hR hl
  have C0 := C
  obtain ⟨hx, hb, hml, hown, hts, hlk, hr, hK, hE, hD, hA, hf, hlo⟩ := C0
  exact lv_lstore hx hb hdg hl hn he (fun ls hl => k C H locs ls hR hl)
theorem V.astore_n {k0 : Fin 4} {i : Nat} {x : Nat} (lv' : List (Nat × Value)) (hdg : decode cc pc = .ok (.astore_n k0, 1)) (hi : (k0 : Nat) = i) (hn : i < nL) (he : (i, Value.ref x) :: lv.filter (fun q => !(q.1 == i) && !(q.1 + 1 == i && q.2.category == 2)) = lv') (k : V X G own cc nL ret D cells slots Q b o (pc + 1) lv' st h) : V X G own cc nL ret D cells slots Q b o pc lv (.ref x :: st) h := by
  intro C H locs ls hR hl
  have C0 := C
  obtain ⟨hx, hb, hml, hown, hts, hlk, hr, hK, hE, hD, hA, hf, hlo⟩ := C0
  exact lv_astore_n hx hb hdg hi hl hn he (fun ls hl => k C H locs ls hR hl)
theorem V.astore {i : Nat} {x : Nat} (lv' : List (Nat × Value)) (hdg : decode cc pc = .ok (.astore i, 2)) (hn : i < nL) (he : (i, Value.ref x) :: lv.filter (fun q => !(q.1 == i) && !(q.1 + 1 == i && q.2.category == 2)) = lv') (k : V X G own cc nL ret D cells slots Q b o (pc + 2) lv' st h) : V X G own cc nL ret D cells slots Q b o pc lv (.ref x :: st) h := by
  intro C H locs ls hR hl
  have C0 := C
  obtain ⟨hx, hb, hml, hown, hts, hlk, hr, hK, hE, hD, hA, hf, hlo⟩ := C0
  exact lv_astore hx hb hdg hl hn he (fun ls hl => k C H locs ls hR hl)
theorem V.iinc {i : Nat} {n : Int} {x v : Int32} (j : Nat) (lv' : List (Nat × Value)) (hdg : decode cc pc = .ok (.iinc i n, 3)) (hk : lv[j]? = some (i, .int x)) (hv : x + Int32.ofInt n = v) (hn : i < nL) (he : (i, Value.int v) :: lv.filter (fun q => !(q.1 == i) && !(q.1 + 1 == i && q.2.category == 2)) = lv') (k : V X G own cc nL ret D cells slots Q b o (pc + 3) lv' st h) : V X G own cc nL ret D cells slots Q b o pc lv st h := by
  intro C H locs ls hR hl
  have C0 := C
  obtain ⟨hx, hb, hml, hown, hts, hlk, hr, hK, hE, hD, hA, hf, hlo⟩ := C0
  exact lv_iinc hx hb hdg hl hk hv hn he (fun ls hl => k C H locs ls hR hl)
theorem V.iadd {x y : Int32} (hdg : decode cc pc = .ok (.iadd, 1))  (k : V X G own cc nL ret D cells slots Q b o (pc + 1) lv (.int (x + y) :: st) h) : V X G own cc nL ret D cells slots Q b o pc lv (.int y :: .int x :: st) h := by
  intro C H locs ls hR hl
  have C0 := C
  obtain ⟨hx, hb, hml, hown, hts, hlk, hr, hK, hE, hD, hA, hf, hlo⟩ := C0
  exact lv_iadd hx hb hdg (k C H locs ls hR hl)
theorem V.isub {x y : Int32} (hdg : decode cc pc = .ok (.isub, 1))  (k : V X G own cc nL ret D cells slots Q b o (pc + 1) lv (.int (x - y) :: st) h) : V X G own cc nL ret D cells slots Q b o pc lv (.int y :: .int x :: st) h := by
  intro C H locs ls hR hl
  have C0 := C
  obtain ⟨hx, hb, hml, hown, hts, hlk, hr, hK, hE, hD, hA, hf, hlo⟩ := C0
  exact lv_isub hx hb hdg (k C H locs ls hR hl)
theorem V.imul {x y : Int32} (hdg : decode cc pc = .ok (.imul, 1))  (k : V X G own cc nL ret D cells slots Q b o (pc + 1) lv (.int (x * y) :: st) h) : V X G own cc nL ret D cells slots Q b o pc lv (.int y :: .int x :: st) h := by
  intro C H locs ls hR hl
  have C0 := C
  obtain ⟨hx, hb, hml, hown, hts, hlk, hr, hK, hE, hD, hA, hf, hlo⟩ := C0
  exact lv_imul hx hb hdg (k C H locs ls hR hl)
theorem V.iand {x y : Int32} (hdg : decode cc pc = .ok (.iand, 1))  (k : V X G own cc nL ret D cells slots Q b o (pc + 1) lv (.int (x &&& y) :: st) h) : V X G own cc nL ret D cells slots Q b o pc lv (.int y :: .int x :: st) h := by
  intro C H locs ls hR hl
  have C0 := C
  obtain ⟨hx, hb, hml, hown, hts, hlk, hr, hK, hE, hD, hA, hf, hlo⟩ := C0
  exact lv_iand hx hb hdg (k C H locs ls hR hl)
theorem V.ior {x y : Int32} (hdg : decode cc pc = .ok (.ior, 1))  (k : V X G own cc nL ret D cells slots Q b o (pc + 1) lv (.int (x ||| y) :: st) h) : V X G own cc nL ret D cells slots Q b o pc lv (.int y :: .int x :: st) h := by
  intro C H locs ls hR hl
  have C0 := C
  obtain ⟨hx, hb, hml, hown, hts, hlk, hr, hK, hE, hD, hA, hf, hlo⟩ := C0
  exact lv_ior hx hb hdg (k C H locs ls hR hl)
theorem V.ixor {x y : Int32} (hdg : decode cc pc = .ok (.ixor, 1))  (k : V X G own cc nL ret D cells slots Q b o (pc + 1) lv (.int (x ^^^ y) :: st) h) : V X G own cc nL ret D cells slots Q b o pc lv (.int y :: .int x :: st) h := by
  intro C H locs ls hR hl
  have C0 := C
  obtain ⟨hx, hb, hml, hown, hts, hlk, hr, hK, hE, hD, hA, hf, hlo⟩ := C0
  exact lv_ixor hx hb hdg (k C H locs ls hR hl)
theorem V.ishl {x y : Int32} (hdg : decode cc pc = .ok (.ishl, 1))  (k : V X G own cc nL ret D cells slots Q b o (pc + 1) lv (.int (x <<< (y &&& 31)) :: st) h) : V X G own cc nL ret D cells slots Q b o pc lv (.int y :: .int x :: st) h := by
  intro C H locs ls hR hl
  have C0 := C
  obtain ⟨hx, hb, hml, hown, hts, hlk, hr, hK, hE, hD, hA, hf, hlo⟩ := C0
  exact lv_ishl hx hb hdg (k C H locs ls hR hl)
theorem V.ishr {x y : Int32} (hdg : decode cc pc = .ok (.ishr, 1))  (k : V X G own cc nL ret D cells slots Q b o (pc + 1) lv (.int (x >>> (y &&& 31)) :: st) h) : V X G own cc nL ret D cells slots Q b o pc lv (.int y :: .int x :: st) h := by
  intro C H locs ls hR hl
  have C0 := C
  obtain ⟨hx, hb, hml, hown, hts, hlk, hr, hK, hE, hD, hA, hf, hlo⟩ := C0
  exact lv_ishr hx hb hdg (k C H locs ls hR hl)
theorem V.ladd {x y : Int64} (hdg : decode cc pc = .ok (.ladd, 1))  (k : V X G own cc nL ret D cells slots Q b o (pc + 1) lv (.long (x + y) :: st) h) : V X G own cc nL ret D cells slots Q b o pc lv (.long y :: .long x :: st) h := by
  intro C H locs ls hR hl
  have C0 := C
  obtain ⟨hx, hb, hml, hown, hts, hlk, hr, hK, hE, hD, hA, hf, hlo⟩ := C0
  exact lv_ladd hx hb hdg (k C H locs ls hR hl)
theorem V.lsub {x y : Int64} (hdg : decode cc pc = .ok (.lsub, 1))  (k : V X G own cc nL ret D cells slots Q b o (pc + 1) lv (.long (x - y) :: st) h) : V X G own cc nL ret D cells slots Q b o pc lv (.long y :: .long x :: st) h := by
  intro C H locs ls hR hl
  have C0 := C
  obtain ⟨hx, hb, hml, hown, hts, hlk, hr, hK, hE, hD, hA, hf, hlo⟩ := C0
  exact lv_lsub hx hb hdg (k C H locs ls hR hl)
theorem V.lmul {x y : Int64} (hdg : decode cc pc = .ok (.lmul, 1))  (k : V X G own cc nL ret D cells slots Q b o (pc + 1) lv (.long (x * y) :: st) h) : V X G own cc nL ret D cells slots Q b o pc lv (.long y :: .long x :: st) h := by
  intro C H locs ls hR hl
  have C0 := C
  obtain ⟨hx, hb, hml, hown, hts, hlk, hr, hK, hE, hD, hA, hf, hlo⟩ := C0
  exact lv_lmul hx hb hdg (k C H locs ls hR hl)
theorem V.land {x y : Int64} (hdg : decode cc pc = .ok (.land, 1))  (k : V X G own cc nL ret D cells slots Q b o (pc + 1) lv (.long (x &&& y) :: st) h) : V X G own cc nL ret D cells slots Q b o pc lv (.long y :: .long x :: st) h := by
  intro C H locs ls hR hl
  have C0 := C
  obtain ⟨hx, hb, hml, hown, hts, hlk, hr, hK, hE, hD, hA, hf, hlo⟩ := C0
  exact lv_land hx hb hdg (k C H locs ls hR hl)
theorem V.lor {x y : Int64} (hdg : decode cc pc = .ok (.lor, 1))  (k : V X G own cc nL ret D cells slots Q b o (pc + 1) lv (.long (x ||| y) :: st) h) : V X G own cc nL ret D cells slots Q b o pc lv (.long y :: .long x :: st) h := by
  intro C H locs ls hR hl
  have C0 := C
  obtain ⟨hx, hb, hml, hown, hts, hlk, hr, hK, hE, hD, hA, hf, hlo⟩ := C0
  exact lv_lor hx hb hdg (k C H locs ls hR hl)
theorem V.idiv {x y : Int32} (hdg : decode cc pc = .ok (.idiv, 1)) (hne : ¬ y = 0) (k : V X G own cc nL ret D cells slots Q b o (pc + 1) lv (.int (x / y) :: st) h) : V X G own cc nL ret D cells slots Q b o pc lv (.int y :: .int x :: st) h := by
  intro C H locs ls hR hl
  have C0 := C
  obtain ⟨hx, hb, hml, hown, hts, hlk, hr, hK, hE, hD, hA, hf, hlo⟩ := C0
  exact lv_idiv hx hb hdg hne (k C H locs ls hR hl)
theorem V.irem {x y : Int32} (hdg : decode cc pc = .ok (.irem, 1)) (hne : ¬ y = 0) (k : V X G own cc nL ret D cells slots Q b o (pc + 1) lv (.int (x - x / y * y) :: st) h) : V X G own cc nL ret D cells slots Q b o pc lv (.int y :: .int x :: st) h := by
  intro C H locs ls hR hl
  have C0 := C
  obtain ⟨hx, hb, hml, hown, hts, hlk, hr, hK, hE, hD, hA, hf, hlo⟩ := C0
  exact lv_irem hx hb hdg hne (k C H locs ls hR hl)
theorem V.ldiv {x y : Int64} (hdg : decode cc pc = .ok (.ldiv, 1)) (hne : ¬ y = 0) (k : V X G own cc nL ret D cells slots Q b o (pc + 1) lv (.long (x / y) :: st) h) : V X G own cc nL ret D cells slots Q b o pc lv (.long y :: .long x :: st) h := by
  intro C H locs ls hR hl
  have C0 := C
  obtain ⟨hx, hb, hml, hown, hts, hlk, hr, hK, hE, hD, hA, hf, hlo⟩ := C0
  exact lv_ldiv hx hb hdg hne (k C H locs ls hR hl)
theorem V.lrem {x y : Int64} (hdg : decode cc pc = .ok (.lrem, 1)) (hne : ¬ y = 0) (k : V X G own cc nL ret D cells slots Q b o (pc + 1) lv (.long (x - x / y * y) :: st) h) : V X G own cc nL ret D cells slots Q b o pc lv (.long y :: .long x :: st) h := by
  intro C H locs ls hR hl
  have C0 := C
  obtain ⟨hx, hb, hml, hown, hts, hlk, hr, hK, hE, hD, hA, hf, hlo⟩ := C0
  exact lv_lrem hx hb hdg hne (k C H locs ls hR hl)
theorem V.iushr {x y : Int32} (hdg : decode cc pc = .ok (.iushr, 1))  (k : V X G own cc nL ret D cells slots Q b o (pc + 1) lv (.int (x.toUInt32 >>> (y.toUInt32 &&& Int32.toUInt32 31)).toInt32 :: st) h) : V X G own cc nL ret D cells slots Q b o pc lv (.int y :: .int x :: st) h := by
  intro C H locs ls hR hl
  have C0 := C
  obtain ⟨hx, hb, hml, hown, hts, hlk, hr, hK, hE, hD, hA, hf, hlo⟩ := C0
  exact lv_iushr hx hb hdg rfl (k C H locs ls hR hl)
theorem V.lushr {x : Int64} {y : Int32} (hdg : decode cc pc = .ok (.lushr, 1))  (k : V X G own cc nL ret D cells slots Q b o (pc + 1) lv (.long (x.toUInt64 >>> (y.toInt64.toUInt64 &&& Int64.toUInt64 63)).toInt64 :: st) h) : V X G own cc nL ret D cells slots Q b o pc lv (.int y :: .long x :: st) h := by
  intro C H locs ls hR hl
  have C0 := C
  obtain ⟨hx, hb, hml, hown, hts, hlk, hr, hK, hE, hD, hA, hf, hlo⟩ := C0
  exact lv_lushr hx hb hdg rfl (k C H locs ls hR hl)
theorem V.lshl {x : Int64} {y : Int32} (hdg : decode cc pc = .ok (.lshl, 1))  (k : V X G own cc nL ret D cells slots Q b o (pc + 1) lv (.long (x <<< (y.toInt64 &&& 63)) :: st) h) : V X G own cc nL ret D cells slots Q b o pc lv (.int y :: .long x :: st) h := by
  intro C H locs ls hR hl
  have C0 := C
  obtain ⟨hx, hb, hml, hown, hts, hlk, hr, hK, hE, hD, hA, hf, hlo⟩ := C0
  exact lv_lshl hx hb hdg rfl (k C H locs ls hR hl)
theorem V.lshr {x : Int64} {y : Int32} (hdg : decode cc pc = .ok (.lshr, 1))  (k : V X G own cc nL ret D cells slots Q b o (pc + 1) lv (.long (x >>> (y.toInt64 &&& 63)) :: st) h) : V X G own cc nL ret D cells slots Q b o pc lv (.int y :: .long x :: st) h := by
  intro C H locs ls hR hl
  have C0 := C
  obtain ⟨hx, hb, hml, hown, hts, hlk, hr, hK, hE, hD, hA, hf, hlo⟩ := C0
  exact lv_lshr hx hb hdg rfl (k C H locs ls hR hl)
theorem V.ineg {x : Int32} (hdg : decode cc pc = .ok (.ineg, 1))  (k : V X G own cc nL ret D cells slots Q b o (pc + 1) lv (.int (-x) :: st) h) : V X G own cc nL ret D cells slots Q b o pc lv (.int x :: st) h := by
  intro C H locs ls hR hl
  have C0 := C
  obtain ⟨hx, hb, hml, hown, hts, hlk, hr, hK, hE, hD, hA, hf, hlo⟩ := C0
  exact lv_ineg hx hb hdg (k C H locs ls hR hl)
theorem V.lneg {x : Int64} (hdg : decode cc pc = .ok (.lneg, 1))  (k : V X G own cc nL ret D cells slots Q b o (pc + 1) lv (.long (-x) :: st) h) : V X G own cc nL ret D cells slots Q b o pc lv (.long x :: st) h := by
  intro C H locs ls hR hl
  have C0 := C
  obtain ⟨hx, hb, hml, hown, hts, hlk, hr, hK, hE, hD, hA, hf, hlo⟩ := C0
  exact lv_lneg hx hb hdg (k C H locs ls hR hl)
theorem V.i2l {x : Int32} (hdg : decode cc pc = .ok (.i2l, 1))  (k : V X G own cc nL ret D cells slots Q b o (pc + 1) lv (.long x.toInt64 :: st) h) : V X G own cc nL ret D cells slots Q b o pc lv (.int x :: st) h := by
  intro C H locs ls hR hl
  have C0 := C
  obtain ⟨hx, hb, hml, hown, hts, hlk, hr, hK, hE, hD, hA, hf, hlo⟩ := C0
  exact lv_i2l hx hb hdg rfl (k C H locs ls hR hl)
theorem V.l2i {x : Int64} (hdg : decode cc pc = .ok (.l2i, 1))  (k : V X G own cc nL ret D cells slots Q b o (pc + 1) lv (.int x.toInt32 :: st) h) : V X G own cc nL ret D cells slots Q b o pc lv (.long x :: st) h := by
  intro C H locs ls hR hl
  have C0 := C
  obtain ⟨hx, hb, hml, hown, hts, hlk, hr, hK, hE, hD, hA, hf, hlo⟩ := C0
  exact lv_l2i hx hb hdg rfl (k C H locs ls hR hl)
theorem V.i2b {x : Int32} (hdg : decode cc pc = .ok (.i2b, 1))  (k : V X G own cc nL ret D cells slots Q b o (pc + 1) lv (.int x.toInt8.toInt32 :: st) h) : V X G own cc nL ret D cells slots Q b o pc lv (.int x :: st) h := by
  intro C H locs ls hR hl
  have C0 := C
  obtain ⟨hx, hb, hml, hown, hts, hlk, hr, hK, hE, hD, hA, hf, hlo⟩ := C0
  exact lv_i2b hx hb hdg rfl (k C H locs ls hR hl)
theorem V.i2c {x : Int32} (hdg : decode cc pc = .ok (.i2c, 1))  (k : V X G own cc nL ret D cells slots Q b o (pc + 1) lv (.int (x.toUInt32 % 65536).toInt32 :: st) h) : V X G own cc nL ret D cells slots Q b o pc lv (.int x :: st) h := by
  intro C H locs ls hR hl
  have C0 := C
  obtain ⟨hx, hb, hml, hown, hts, hlk, hr, hK, hE, hD, hA, hf, hlo⟩ := C0
  exact lv_i2c hx hb hdg rfl (k C H locs ls hR hl)
theorem V.lcmp {x y : Int64} (hdg : decode cc pc = .ok (.lcmp, 1))  (k : V X G own cc nL ret D cells slots Q b o (pc + 1) lv (.int (lg_cmp x y) :: st) h) : V X G own cc nL ret D cells slots Q b o pc lv (.long y :: .long x :: st) h := by
  intro C H locs ls hR hl
  have C0 := C
  obtain ⟨hx, hb, hml, hown, hts, hlk, hr, hK, hE, hD, hA, hf, hlo⟩ := C0
  exact W.lcmp hx hb hdg (k C H locs ls hR hl)
theorem V.dup {va : Value} (hdg : decode cc pc = .ok (.dup, 1)) (hva : va.category = 1) (k : V X G own cc nL ret D cells slots Q b o (pc + 1) lv (va :: va :: st) h) : V X G own cc nL ret D cells slots Q b o pc lv (va :: st) h := by
  intro C H locs ls hR hl
  have C0 := C
  obtain ⟨hx, hb, hml, hown, hts, hlk, hr, hK, hE, hD, hA, hf, hlo⟩ := C0
  exact lv_dup hx hb hdg hva (k C H locs ls hR hl)
theorem V.pop {va : Value} (hdg : decode cc pc = .ok (.pop, 1)) (hva : va.category = 1) (k : V X G own cc nL ret D cells slots Q b o (pc + 1) lv st h) : V X G own cc nL ret D cells slots Q b o pc lv (va :: st) h := by
  intro C H locs ls hR hl
  have C0 := C
  obtain ⟨hx, hb, hml, hown, hts, hlk, hr, hK, hE, hD, hA, hf, hlo⟩ := C0
  exact lv_pop hx hb hdg hva (k C H locs ls hR hl)
theorem V.dup2 {va vb : Value} (hdg : decode cc pc = .ok (.dup2, 1)) (hva : va.category = 1) (hvb : vb.category = 1) (k : V X G own cc nL ret D cells slots Q b o (pc + 1) lv (va :: vb :: va :: vb :: st) h) : V X G own cc nL ret D cells slots Q b o pc lv (va :: vb :: st) h := by
  intro C H locs ls hR hl
  have C0 := C
  obtain ⟨hx, hb, hml, hown, hts, hlk, hr, hK, hE, hD, hA, hf, hlo⟩ := C0
  exact lv_dup2_11 hx hb hdg hva hvb (k C H locs ls hR hl)
theorem V.ldc {index : Nat} {v : Int32} (hdg : decode cc pc = .ok (.ldc index, 2)) (hw : Cond.constant own index v ∈ gtbl) (k : V X G own cc nL ret D cells slots Q b o (pc + 2) lv (.int v :: st) h) : V X G own cc nL ret D cells slots Q b o pc lv st h := by
  intro C H locs ls hR hl
  have C0 := C
  obtain ⟨hx, hb, hml, hown, hts, hlk, hr, hK, hE, hD, hA, hf, hlo⟩ := C0
  exact lv_ldc hx hb hown (hts _ hw) hdg (k C H locs ls hR hl)
theorem V.ldcw {index : Nat} {v : Int32} (hdg : decode cc pc = .ok (.ldc_w index, 3)) (hw : Cond.constant own index v ∈ gtbl) (k : V X G own cc nL ret D cells slots Q b o (pc + 3) lv (.int v :: st) h) : V X G own cc nL ret D cells slots Q b o pc lv st h := by
  intro C H locs ls hR hl
  have C0 := C
  obtain ⟨hx, hb, hml, hown, hts, hlk, hr, hK, hE, hD, hA, hf, hlo⟩ := C0
  exact lv_ldcw hx hb hown (hts _ hw) hdg (k C H locs ls hR hl)
theorem V.ldc2 {index : Nat} {v : Int64} (hdg : decode cc pc = .ok (.ldc2_w index, 3)) (hw : Cond.constantLong own index v ∈ gtbl) (k : V X G own cc nL ret D cells slots Q b o (pc + 3) lv (.long v :: st) h) : V X G own cc nL ret D cells slots Q b o pc lv st h := by
  intro C H locs ls hR hl
  have C0 := C
  obtain ⟨hx, hb, hml, hown, hts, hlk, hr, hK, hE, hD, hA, hf, hlo⟩ := C0
  exact lv_ldc2 hx hb hown (hts _ hw) hdg (k C H locs ls hR hl)
theorem V.if_eq {x : Int32} {off : Int} {tgt : Nat} (hdg : decode cc pc = .ok (.ifCond .eq off, 3)) (ht : (pc : Int) + off = (tgt : Int)) (kt : x = 0 → V X G own cc nL ret D cells slots Q b o tgt lv st h) (kf : ¬ x = 0 → V X G own cc nL ret D cells slots Q b o (pc + 3) lv st h) : V X G own cc nL ret D cells slots Q b o pc lv (.int x :: st) h := by
  intro C H locs ls hR hl
  have C0 := C
  obtain ⟨hx, hb, hml, hown, hts, hlk, hr, hK, hE, hD, hA, hf, hlo⟩ := C0
  exact lv_if_eq hx hb hdg ht (fun q => kt q C H locs ls hR hl) (fun q => kf q C H locs ls hR hl)
theorem V.icmp_eq {x y : Int32} {off : Int} {tgt : Nat} (hdg : decode cc pc = .ok (.if_icmp .eq off, 3)) (ht : (pc : Int) + off = (tgt : Int)) (kt : x = y → V X G own cc nL ret D cells slots Q b o tgt lv st h) (kf : ¬ x = y → V X G own cc nL ret D cells slots Q b o (pc + 3) lv st h) : V X G own cc nL ret D cells slots Q b o pc lv (.int y :: .int x :: st) h := by
  intro C H locs ls hR hl
  have C0 := C
  obtain ⟨hx, hb, hml, hown, hts, hlk, hr, hK, hE, hD, hA, hf, hlo⟩ := C0
  exact lv_icmp_eq hx hb hdg ht (fun q => kt q C H locs ls hR hl) (fun q => kf q C H locs ls hR hl)
theorem V.if_ne {x : Int32} {off : Int} {tgt : Nat} (hdg : decode cc pc = .ok (.ifCond .ne off, 3)) (ht : (pc : Int) + off = (tgt : Int)) (kt : ¬ x = 0 → V X G own cc nL ret D cells slots Q b o tgt lv st h) (kf : x = 0 → V X G own cc nL ret D cells slots Q b o (pc + 3) lv st h) : V X G own cc nL ret D cells slots Q b o pc lv (.int x :: st) h := by
  intro C H locs ls hR hl
  have C0 := C
  obtain ⟨hx, hb, hml, hown, hts, hlk, hr, hK, hE, hD, hA, hf, hlo⟩ := C0
  exact lv_if_ne hx hb hdg ht (fun q => kt q C H locs ls hR hl) (fun q => kf q C H locs ls hR hl)
theorem V.icmp_ne {x y : Int32} {off : Int} {tgt : Nat} (hdg : decode cc pc = .ok (.if_icmp .ne off, 3)) (ht : (pc : Int) + off = (tgt : Int)) (kt : ¬ x = y → V X G own cc nL ret D cells slots Q b o tgt lv st h) (kf : x = y → V X G own cc nL ret D cells slots Q b o (pc + 3) lv st h) : V X G own cc nL ret D cells slots Q b o pc lv (.int y :: .int x :: st) h := by
  intro C H locs ls hR hl
  have C0 := C
  obtain ⟨hx, hb, hml, hown, hts, hlk, hr, hK, hE, hD, hA, hf, hlo⟩ := C0
  exact lv_icmp_ne hx hb hdg ht (fun q => kt q C H locs ls hR hl) (fun q => kf q C H locs ls hR hl)
theorem V.if_lt {x : Int32} {off : Int} {tgt : Nat} (hdg : decode cc pc = .ok (.ifCond .lt off, 3)) (ht : (pc : Int) + off = (tgt : Int)) (kt : x < 0 → V X G own cc nL ret D cells slots Q b o tgt lv st h) (kf : ¬ x < 0 → V X G own cc nL ret D cells slots Q b o (pc + 3) lv st h) : V X G own cc nL ret D cells slots Q b o pc lv (.int x :: st) h := by
  intro C H locs ls hR hl
  have C0 := C
  obtain ⟨hx, hb, hml, hown, hts, hlk, hr, hK, hE, hD, hA, hf, hlo⟩ := C0
  exact lv_if_lt hx hb hdg ht (fun q => kt q C H locs ls hR hl) (fun q => kf q C H locs ls hR hl)
theorem V.icmp_lt {x y : Int32} {off : Int} {tgt : Nat} (hdg : decode cc pc = .ok (.if_icmp .lt off, 3)) (ht : (pc : Int) + off = (tgt : Int)) (kt : x < y → V X G own cc nL ret D cells slots Q b o tgt lv st h) (kf : ¬ x < y → V X G own cc nL ret D cells slots Q b o (pc + 3) lv st h) : V X G own cc nL ret D cells slots Q b o pc lv (.int y :: .int x :: st) h := by
  intro C H locs ls hR hl
  have C0 := C
  obtain ⟨hx, hb, hml, hown, hts, hlk, hr, hK, hE, hD, hA, hf, hlo⟩ := C0
  exact lv_icmp_lt hx hb hdg ht (fun q => kt q C H locs ls hR hl) (fun q => kf q C H locs ls hR hl)
theorem V.if_ge {x : Int32} {off : Int} {tgt : Nat} (hdg : decode cc pc = .ok (.ifCond .ge off, 3)) (ht : (pc : Int) + off = (tgt : Int)) (kt : 0 ≤ x → V X G own cc nL ret D cells slots Q b o tgt lv st h) (kf : ¬ 0 ≤ x → V X G own cc nL ret D cells slots Q b o (pc + 3) lv st h) : V X G own cc nL ret D cells slots Q b o pc lv (.int x :: st) h := by
  intro C H locs ls hR hl
  have C0 := C
  obtain ⟨hx, hb, hml, hown, hts, hlk, hr, hK, hE, hD, hA, hf, hlo⟩ := C0
  exact lv_if_ge hx hb hdg ht (fun q => kt q C H locs ls hR hl) (fun q => kf q C H locs ls hR hl)
theorem V.icmp_ge {x y : Int32} {off : Int} {tgt : Nat} (hdg : decode cc pc = .ok (.if_icmp .ge off, 3)) (ht : (pc : Int) + off = (tgt : Int)) (kt : y ≤ x → V X G own cc nL ret D cells slots Q b o tgt lv st h) (kf : ¬ y ≤ x → V X G own cc nL ret D cells slots Q b o (pc + 3) lv st h) : V X G own cc nL ret D cells slots Q b o pc lv (.int y :: .int x :: st) h := by
  intro C H locs ls hR hl
  have C0 := C
  obtain ⟨hx, hb, hml, hown, hts, hlk, hr, hK, hE, hD, hA, hf, hlo⟩ := C0
  exact lv_icmp_ge hx hb hdg ht (fun q => kt q C H locs ls hR hl) (fun q => kf q C H locs ls hR hl)
theorem V.if_gt {x : Int32} {off : Int} {tgt : Nat} (hdg : decode cc pc = .ok (.ifCond .gt off, 3)) (ht : (pc : Int) + off = (tgt : Int)) (kt : 0 < x → V X G own cc nL ret D cells slots Q b o tgt lv st h) (kf : ¬ 0 < x → V X G own cc nL ret D cells slots Q b o (pc + 3) lv st h) : V X G own cc nL ret D cells slots Q b o pc lv (.int x :: st) h := by
  intro C H locs ls hR hl
  have C0 := C
  obtain ⟨hx, hb, hml, hown, hts, hlk, hr, hK, hE, hD, hA, hf, hlo⟩ := C0
  exact lv_if_gt hx hb hdg ht (fun q => kt q C H locs ls hR hl) (fun q => kf q C H locs ls hR hl)
theorem V.icmp_gt {x y : Int32} {off : Int} {tgt : Nat} (hdg : decode cc pc = .ok (.if_icmp .gt off, 3)) (ht : (pc : Int) + off = (tgt : Int)) (kt : y < x → V X G own cc nL ret D cells slots Q b o tgt lv st h) (kf : ¬ y < x → V X G own cc nL ret D cells slots Q b o (pc + 3) lv st h) : V X G own cc nL ret D cells slots Q b o pc lv (.int y :: .int x :: st) h := by
  intro C H locs ls hR hl
  have C0 := C
  obtain ⟨hx, hb, hml, hown, hts, hlk, hr, hK, hE, hD, hA, hf, hlo⟩ := C0
  exact lv_icmp_gt hx hb hdg ht (fun q => kt q C H locs ls hR hl) (fun q => kf q C H locs ls hR hl)
theorem V.if_le {x : Int32} {off : Int} {tgt : Nat} (hdg : decode cc pc = .ok (.ifCond .le off, 3)) (ht : (pc : Int) + off = (tgt : Int)) (kt : x ≤ 0 → V X G own cc nL ret D cells slots Q b o tgt lv st h) (kf : ¬ x ≤ 0 → V X G own cc nL ret D cells slots Q b o (pc + 3) lv st h) : V X G own cc nL ret D cells slots Q b o pc lv (.int x :: st) h := by
  intro C H locs ls hR hl
  have C0 := C
  obtain ⟨hx, hb, hml, hown, hts, hlk, hr, hK, hE, hD, hA, hf, hlo⟩ := C0
  exact lv_if_le hx hb hdg ht (fun q => kt q C H locs ls hR hl) (fun q => kf q C H locs ls hR hl)
theorem V.icmp_le {x y : Int32} {off : Int} {tgt : Nat} (hdg : decode cc pc = .ok (.if_icmp .le off, 3)) (ht : (pc : Int) + off = (tgt : Int)) (kt : x ≤ y → V X G own cc nL ret D cells slots Q b o tgt lv st h) (kf : ¬ x ≤ y → V X G own cc nL ret D cells slots Q b o (pc + 3) lv st h) : V X G own cc nL ret D cells slots Q b o pc lv (.int y :: .int x :: st) h := by
  intro C H locs ls hR hl
  have C0 := C
  obtain ⟨hx, hb, hml, hown, hts, hlk, hr, hK, hE, hD, hA, hf, hlo⟩ := C0
  exact lv_icmp_le hx hb hdg ht (fun q => kt q C H locs ls hR hl) (fun q => kf q C H locs ls hR hl)
theorem b2i_0 {v : Bool} : b2i v = 0 ↔ v = false := by cases v <;> decide
theorem V.ifz_eq {v : Bool} {off : Int} {tgt : Nat} (hdg : decode cc pc = .ok (.ifCond .eq off, 3)) (ht : (pc : Int) + off = (tgt : Int)) (kt : ¬ v = true → V X G own cc nL ret D cells slots Q b o tgt lv st h) (kf : v = true → V X G own cc nL ret D cells slots Q b o (pc + 3) lv st h) : V X G own cc nL ret D cells slots Q b o pc lv (.int (b2i v) :: st) h :=
  V.if_eq hdg ht (fun q => kt (by rw [b2i_0.mp q]; decide)) (fun q => kf (by cases v; exact absurd rfl q; rfl))
theorem V.ifz_ne {v : Bool} {off : Int} {tgt : Nat} (hdg : decode cc pc = .ok (.ifCond .ne off, 3)) (ht : (pc : Int) + off = (tgt : Int)) (kt : v = true → V X G own cc nL ret D cells slots Q b o tgt lv st h) (kf : ¬ v = true → V X G own cc nL ret D cells slots Q b o (pc + 3) lv st h) : V X G own cc nL ret D cells slots Q b o pc lv (.int (b2i v) :: st) h :=
  V.if_ne hdg ht (fun q => kt (by cases v; exact absurd rfl q; rfl)) (fun q => kf (by rw [b2i_0.mp q]; decide))
theorem V.goto {off : Int} {tgt : Nat} (hdg : decode cc pc = .ok (.goto off, 3)) (ht : (pc : Int) + off = (tgt : Int)) (k : V X G own cc nL ret D cells slots Q b o tgt lv st h) : V X G own cc nL ret D cells slots Q b o pc lv st h := by
  intro C H locs ls hR hl
  have C0 := C
  obtain ⟨hx, hb, hml, hown, hts, hlk, hr, hK, hE, hD, hA, hf, hlo⟩ := C0
  exact lv_goto hx hb hdg ht (k C H locs ls hR hl)
theorem V.ifnull {a : Nat} {off : Int} (hdg : decode cc pc = .ok (.ifnull off, 3)) (k : V X G own cc nL ret D cells slots Q b o (pc + 3) lv st h) : V X G own cc nL ret D cells slots Q b o pc lv (.ref a :: st) h := by
  intro C H locs ls hR hl
  have C0 := C
  obtain ⟨hx, hb, hml, hown, hts, hlk, hr, hK, hE, hD, hA, hf, hlo⟩ := C0
  exact lv_ifnull hx hb hdg (k C H locs ls hR hl)
theorem V.ifnonnull {a : Nat} {off : Int} {tgt : Nat} (hdg : decode cc pc = .ok (.ifnonnull off, 3)) (ht : (pc : Int) + off = (tgt : Int)) (k : V X G own cc nL ret D cells slots Q b o tgt lv st h) : V X G own cc nL ret D cells slots Q b o pc lv (.ref a :: st) h := by
  intro C H locs ls hR hl
  have C0 := C
  obtain ⟨hx, hb, hml, hown, hts, hlk, hr, hK, hE, hD, hA, hf, hlo⟩ := C0
  exact lv_ifnonnull hx hb hdg ht (k C H locs ls hR hl)
theorem V.tswOut {dflt lo hi : Int} {offs : Array Int} {len : Nat} {x : Int32} {tgt : Nat} (hdg : decode cc pc = .ok (.tableswitch dflt lo hi offs, len)) (hq : x.toInt < lo ∨ hi < x.toInt) (ht : (pc : Int) + dflt = (tgt : Int)) (k : V X G own cc nL ret D cells slots Q b o tgt lv st h) : V X G own cc nL ret D cells slots Q b o pc lv (.int x :: st) h := by
  intro C H locs ls hR hl
  have C0 := C
  obtain ⟨hx, hb, hml, hown, hts, hlk, hr, hK, hE, hD, hA, hf, hlo⟩ := C0
  exact lv_tableOut hx hb hdg hq ht (k C H locs ls hR hl)
theorem V.tswIn {dflt lo hi : Int} {offs : Array Int} {len : Nat} {x y : Int32} {off : Int} {tgt : Nat} (hxy : x = y) (hdg : decode cc pc = .ok (.tableswitch dflt lo hi offs, len)) (h1 : ¬ y.toInt < lo) (h2 : ¬ hi < y.toInt) (ho : offs[(y.toInt - lo).toNat]? = some off) (ht : (pc : Int) + off = (tgt : Int)) (k : V X G own cc nL ret D cells slots Q b o tgt lv st h) : V X G own cc nL ret D cells slots Q b o pc lv (.int x :: st) h := by
  subst hxy
  intro C H locs ls hR hl
  have C0 := C
  obtain ⟨hx, hb, hml, hown, hts, hlk, hr, hK, hE, hD, hA, hf, hlo⟩ := C0
  exact lv_tableIn hx hb hdg h1 h2 ho ht (k C H locs ls hR hl)
/-- a class's own rows -/
def cOK (ci : Nat) (Cn : String) (T : u_T) (N : Nat) : Prop := vwCl[ci]? = some (Cn, T, N) ∧ (∀ w ∈ u_ws Cn T N, w ∈ gtbl) ∧ (∃ ty0 : Nat → FieldType, ∀ k, k < N → parseFieldDescriptor (T k).2.2.1 = some (ty0 k)) ∧ (∀ a, a < N → ∀ b, b < N → a ≠ b → (T a).2.1 ≠ (T b).2.1)
/-- a field link's row -/
abbrev fOK (own : String) (idx ci : Nat) (Cn : String) (T : u_T) (N k : Nat) : Prop := cOK ci Cn T N ∧ k < N ∧ (T k).1 = Cn ∧ Cond.fieldLink own idx Cn (T k).2.1 (T k).2.2.1 ∈ gtbl
theorem V.getI {id ci idx k N : Nat} {Cn : String} {T : u_T} (hf : fOK own idx ci Cn T N k) (hs : SHF[id]? = some (.inl ci)) (hd : (DS ci)[k]? = some 0) (hc : decide (id < KM) = b) (hdg : decode cc pc = .ok (.getfield idx, 3)) (kk : V X G own cc nL ret D cells slots Q b o (pc + 3) lv (.int (h.1 id k) :: st) h) : V X G own cc nL ret D cells slots Q b o pc lv (.ref (xa X id) :: st) h := by
  intro C H locs ls hR hl
  have C0 := C
  obtain ⟨hx, hb, hml, hown, hts, hlk, hr, hK, hE, hD, hA, hfr, hlo⟩ := C0
  obtain ⟨⟨c1, c2, c3, c4⟩, hk, hT, hw⟩ := hf
  refine va_get hx hb hts c2 hown hK hR.1 id (wd_get hs) c1 k hk (hts _ hw) (fun x q => by rw [hT] at q; exact q) (v := .int (h.1 id k)) ?_ hdg (kk C H locs ls hR hl)
  rw [fdL_get hd]
  simp only [fdV, if_true, cbs_1 hc]
theorem V.getJ {id ci idx k N : Nat} {Cn : String} {T : u_T} (hf : fOK own idx ci Cn T N k) (hs : SHF[id]? = some (.inl ci)) (hd : (DS ci)[k]? = some 1) (hc : decide (id < KM) = b) (hdg : decode cc pc = .ok (.getfield idx, 3)) (kk : V X G own cc nL ret D cells slots Q b o (pc + 3) lv (.long (h.2 id k) :: st) h) : V X G own cc nL ret D cells slots Q b o pc lv (.ref (xa X id) :: st) h := by
  intro C H locs ls hR hl
  have C0 := C
  obtain ⟨hx, hb, hml, hown, hts, hlk, hr, hK, hE, hD, hA, hfr, hlo⟩ := C0
  obtain ⟨⟨c1, c2, c3, c4⟩, hk, hT, hw⟩ := hf
  refine va_get hx hb hts c2 hown hK hR.1 id (wd_get hs) c1 k hk (hts _ hw) (fun x q => by rw [hT] at q; exact q) (v := .long (h.2 id k)) ?_ hdg (kk C H locs ls hR hl)
  rw [fdL_get hd]
  simp [fdV, cbs_2 hc]
theorem ofNat_succ_ne {v : Nat} (hv : v < 1000000) : ¬ Int32.ofNat (v + 1) = 0 := nI_ne0 (n := v + 1) (by omega) (by omega)
theorem rfN_ofNat {al : Nat → Nat} {v : Nat} (hv : v < 1000000) : rfN al (Int32.ofNat (v + 1)) = some (al v) := by
  have e : (Int32.ofNat (v + 1)).toNatClampNeg = v + 1 := nI_clamp (n := v + 1) (by omega)
  simp only [rfN, if_neg (ofNat_succ_ne hv), e, Nat.add_sub_cancel]
theorem fdV_r {al : Nat → Nat} {M : Mm} {i k d : Nat} (h0 : d ≠ 0) (h1 : d ≠ 1) : fdV al M i k d = va_rf (rfN al (M.1 i k)) := by simp only [fdV, if_neg h0, if_neg h1]
theorem V.getR {id ci idx k N v : Nat} {Cn : String} {T : u_T} (hf : fOK own idx ci Cn T N k) (hs : SHF[id]? = some (.inl ci)) (hd : (DS ci)[k]? = some 2) (hv : fxv id k = v + 1) (hlt : v < 1000000) (hdg : decode cc pc = .ok (.getfield idx, 3)) (kk : V X G own cc nL ret D cells slots Q b o (pc + 3) lv (.ref (xa X v) :: st) h) : V X G own cc nL ret D cells slots Q b o pc lv (.ref (xa X id) :: st) h := by
  intro C H locs ls hR hl
  have C0 := C
  obtain ⟨hx, hb, hml, hown, hts, hlk, hr, hK, hE, hD, hA, hfr, hlo⟩ := C0
  obtain ⟨⟨c1, c2, c3, c4⟩, hk, hT, hw⟩ := hf
  refine va_get hx hb hts c2 hown hK hR.1 id (wd_get hs) c1 k hk (hts _ hw) (fun x q => by rw [hT] at q; exact q) (v := .ref (xa X v)) ?_ hdg (kk C H locs ls hR hl)
  rw [fdL_get hd]
  have e := hR.2.2 id k (fx_ref hs hd)
  rw [hv] at e
  rw [fdV_r (by decide) (by decide), e, rfN_ofNat hlt]; rfl
theorem V.getN {id ci idx k N : Nat} {Cn : String} {T : u_T} (hf : fOK own idx ci Cn T N k) (hs : SHF[id]? = some (.inl ci)) (hd : (DS ci)[k]? = some 3) (hc : decide (id < KM) = b) (v : Nat) (hv : h.1 id k = Int32.ofNat (v + 1)) (hlt : v < 1000000) (hdg : decode cc pc = .ok (.getfield idx, 3)) (kk : V X G own cc nL ret D cells slots Q b o (pc + 3) lv (.ref (xa X v) :: st) h) : V X G own cc nL ret D cells slots Q b o pc lv (.ref (xa X id) :: st) h := by
  intro C H locs ls hR hl
  have C0 := C
  obtain ⟨hx, hb, hml, hown, hts, hlk, hr, hK, hE, hD, hA, hfr, hlo⟩ := C0
  obtain ⟨⟨c1, c2, c3, c4⟩, hk, hT, hw⟩ := hf
  refine va_get hx hb hts c2 hown hK hR.1 id (wd_get hs) c1 k hk (hts _ hw) (fun x q => by rw [hT] at q; exact q) (v := .ref (xa X v)) ?_ hdg (kk C H locs ls hR hl)
  rw [fdL_get hd]
  rw [fdV_r (by decide) (by decide), cbs_1 hc, hv, rfN_ofNat hlt]; rfl
theorem V.putG {id ci idx k N d : Nat} {Cn : String} {T : u_T} {ty : FieldType} {v : Value} {h' : Mm} (hf : fOK own idx ci Cn T N k) (hfin : (T k).2.2.2 = false) (hty : parseFieldDescriptor (T k).2.2.1 = some ty) (hn : narrow ty v = v) (hfit : fits ty v = true) (hs : SHF[id]? = some (.inl ci)) (hd : (DS ci)[k]? = some d) (hFx : ∀ M, Fix M → M = cbs b h o → Fix (cbs b h' o)) (hoth : ∀ j, j ≠ id → (cbs b h' o).1 j = (cbs b h o).1 j ∧ (cbs b h' o).2 j = (cbs b h o).2 j) (he : cnc (xa X) (xc X) (cbs b h' o) id (.inl ci) = .inr (ci, (fdL (xa X) (cbs b h o) id (DS ci)).set k v)) (hdg : decode cc pc = .ok (.putfield idx, 3)) (kk : V X G own cc nL ret D cells slots Q b o (pc + 3) lv st h') : V X G own cc nL ret D cells slots Q b o pc lv (v :: .ref (xa X id) :: st) h := by
  intro C H locs ls hR hl
  have C0 := C
  obtain ⟨hx, hb, hml, hown, hts, hlk, hr, hK, hE, hD, hA, hfr, hlo⟩ := C0
  obtain ⟨⟨c1, c2, ⟨ty0, c3⟩, c4⟩, hk, hT, hw⟩ := hf
  refine va_put hx hb hts c2 ty0 c3 c4 hown hK hR.1 (wd_D hD _) hR.2.1 id (wd_get hs) c1 k hk (hts _ hw) (fun x q => by rw [hT] at q; exact q) hfin hty hn hfit (fdL_len hd) hdg (fun H1 locs1 hP1 hD1 hS1 => ?_)
  rw [wdc_set hs hoth he] at hP1
  exact kk C H1 locs1 ls ⟨hP1, hS1, hFx _ hR.2.2 rfl⟩ hl
theorem V.putI {id ci idx k N : Nat} {Cn : String} {T : u_T} {ty : FieldType} {v : Int32} (hf : fOK own idx ci Cn T N k) (hfin : (T k).2.2.2 = false) (hty : parseFieldDescriptor (T k).2.2.1 = some ty) (hn : narrow ty (.int v) = .int v) (hfit : fits ty (.int v) = true) (hs : SHF[id]? = some (.inl ci)) (hd : (DS ci)[k]? = some 0) (hc : decide (id < KM) = b) (hdg : decode cc pc = .ok (.putfield idx, 3)) (kk : V X G own cc nL ret D cells slots Q b o (pc + 3) lv st (wI h id k v)) : V X G own cc nL ret D cells slots Q b o pc lv (.int v :: .ref (xa X id) :: st) h := by
  refine V.putG hf hfin hty hn hfit hs hd (fun M hM e => ?_) ?_ ?_ hdg kk
  · rw [← cbs_wI hc, ← e]; exact hM.wI (fx_obj hs hd (by decide))
  · rw [← cbs_wI hc]; exact wI_other
  · rw [← cbs_wI hc]; exact cnc_putI hd
theorem V.putJ {id ci idx k N : Nat} {Cn : String} {T : u_T} {v : Int64} (hf : fOK own idx ci Cn T N k) (hfin : (T k).2.2.2 = false) (hty : parseFieldDescriptor (T k).2.2.1 = some .long) (hs : SHF[id]? = some (.inl ci)) (hd : (DS ci)[k]? = some 1) (hc : decide (id < KM) = b) (hdg : decode cc pc = .ok (.putfield idx, 3)) (kk : V X G own cc nL ret D cells slots Q b o (pc + 3) lv st (wL h id k v)) : V X G own cc nL ret D cells slots Q b o pc lv (.long v :: .ref (xa X id) :: st) h := by
  refine V.putG hf hfin hty rfl rfl hs hd (fun M hM e => ?_) ?_ ?_ hdg kk
  · rw [← cbs_wL hc, ← e]; exact hM.wL
  · rw [← cbs_wL hc]; exact wL_other
  · rw [← cbs_wL hc]; exact cnc_putL hd
theorem V.putN {id ci idx k N v : Nat} {Cn : String} {T : u_T} {ty : FieldType} (hf : fOK own idx ci Cn T N k) (hfin : (T k).2.2.2 = false) (hty : parseFieldDescriptor (T k).2.2.1 = some ty) (hn : narrow ty (.ref (xa X v)) = .ref (xa X v)) (hfit : fits ty (.ref (xa X v)) = true) (hs : SHF[id]? = some (.inl ci)) (hd : (DS ci)[k]? = some 3) (hc : decide (id < KM) = b) (hlt : v < 1000000) (hdg : decode cc pc = .ok (.putfield idx, 3)) (kk : V X G own cc nL ret D cells slots Q b o (pc + 3) lv st (wI h id k (Int32.ofNat (v + 1)))) : V X G own cc nL ret D cells slots Q b o pc lv (.ref (xa X v) :: .ref (xa X id) :: st) h := by
  refine V.putG hf hfin hty hn hfit hs hd (fun M hM e => ?_) ?_ ?_ hdg kk
  · rw [← cbs_wI hc, ← e]; exact hM.wI (fx_obj hs hd (by decide))
  · rw [← cbs_wI hc]; exact wI_other
  · rw [← cbs_wI hc]
    show Sum.inr (ci, fdL (xa X) (wI (cbs b h o) id k _) id (DS ci)) = _
    rw [fdL_put (h := cbs b h o) (h' := wI (cbs b h o) id k _) hd (fun j hj => ⟨by rw [wI_self]; simp only [upd, if_neg hj], rfl⟩) (v := .ref (xa X v)) (by rw [fdV_r (by decide) (by decide), wI_self]; simp only [upd, if_true]; rw [rfN_ofNat hlt]; rfl)]
/-! arrays -/
def aln (id : Nat) : Nat := match SHF[id]? with
  | some (.inr (_, n)) => n
  | _ => (exT.getD (id - 1001) []).length
def rdA (h : Mm) (id j : Nat) : Int32 := if id < 1000 then h.1 id j else EX id j
def isO (b : Bool) (t id : Nat) : Prop := SHF[id]? = some (.inr (t, aln id)) ∧ decide (id < KM) = b
def isI (b : Bool) (id : Nat) : Prop := isO b 0 id ∨ (1001 ≤ id ∧ id < 1008)
theorem shf_len : SHF.length = 274 := by decide +kernel
theorem isO.lt {t id : Nat} (hs : isO b t id) : id < 1000 := by have := shf_lt hs.1; rw [shf_len] at this; omega
theorem aln_ex {id : Nat} (h1 : 1001 ≤ id) : aln id = (exT.getD (id - 1001) []).length := by
  have e : SHF[id]? = none := List.getElem?_eq_none (by rw [shf_len]; omega)
  simp only [aln, e]
theorem V.ald {t id : Nat} {i v : Int32} (hs : isO b t id) (hin : inB i (aln id)) (hv : h.1 id i.toNatClampNeg = v) (hop : t = 0 ∧ decode cc pc = .ok (.iaload, 1) ∨ t = 1 ∧ decode cc pc = .ok (.caload, 1) ∨ t = 2 ∧ decode cc pc = .ok (.baload, 1)) (kk : V X G own cc nL ret D cells slots Q b o (pc + 1) lv (.int v :: st) h) : V X G own cc nL ret D cells slots Q b o pc lv (.int i :: .ref (xa X id) :: st) h := by
  subst hv
  intro C H locs ls hR hl
  have C0 := C
  obtain ⟨hx, hb, hml, hown, hts, hlk, hr, hK, hE, hD, hA, hfr, hlo⟩ := C0
  have k1 := kk C H locs ls hR hl
  rw [← cbs_1 (h := h) (o := o) hs.2] at k1
  have hg := wd_get (X := X) (M := cbs b h o) hs.1
  rcases hop with ⟨rfl, hdg⟩ | ⟨rfl, hdg⟩ | ⟨rfl, hdg⟩
  · rw [cnc_arrI (by decide)] at hg; exact va_iald hx hb hK hR.1 id 0 hg rfl hin.vp hdg k1
  · rw [cnc_arrI (by decide)] at hg; exact va_cald hx hb hK hR.1 id 1 hg rfl hin.vp hdg k1
  · rw [cnc_arrI (by decide)] at hg; exact va_bald hx hb hK hR.1 id 2 hg rfl hin.vp hdg k1
theorem V.iald {id : Nat} {i : Int32} (hs : isO b 0 id) (hin : inB i (aln id)) (hdg : decode cc pc = .ok (.iaload, 1)) (kk : V X G own cc nL ret D cells slots Q b o (pc + 1) lv (.int (h.1 id i.toNatClampNeg) :: st) h) : V X G own cc nL ret D cells slots Q b o pc lv (.int i :: .ref (xa X id) :: st) h := V.ald hs hin rfl (Or.inl ⟨rfl, hdg⟩) kk
theorem V.cald {id : Nat} {i : Int32} (hs : isO b 1 id) (hin : inB i (aln id)) (hdg : decode cc pc = .ok (.caload, 1)) (kk : V X G own cc nL ret D cells slots Q b o (pc + 1) lv (.int (h.1 id i.toNatClampNeg) :: st) h) : V X G own cc nL ret D cells slots Q b o pc lv (.int i :: .ref (xa X id) :: st) h := V.ald hs hin rfl (Or.inr (Or.inl ⟨rfl, hdg⟩)) kk
theorem V.bald {id : Nat} {i : Int32} (hs : isO b 2 id) (hin : inB i (aln id)) (hdg : decode cc pc = .ok (.baload, 1)) (kk : V X G own cc nL ret D cells slots Q b o (pc + 1) lv (.int (h.1 id i.toNatClampNeg) :: st) h) : V X G own cc nL ret D cells slots Q b o pc lv (.int i :: .ref (xa X id) :: st) h := V.ald hs hin rfl (Or.inr (Or.inr ⟨rfl, hdg⟩)) kk
theorem V.lald {id : Nat} {i : Int32} (hs : isO b 3 id) (hin : inB i (aln id)) (hdg : decode cc pc = .ok (.laload, 1)) (kk : V X G own cc nL ret D cells slots Q b o (pc + 1) lv (.long (h.2 id i.toNatClampNeg) :: st) h) : V X G own cc nL ret D cells slots Q b o pc lv (.int i :: .ref (xa X id) :: st) h := by
  intro C H locs ls hR hl
  have C0 := C
  obtain ⟨hx, hb, hml, hown, hts, hlk, hr, hK, hE, hD, hA, hfr, hlo⟩ := C0
  have k1 := kk C H locs ls hR hl
  rw [← cbs_2 (h := h) (o := o) hs.2] at k1
  have hg := wd_get (X := X) (M := cbs b h o) hs.1
  rw [cnc_arrL] at hg
  exact va_lald hx hb hK hR.1 id 3 hg rfl hin.vp hdg k1
/-- an array of references that stay -/
theorem V.aald {t id n v : Nat} {i : Int32} (hs : SHF[id]? = some (.inr (t, n))) (ht : t = 4 ∨ t = 5) (hin : inB i n) (hv : fxv id i.toNatClampNeg = v + 1) (hlt : v < 1000000) (hdg : decode cc pc = .ok (.aaload, 1)) (kk : V X G own cc nL ret D cells slots Q b o (pc + 1) lv (.ref (xa X v) :: st) h) : V X G own cc nL ret D cells slots Q b o pc lv (.int i :: .ref (xa X id) :: st) h := by
  intro C H locs ls hR hl
  have C0 := C
  obtain ⟨hx, hb, hml, hown, hts, hlk, hr, hK, hE, hD, hA, hfr, hlo⟩ := C0
  have hg := wd_get (X := X) (M := cbs b h o) hs
  rw [cnc_arrR (by omega)] at hg
  have hj : i.toNatClampNeg < n := Nat.not_le.mp fun q => hin.vp (Or.inr q)
  have h4 : 4 ≤ t := by omega
  have e := hR.2.2 id i.toNatClampNeg (by simp [isFx, hs, h4, hj])
  rw [hv] at e
  have e2 : va_rf (rfN (xa X) ((cbs b h o).1 id i.toNatClampNeg)) = .ref (xa X v) := by rw [e, rfN_ofNat hlt]; rfl
  have k1 := kk C H locs ls hR hl
  rw [← e2] at k1
  rcases ht with rfl | rfl
  · exact W.aald (v := va_rf (rfN (xa X) ((cbs b h o).1 id i.toNatClampNeg))) (ty := .object "MonsterCot$Bed") hx hb (hR.1 id _ hg) ((hK.2 4 _ rfl).1 n (fun j => va_rf (rfN (xa X) ((cbs b h o).1 id j)))) rfl (fun q => by cases q) (by show ¬ (i < 0 ∨ (arrV _ _ _).slots.size ≤ _); rw [arrV_size]; exact hin.vp) (by show (arrV _ _ _).slots[_]? = _; rw [arrV_read _ _ hj]) rfl rfl hdg k1
  · exact W.aald (v := va_rf (rfN (xa X) ((cbs b h o).1 id i.toNatClampNeg))) (ty := .array .int) hx hb (hR.1 id _ hg) ((hK.2 5 _ rfl).1 n (fun j => va_rf (rfN (xa X) ((cbs b h o).1 id j)))) rfl (fun q => by cases q) (by show ¬ (i < 0 ∨ (arrV _ _ _).slots.size ≤ _); rw [arrV_size]; exact hin.vp) (by show (arrV _ _ _).slots[_]? = _; rw [arrV_read _ _ hj]) rfl rfl hdg k1
theorem V.alen {t id n : Nat} {v : Int32} (hs : SHF[id]? = some (.inr (t, n))) (ht : t < 6) (hv : Int32.ofNat n = v) (hdg : decode cc pc = .ok (.arraylength, 1)) (kk : V X G own cc nL ret D cells slots Q b o (pc + 1) lv (.int v :: st) h) : V X G own cc nL ret D cells slots Q b o pc lv (.ref (xa X id) :: st) h := by
  intro C H locs ls hR hl
  have C0 := C
  obtain ⟨hx, hb, hml, hown, hts, hlk, hr, hK, hE, hD, hA, hfr, hlo⟩ := C0
  have hg := wd_get (X := X) (M := cbs b h o) hs
  have k1 := kk C H locs ls hR hl
  rcases (show t = 0 ∨ t = 1 ∨ t = 2 ∨ t = 3 ∨ t = 4 ∨ t = 5 by omega) with rfl | rfl | rfl | rfl | rfl | rfl
  · exact va_alen hx hb hK hR.1 id 0 hg rfl hv hdg k1
  · exact va_alen hx hb hK hR.1 id 1 hg rfl hv hdg k1
  · exact va_alen hx hb hK hR.1 id 2 hg rfl hv hdg k1
  · exact va_alen hx hb hK hR.1 id 3 hg rfl hv hdg k1
  · exact va_alen hx hb hK hR.1 id 4 hg rfl hv hdg k1
  · exact va_alen hx hb hK hR.1 id 5 hg rfl hv hdg k1
theorem V.alenA {id : Nat} (hs : isI b id) (hdg : decode cc pc = .ok (.arraylength, 1)) (kk : V X G own cc nL ret D cells slots Q b o (pc + 1) lv (.int (Int32.ofNat (aln id)) :: st) h) : V X G own cc nL ret D cells slots Q b o pc lv (.ref (xa X id) :: st) h := by
  rcases hs with hs | ⟨h1, h2⟩
  · exact V.alen hs.1 (by decide) rfl hdg kk
  · intro C H locs ls hR hl
    have C0 := C
    obtain ⟨hx, hb, hml, hown, hts, hlk, hr, hK, hE, hD, hA, hfr, hlo⟩ := C0
    exact va_tlen hx hb (hE.1 id (by omega) h2) hR.2.1 (by rw [exn, if_neg (by omega), aln_ex h1]) hdg (kk C H locs ls hR hl)
theorem V.ialdA {id : Nat} {i : Int32} (hs : isI b id) (hin : inB i (aln id)) (hdg : decode cc pc = .ok (.iaload, 1)) (kk : V X G own cc nL ret D cells slots Q b o (pc + 1) lv (.int (rdA h id i.toNatClampNeg) :: st) h) : V X G own cc nL ret D cells slots Q b o pc lv (.int i :: .ref (xa X id) :: st) h := by
  rcases hs with hs | ⟨h1, h2⟩
  · rw [rdA, if_pos hs.lt] at kk
    exact V.iald hs hin hdg kk
  · intro C H locs ls hR hl
    have C0 := C
    obtain ⟨hx, hb, hml, hown, hts, hlk, hr, hK, hE, hD, hA, hfr, hlo⟩ := C0
    refine va_ti hx hb (hE.1 id (by omega) h2) hR.2.1 (i := i) ?_ ?_ hdg (kk C H locs ls hR hl)
    · rw [exn, if_neg (by omega), ← aln_ex h1]; exact hin.vp
    · rw [rdA, if_neg (by omega), exv, if_neg (by omega)]
theorem V.ast {t id : Nat} {i v w : Int32} (hs : isO b t id) (hin : inB i (aln id)) (hop : t = 0 ∧ v = w ∧ decode cc pc = .ok (.iastore, 1) ∨ t = 1 ∧ vp_nar .char v = w ∧ decode cc pc = .ok (.castore, 1) ∨ t = 2 ∧ vp_nar .byte v = w ∧ decode cc pc = .ok (.bastore, 1)) (kk : V X G own cc nL ret D cells slots Q b o (pc + 1) lv st (wI h id i.toNatClampNeg w)) : V X G own cc nL ret D cells slots Q b o pc lv (.int v :: .int i :: .ref (xa X id) :: st) h := by
  intro C H locs ls hR hl
  have C0 := C
  obtain ⟨hx, hb, hml, hown, hts, hlk, hr, hK, hE, hD, hA, hfr, hlo⟩ := C0
  have hg := wd_get (X := X) (M := cbs b h o) hs.1
  have key : ∀ (H1 : Heap) (locs1 : List Loc), t < 3 → va_P (xD X) vwCl ((wd X (cbs b h o)).set id (xa X id, .inl (xc X t, aln id, .inl (upd ((cbs b h o).1 id) i.toNatClampNeg w)))) H1 → va_S (xA X) (gs G).heap H1 locs1 → W (gp G) (xl X) (ge G) (gR G) (gs G) (gm G) (ga G) (gb G) (gt G) (gc G) H1 locs1 cells slots Q (F0 (gm G) (pc + 1) ls st) := by
    intro H1 locs1 ht hP1 hS1
    rw [wdc_set hs.1 (h' := wI (cbs b h o) id i.toNatClampNeg w) wI_other (cnc_astI ht)] at hP1
    have hFx := hR.2.2.wI (i := id) (k := i.toNatClampNeg) (v := w) (fx_arr hs.1 (by omega))
    rw [cbs_wI hs.2] at hP1 hFx
    exact kk C H1 locs1 ls ⟨hP1, hS1, hFx⟩ hl
  rcases hop with ⟨rfl, rfl, hdg⟩ | ⟨rfl, rfl, hdg⟩ | ⟨rfl, rfl, hdg⟩
  · rw [cnc_arrI (by decide)] at hg; exact va_iast hx hb hK hR.1 (wd_D hD _) hR.2.1 id 0 hg rfl hin.vp hdg (fun H1 locs1 hP1 _ hS1 => key H1 locs1 (by decide) hP1 hS1)
  · rw [cnc_arrI (by decide)] at hg; exact va_cast hx hb hK hR.1 (wd_D hD _) hR.2.1 id 1 hg rfl hin.vp hdg (fun H1 locs1 hP1 _ hS1 => key H1 locs1 (by decide) hP1 hS1)
  · rw [cnc_arrI (by decide)] at hg; exact va_bast hx hb hK hR.1 (wd_D hD _) hR.2.1 id 2 hg rfl hin.vp hdg (fun H1 locs1 hP1 _ hS1 => key H1 locs1 (by decide) hP1 hS1)
theorem V.iast {id : Nat} {i v : Int32} (hs : isO b 0 id) (hin : inB i (aln id)) (hdg : decode cc pc = .ok (.iastore, 1)) (kk : V X G own cc nL ret D cells slots Q b o (pc + 1) lv st (wI h id i.toNatClampNeg v)) : V X G own cc nL ret D cells slots Q b o pc lv (.int v :: .int i :: .ref (xa X id) :: st) h := V.ast hs hin (Or.inl ⟨rfl, rfl, hdg⟩) kk
theorem V.cast {id : Nat} {i v : Int32} (hs : isO b 1 id) (hin : inB i (aln id)) (hdg : decode cc pc = .ok (.castore, 1)) (kk : V X G own cc nL ret D cells slots Q b o (pc + 1) lv st (wI h id i.toNatClampNeg (vp_nar .char v))) : V X G own cc nL ret D cells slots Q b o pc lv (.int v :: .int i :: .ref (xa X id) :: st) h := V.ast hs hin (Or.inr (Or.inl ⟨rfl, rfl, hdg⟩)) kk
theorem V.bast {id : Nat} {i v : Int32} (hs : isO b 2 id) (hin : inB i (aln id)) (hdg : decode cc pc = .ok (.bastore, 1)) (kk : V X G own cc nL ret D cells slots Q b o (pc + 1) lv st (wI h id i.toNatClampNeg (vp_nar .byte v))) : V X G own cc nL ret D cells slots Q b o pc lv (.int v :: .int i :: .ref (xa X id) :: st) h := V.ast hs hin (Or.inr (Or.inr ⟨rfl, rfl, hdg⟩)) kk
theorem V.last {id : Nat} {i : Int32} {v : Int64} (hs : isO b 3 id) (hin : inB i (aln id)) (hdg : decode cc pc = .ok (.lastore, 1)) (kk : V X G own cc nL ret D cells slots Q b o (pc + 1) lv st (wL h id i.toNatClampNeg v)) : V X G own cc nL ret D cells slots Q b o pc lv (.long v :: .int i :: .ref (xa X id) :: st) h := by
  intro C H locs ls hR hl
  have C0 := C
  obtain ⟨hx, hb, hml, hown, hts, hlk, hr, hK, hE, hD, hA, hfr, hlo⟩ := C0
  have hg := wd_get (X := X) (M := cbs b h o) hs.1
  rw [cnc_arrL] at hg
  refine va_last hx hb hK hR.1 (wd_D hD _) hR.2.1 id 3 hg rfl hin.vp hdg (fun H1 locs1 hP1 _ hS1 => ?_)
  rw [wdc_set hs.1 (h' := wL (cbs b h o) id i.toNatClampNeg v) wL_other cnc_astL] at hP1
  have hFx := hR.2.2.wL (i := id) (k := i.toNatClampNeg) (v := v)
  rw [cbs_wL hs.2] at hP1 hFx
  exact kk C H1 locs1 ls ⟨hP1, hS1, hFx⟩ hl
theorem V.gets {idx : Nat} {q : String × String × Nat} (hq : q ∈ zT) (hw : Cond.fieldLink own idx q.1 q.2.1 "[I" ∈ gtbl) (hdg : decode cc pc = .ok (.getstatic idx, 3)) (kk : V X G own cc nL ret D cells slots Q b o (pc + 3) lv (.ref (xa X q.2.2) :: st) h) : V X G own cc nL ret D cells slots Q b o pc lv st h := by
  intro C H locs ls hR hl
  have C0 := C
  obtain ⟨hx, hb, hml, hown, hts, hlk, hr, hK, hE, hD, hA, hfr, hlo⟩ := C0
  exact va_gets hx hb (hE.2.1 q hq) hR.2.1 hown (hts _ hw) (fun x q => q) hdg (kk C H locs ls hR hl)
theorem V.ldcS {idx : Nat} {q : String × Nat × String × Nat} (hq : q ∈ sT) (hown1 : q.1 = own) (hidx : q.2.1 = idx) (hdg : decode cc pc = .ok (.ldc idx, 2)) (kk : V X G own cc nL ret D cells slots Q b o (pc + 2) lv (.ref (xa X q.2.2.2) :: st) h) : V X G own cc nL ret D cells slots Q b o pc lv st h := by
  subst hown1; subst hidx
  intro C H locs ls hR hl
  have C0 := C
  obtain ⟨hx, hb, hml, hown, hts, hlk, hr, hK, hE, hD, hA, hfr, hlo⟩ := C0
  exact va_ldcS hx hb hown (hE.2.2.2.1 q hq) hdg (kk C H locs ls hR hl)
/-! calls -/
theorem PreR.blind {M : Mm} {as : List Value} : FrameBlind (va_Pc as (PreR X M)) := fun a U g mk q => ⟨q.1, q.2.1, va_K.moved (u := U) (U := U.calling g mk a) (Vm.Alike.refl U.vm) q.2.2.1, q.2.2.2.1.same rfl rfl, q.2.2.2.2⟩
theorem PreR.at {M : Mm} {H : Heap} {locs : List Loc} (C : Cx X G own cc nL ret D) (hR : Rl X M G H locs) : ∀ U : State, U.heap = H → (gs G).WarmedH U.vm → PreR X M U := by
  obtain ⟨hx, hb, hml, hown, hts, hlk, hr, hK, hE, hD, hA, hfr, hlo⟩ := C
  intro U hU hW
  exact ⟨by rw [hU]; exact hR.1, va_K.moved hW.alike hK, hE.warm hW (fun a h1 h2 => by rw [hU]; exact hR.2.1.2.1 a h1 h2), hR.2.2, hD, fun q hq => hA q (Nat.le_trans hR.2.1.1 (by rw [← hU]; exact hq))⟩
abbrev mOK (y : MethodName) (cc2 : ByteArray) (nL2 : Nat) (ret2 : Option FieldType) (n : Nat) : Prop := Cond.code y cc2 nL2 ret2 ∈ gtbl ∧ (y.cls ≠ "java/lang/invoke/MethodHandle" ∧ y.cls ≠ "java/lang/invoke/VarHandle" ∧ (parseMethodDescriptor y.desc).map (fun d => d.parameters.length) = some n) ∧ nL2 ≤ 45 ∧ Cond.initialized y.cls ∈ gtbl
abbrev mV (y : MethodName) (cc2 : ByteArray) (nL2 : Nat) (ret2 : Option FieldType) (n ci : Nat) : Prop := mOK y cc2 nL2 ret2 n ∧ Cond.instanceMethod y ∈ gtbl ∧ Cond.selects y.cls y y ∈ gtbl ∧ ∃ T N, vwCl[ci]? = some (y.cls, T, N)
abbrev mS (y : MethodName) (cc2 : ByteArray) (nL2 : Nat) (ret2 : Option FieldType) (n : Nat) : Prop := mOK y cc2 nL2 ret2 n ∧ Cond.static y ∈ gtbl
theorem V.ran {v : Option Value} {h' : Mm} {a : Array Value} {st0 : List Value} (hr : ∀ C : Cx X G own cc nL ret D, ∀ H locs ls, Rl X (cbs b h o) G H locs → lv_has ls nL lv → va_Run (gp G) (xl X) (ge G) (gR G) (gs G) (gm G) (ga G) (gb G) (gt G) (gc G) H locs cells slots 0 0 (F0 (gm G) pc ls st0) st (Post X b o v h' a) (xA X)) (kk : V X G own cc nL ret D cells slots Q b o (pc + 3) lv (v.toList ++ st) h') : V X G own cc nL ret D cells slots Q b o pc lv st0 h := by
  intro C H locs ls hR hl T hT XS
  obtain ⟨v', st₀, t, T', L, h0, X', hL, e1, e2, ⟨hv, hP, hFx, hF⟩, go⟩ := hr C H locs ls hR hl T hT XS
  cases hv
  obtain ⟨f1, f2⟩ := hF
  rw [h0] at f1 f2
  have hS : va_S (xA X) (gs G).heap T'.heap (locs ++ L) := ⟨Nat.le_trans hR.2.1.1 (by rw [e1]; exact f1), fun q h1 h2 => by rw [e1, f2 q (Nat.lt_of_lt_of_le h1 hR.2.1.1) h2]; exact hR.2.1.2.1 q h1 h2, fun q hq => by
    rcases List.mem_append.mp hq with z | z
    · exact hR.2.1.2.2 q z
    · exact hL q z⟩
  obtain ⟨t2, a1, b1⟩ := kk C T'.heap (locs ++ L) ls ⟨by rw [e1]; exact hP, hS, hFx⟩ hl T' rfl X'
  exact ⟨t2, go t2 a1, b1⟩
theorem V.cb {y : MethodName} {cc2 : ByteArray} {nL2 d n idx : Nat} {ret2 : Option FieldType} (C : Cx X G own cc nL ret D) (hm : mOK y cc2 nL2 ret2 n) (hw : Cond.methodLink own idx y ∈ gtbl) (hd : d + 1 ≤ D) : CallB (gR G) (gs G) (ga G) own idx y cc2 nL2 ret2 (mws y cc2 nL2 ret2) (rmd d) 0 0 n := by
  obtain ⟨hx, hb, hml, hown, hts, hlk, hr, hK, hE, hD, hA, hfr, hlo⟩ := C
  exact callB_of n hts (mws_good hm.1) rfl rfl rfl (hts _ hm.2.2.2) (hts _ hw) hm.2.1 ⟨by show d + 1 ≤ _; omega, by show 8 + (nL2 + 11) + 64 * d ≤ _; have := hm.2.2.1; omega⟩
theorem V.callVG {y : MethodName} {cc2 : ByteArray} {nL2 d n idx id ci : Nat} {ret2 : Option FieldType} {As : List Value} {v : Option Value} {h' : Mm} {st0 : List Value} (hm : mV y cc2 nL2 ret2 n ci) (hw : Cond.methodLink own idx y ∈ gtbl) (hs : SHF[id]? = some (.inl ci)) (hM : Sat X y cc2 nL2 ret2 d (.ref (xa X id) :: As) b o h v h') (hd : d + 1 ≤ D) (hst : As.reverse ++ .ref (xa X id) :: st = st0) (hn : As.length = n) (hW : (st.map fun v => v.category).sum ≤ 8) (hcs : ∀ C : Cx X G own cc nL ret D, cells ≤ (gR G).cells ∧ slots ≤ (gR G).slots) (hdg : decode cc pc = .ok (.invokevirtual idx, 3)) (kk : V X G own cc nL ret D cells slots Q b o (pc + 3) lv (v.toList ++ st) h') : V X G own cc nL ret D cells slots Q b o pc lv st0 h := by
  refine V.ran (a := (Value.ref (xa X id) :: As).toArray) (fun C H locs ls hR hl => ?_) kk
  have C0 := C
  obtain ⟨hx, hb, hml, hown, hts, hlk, hr, hK, hE, hD, hA, hfr, hlo⟩ := C0
  obtain ⟨T, N, hcl⟩ := hm.2.2.2
  exact va_runV (As := As) (rest := st) (y := y) (C := y.cls) ⟨hx, hb, hml, hown, hts⟩ hM ⟨V.cb C hm.1 hw hd, hts _ hm.2.1, hts _ hm.2.2.1⟩ ⟨PreR.blind, va_recv hK hR.1 hcl (wd_get hs), fun U hU hWm => ⟨rfl, PreR.at C hR U hU hWm⟩⟩ rfl hn hl.1 hst.symm (lv_room hW) hdg (hcs C)
theorem V.callSG {y : MethodName} {cc2 : ByteArray} {nL2 d n idx : Nat} {ret2 : Option FieldType} {As : List Value} {v : Option Value} {h' : Mm} {st0 : List Value} (hm : mS y cc2 nL2 ret2 n) (hw : Cond.methodLink own idx y ∈ gtbl) (hM : Sat X y cc2 nL2 ret2 d As b o h v h') (hd : d + 1 ≤ D) (hst : As.reverse ++ st = st0) (hn : As.length = n) (hW : (st.map fun v => v.category).sum ≤ 8) (hcs : ∀ C : Cx X G own cc nL ret D, cells ≤ (gR G).cells ∧ slots ≤ (gR G).slots) (hdg : decode cc pc = .ok (.invokestatic idx, 3)) (kk : V X G own cc nL ret D cells slots Q b o (pc + 3) lv (v.toList ++ st) h') : V X G own cc nL ret D cells slots Q b o pc lv st0 h := by
  refine V.ran (a := As.toArray) (fun C H locs ls hR hl => ?_) kk
  have C0 := C
  obtain ⟨hx, hb, hml, hown, hts, hlk, hr, hK, hE, hD, hA, hfr, hlo⟩ := C0
  exact va_runS (As := As) (rest := st) (y := y) ⟨hx, hb, hml, hown, hts⟩ hM ⟨V.cb C hm.1 hw hd, hts _ hm.2⟩ ⟨PreR.blind, fun U hU hWm => ⟨rfl, PreR.at C hR U hU hWm⟩⟩ rfl hn hl.1 hst.symm (lv_room hW) hdg (hcs C)
theorem V.callSNG {y : MethodName} {cc2 : ByteArray} {nL2 d n idx : Nat} {host : String} {ret2 : Option FieldType} {As : List Value} {v : Option Value} {h' : Mm} {st0 : List Value} (hm : mS y cc2 nL2 ret2 n) (hw : (own, idx, y, host) ∈ nsT) (hM : Sat X y cc2 nL2 ret2 d As b o h v h') (hd : d + 1 ≤ D) (hst : As.reverse ++ st = st0) (hn : As.length = n) (hW : (st.map fun v => v.category).sum ≤ 8) (hcs : ∀ C : Cx X G own cc nL ret D, cells ≤ (gR G).cells ∧ slots ≤ (gR G).slots) (hdg : decode cc pc = .ok (.invokestatic idx, 3)) (kk : V X G own cc nL ret D cells slots Q b o (pc + 3) lv (v.toList ++ st) h') : V X G own cc nL ret D cells slots Q b o pc lv st0 h := by
  refine V.ran (a := As.toArray) (fun C H locs ls hR hl => ?_) kk
  have C0 := C
  obtain ⟨hx, hb, hml, hown, hts, hlk, hr, hK, hE, hD, hA, hfr, hlo⟩ := C0
  exact va_runSN (As := As) (rest := st) (y := y) (host := host) ⟨hx, hb, hml, hown, hts⟩ hM ⟨va_cnB n hts (mws_good hm.1.1) rfl rfl rfl (hE.2.2.2.2.2.1 _ hw) (hts _ hm.1.2.2.2) hm.1.2.1 ⟨by show d + 1 ≤ _; omega, by show 8 + (nL2 + 11) + 64 * d ≤ _; have := hm.1.2.2.1; omega⟩, hts _ hm.2, trivial⟩ ⟨PreR.blind, fun U hU hWm => ⟨rfl, PreR.at C hR U hU hWm⟩⟩ rfl hn hl.1 hst.symm (lv_room hW) hdg (hcs C)
theorem V.callVi {y : MethodName} {cc2 : ByteArray} {nL2 d n idx id ci : Nat} {ret2 : Option FieldType} {As : List Value} {w : Value} {h' : Mm} {st0 : List Value} (hm : mV y cc2 nL2 ret2 n ci) (hw : Cond.methodLink own idx y ∈ gtbl) (hs : SHF[id]? = some (.inl ci)) (hM : Sat X y cc2 nL2 ret2 d (.ref (xa X id) :: As) b o h (some w) h') (hd : d + 1 ≤ D) (hst : As.reverse ++ .ref (xa X id) :: st = st0) (hn : As.length = n) (hW : (st.map fun v => v.category).sum ≤ 8) (hdg : decode cc pc = .ok (.invokevirtual idx, 3)) (kk : V X G own cc nL ret D 0 0 Q b o (pc + 3) lv (w :: st) h') : V X G own cc nL ret D 0 0 Q b o pc lv st0 h := V.callVG hm hw hs hM hd hst hn hW (fun _ => ⟨Nat.zero_le _, Nat.zero_le _⟩) hdg kk
theorem V.callVv {y : MethodName} {cc2 : ByteArray} {nL2 d n idx id ci : Nat} {ret2 : Option FieldType} {As : List Value} {h' : Mm} {st0 : List Value} (hm : mV y cc2 nL2 ret2 n ci) (hw : Cond.methodLink own idx y ∈ gtbl) (hs : SHF[id]? = some (.inl ci)) (hM : Sat X y cc2 nL2 ret2 d (.ref (xa X id) :: As) b o h none h') (hd : d + 1 ≤ D) (hst : As.reverse ++ .ref (xa X id) :: st = st0) (hn : As.length = n) (hW : (st.map fun v => v.category).sum ≤ 8) (hdg : decode cc pc = .ok (.invokevirtual idx, 3)) (kk : V X G own cc nL ret D 0 0 Q b o (pc + 3) lv (st) h') : V X G own cc nL ret D 0 0 Q b o pc lv st0 h := V.callVG hm hw hs hM hd hst hn hW (fun _ => ⟨Nat.zero_le _, Nat.zero_le _⟩) hdg kk
theorem V.callSi {y : MethodName} {cc2 : ByteArray} {nL2 d n idx : Nat} {ret2 : Option FieldType} {As : List Value} {w : Value} {h' : Mm} {st0 : List Value} (hm : mS y cc2 nL2 ret2 n) (hw : Cond.methodLink own idx y ∈ gtbl) (hM : Sat X y cc2 nL2 ret2 d As b o h (some w) h') (hd : d + 1 ≤ D) (hst : As.reverse ++ st = st0) (hn : As.length = n) (hW : (st.map fun v => v.category).sum ≤ 8) (hdg : decode cc pc = .ok (.invokestatic idx, 3)) (kk : V X G own cc nL ret D 0 0 Q b o (pc + 3) lv (w :: st) h') : V X G own cc nL ret D 0 0 Q b o pc lv st0 h := V.callSG hm hw hM hd hst hn hW (fun _ => ⟨Nat.zero_le _, Nat.zero_le _⟩) hdg kk
theorem V.callSv {y : MethodName} {cc2 : ByteArray} {nL2 d n idx : Nat} {ret2 : Option FieldType} {As : List Value} {h' : Mm} {st0 : List Value} (hm : mS y cc2 nL2 ret2 n) (hw : Cond.methodLink own idx y ∈ gtbl) (hM : Sat X y cc2 nL2 ret2 d As b o h none h') (hd : d + 1 ≤ D) (hst : As.reverse ++ st = st0) (hn : As.length = n) (hW : (st.map fun v => v.category).sum ≤ 8) (hdg : decode cc pc = .ok (.invokestatic idx, 3)) (kk : V X G own cc nL ret D 0 0 Q b o (pc + 3) lv (st) h') : V X G own cc nL ret D 0 0 Q b o pc lv st0 h := V.callSG hm hw hM hd hst hn hW (fun _ => ⟨Nat.zero_le _, Nat.zero_le _⟩) hdg kk
theorem V.callNi {y : MethodName} {cc2 : ByteArray} {nL2 d n idx : Nat} {host : String} {ret2 : Option FieldType} {As : List Value} {w : Value} {h' : Mm} {st0 : List Value} (hm : mS y cc2 nL2 ret2 n) (hw : (own, idx, y, host) ∈ nsT) (hM : Sat X y cc2 nL2 ret2 d As b o h (some w) h') (hd : d + 1 ≤ D) (hst : As.reverse ++ st = st0) (hn : As.length = n) (hW : (st.map fun v => v.category).sum ≤ 8) (hdg : decode cc pc = .ok (.invokestatic idx, 3)) (kk : V X G own cc nL ret D 0 0 Q b o (pc + 3) lv (w :: st) h') : V X G own cc nL ret D 0 0 Q b o pc lv st0 h := V.callSNG hm hw hM hd hst hn hW (fun _ => ⟨Nat.zero_le _, Nat.zero_le _⟩) hdg kk
theorem V.callNv {y : MethodName} {cc2 : ByteArray} {nL2 d n idx : Nat} {host : String} {ret2 : Option FieldType} {As : List Value} {h' : Mm} {st0 : List Value} (hm : mS y cc2 nL2 ret2 n) (hw : (own, idx, y, host) ∈ nsT) (hM : Sat X y cc2 nL2 ret2 d As b o h none h') (hd : d + 1 ≤ D) (hst : As.reverse ++ st = st0) (hn : As.length = n) (hW : (st.map fun v => v.category).sum ≤ 8) (hdg : decode cc pc = .ok (.invokestatic idx, 3)) (kk : V X G own cc nL ret D 0 0 Q b o (pc + 3) lv (st) h') : V X G own cc nL ret D 0 0 Q b o pc lv st0 h := V.callSNG hm hw hM hd hst hn hW (fun _ => ⟨Nat.zero_le _, Nat.zero_le _⟩) hdg kk
theorem V.sub {lv2 : List (Nat × Value)} (ks : List Nat) (he : lv_pick lv ks = lv2) (k : V X G own cc nL ret D cells slots Q b o pc lv2 st h) : V X G own cc nL ret D cells slots Q b o pc lv st h := fun C H locs ls hR hl => k C H locs ls hR (lv_sub hl ks he)
theorem nar_c {v : Int32} (q : vp_nar .char v = v) : narrow .char (.int v) = .int v := by
  have e : narrow .char (.int v) = .int (vp_nar .char v) := rfl
  rw [e, q]
def bd {α β : Type} (x : Option (α × Mm)) (f : α → Mm → Option β) : Option β := match x with
  | none => none
  | some p => f p.1 p.2
def bp {α β : Type} (x : Option α) (f : α → Option β) : Option β := match x with
  | none => none
  | some p => f p
theorem bd_s {α β : Type} {x : Option (α × Mm)} {f : α → Mm → Option β} {z : β} (q : bd x f = some z) : ∃ a m, x = some (a, m) ∧ f a m = some z := by
  cases x with
  | none => cases q
  | some p => exact ⟨p.1, p.2, rfl, q⟩
theorem bp_s {α β : Type} {x : Option α} {f : α → Option β} {z : β} (q : bp x f = some z) : ∃ a, x = some a ∧ f a = some z := by
  cases x with
  | none => cases q
  | some p => exact ⟨p, rfl, q⟩
theorem ck {c : Prop} [Decidable c] {β : Type} {x : Option β} {z : β} (q : (if c then x else none) = some z) : c ∧ x = some z := by
  by_cases hc : c
  · rw [if_pos hc] at q; exact ⟨hc, q⟩
  · rw [if_neg hc] at q; cases q
def isBed (i : Nat) : Prop := i ∈ bedIds
def isLd (i : Nat) : Prop := i = 4 ∨ i = 13
def isS (i : Nat) : Prop := 1020 ≤ i ∧ i < 1037
theorem isLd.sh {i : Nat} (q : isLd i) : SHF[i]? = some (.inl 1) := by rcases q with rfl | rfl <;> decide +kernel
theorem isLd.km {i : Nat} (q : isLd i) : decide (i < KM) = true := by rcases q with rfl | rfl <;> decide +kernel
theorem isLd.fx0 {i : Nat} (q : isLd i) : fxv i 0 = i + 1 + 1 := by rcases q with rfl | rfl <;> decide +kernel
theorem isLd.fx1 {i : Nat} (q : isLd i) : fxv i 1 = i + 2 + 1 := by rcases q with rfl | rfl <;> decide +kernel
theorem isLd.a0 {i : Nat} (q : isLd i) : isO true 0 (i + 1) := by rcases q with rfl | rfl <;> exact ⟨by decide +kernel, by decide +kernel⟩
theorem isLd.a1 {i : Nat} (q : isLd i) : isO true 0 (i + 2) := by rcases q with rfl | rfl <;> exact ⟨by decide +kernel, by decide +kernel⟩
theorem isLd.lt {i : Nat} (q : isLd i) : i < 900000 := by rcases q with rfl | rfl <;> decide
theorem bed_all : ∀ i ∈ bedIds, SHF[i]? = some (.inl 0) ∧ decide (i < KM) = true ∧ (∀ k, k < 4 → fxv i k = i + (k + 1) + 1 ∧ SHF[i + (k + 1)]? = some (.inr (0, aln (i + (k + 1)))) ∧ decide (i + (k + 1) < KM) = true) ∧ i < 900000 := by decide +kernel
theorem isBed.sh {i : Nat} (q : isBed i) : SHF[i]? = some (.inl 0) := (bed_all i q).1
theorem isBed.km {i : Nat} (q : isBed i) : decide (i < KM) = true := (bed_all i q).2.1
theorem isBed.fx0 {i : Nat} (q : isBed i) : fxv i 0 = i + 1 + 1 := ((bed_all i q).2.2.1 0 (by decide)).1
theorem isBed.fx1 {i : Nat} (q : isBed i) : fxv i 1 = i + 2 + 1 := ((bed_all i q).2.2.1 1 (by decide)).1
theorem isBed.fx2 {i : Nat} (q : isBed i) : fxv i 2 = i + 3 + 1 := ((bed_all i q).2.2.1 2 (by decide)).1
theorem isBed.fx3 {i : Nat} (q : isBed i) : fxv i 3 = i + 4 + 1 := ((bed_all i q).2.2.1 3 (by decide)).1
theorem isBed.a0 {i : Nat} (q : isBed i) : isO true 0 (i + 1) := ((bed_all i q).2.2.1 0 (by decide)).2
theorem isBed.a1 {i : Nat} (q : isBed i) : isO true 0 (i + 2) := ((bed_all i q).2.2.1 1 (by decide)).2
theorem isBed.a2 {i : Nat} (q : isBed i) : isO true 0 (i + 3) := ((bed_all i q).2.2.1 2 (by decide)).2
theorem isBed.a3 {i : Nat} (q : isBed i) : isO true 0 (i + 4) := ((bed_all i q).2.2.1 3 (by decide)).2
theorem isBed.lt {i : Nat} (q : isBed i) : i < 900000 := (bed_all i q).2.2.2
theorem isO.lt' {t id : Nat} (hs : isO b t id) : id < 900000 := Nat.lt_trans hs.lt (by decide)
theorem inB.lt {i : Int32} {n : Nat} (q : inB i n) : i.toNatClampNeg < n := Nat.not_le.mp fun z => q.vp (Or.inr z)
theorem isO.lt2 {t id : Nat} (hs : isO b t id) : id < 1000000 := Nat.lt_trans hs.lt (by decide)
theorem narZ (v : Bool) : narrow .boolean (.int (b2i v)) = .int (b2i v) ∧ fits .boolean (.int (b2i v)) = true := by cases v <;> exact ⟨rfl, rfl⟩
theorem narI {v : Int32} (q : v = 0 ∨ v = 1) : narrow .boolean (.int v) = .int v ∧ fits .boolean (.int v) = true := by rcases q with rfl | rfl <;> exact ⟨rfl, rfl⟩
def txt (x : Int32) : Option Nat := if x = 253 then some 252 else if x = 254 then some 253 else none
theorem txt_s {x : Int32} {t : Nat} (q : txt x = some t) : x = Int32.ofNat (t + 1) ∧ isO false 2 t := by
  unfold txt at q
  by_cases h1 : x = 253
  · rw [if_pos h1] at q; cases q; exact ⟨h1, by decide +kernel, by decide +kernel⟩
  · rw [if_neg h1] at q
    by_cases h2 : x = 254
    · rw [if_pos h2] at q; cases q; exact ⟨h2, by decide +kernel, by decide +kernel⟩
    · rw [if_neg h2] at q; cases q
theorem ring_all : ∀ j, j < 40 → fxv 38 j = 46 + 5 * j + 1 ∧ (46 + 5 * j) ∈ bedIds := by decide +kernel
theorem ring_fx {j : Nat} (q : j < 40) : fxv 38 j = 46 + 5 * j + 1 := (ring_all j q).1
theorem ring_bed {j : Nat} (q : j < 40) : isBed (46 + 5 * j) := (ring_all j q).2
theorem rows_all : ∀ j, j < 4 → fxv 17 j = 18 + j + 1 ∧ SHF[18 + j]? = some (.inr (0, aln (18 + j))) ∧ decide (18 + j < KM) = true := by decide +kernel
theorem rows_fx {j : Nat} (q : j < 4) : fxv 17 j = 18 + j + 1 := (rows_all j q).1
theorem rows_io {j : Nat} (q : j < 4) : isO true 0 (18 + j) := (rows_all j q).2
theorem tsw_out {x : Int32} {lo hi : Int} (h1 : -2147483648 ≤ lo) (h2 : hi ≤ 2147483647) (l : List Int32) (hl : (List.range (hi + 1 - lo).toNat).map (fun (k : Nat) => lo + (k : Int)) = l.map Int32.toInt) (h : ∀ v, v ∈ l → ¬ x = v) : x.toInt < lo ∨ hi < x.toInt := by
  by_cases q : x.toInt < lo
  · exact Or.inl q
  · by_cases q2 : hi < x.toInt
    · exact Or.inr q2
    · exfalso
      have hm : x.toInt ∈ (List.range (hi + 1 - lo).toNat).map (fun (k : Nat) => lo + (k : Int)) := List.mem_map.mpr ⟨(x.toInt - lo).toNat, List.mem_range.mpr (by omega), by omega⟩
      rw [hl] at hm
      obtain ⟨v, hv, e⟩ := List.mem_map.mp hm
      exact h v hv (Int32.toInt_inj.mp e.symm)
abbrev acOK (sp dp n : Int32) (a c : Nat) : Prop := ¬ sp < 0 ∧ ¬ dp < 0 ∧ ¬ n < 0 ∧ sp.toNatClampNeg + n.toNatClampNeg ≤ a ∧ dp.toNatClampNeg + n.toNatClampNeg ≤ c
theorem ac_nat : Cond.native arraycopyName ∈ gtbl := gin 784 (by decide +kernel) rfl
theorem ac_stat : Cond.static arraycopyName ∈ gtbl := gin 783 (by decide +kernel) rfl
theorem ac_ini : Cond.initialized "java/lang/System" ∈ gtbl := gin 112 (by decide +kernel) rfl
theorem fix_wR {M : Mm} {i t n : Nat} {f : Nat → Int32} (q : Fix M) (hs : SHF[i]? = some (.inr (t, n))) (ht : t < 4) : Fix (wR M i f) := by
  intro id j hj
  by_cases e : id = i
  · subst e; rw [fx_arr hs ht] at hj; cases hj
  · have e2 : (wR M i f).1 id = M.1 id := by simp only [wR, if_neg e]
    rw [e2]; exact q id j hj
theorem wR_other {M : Mm} {i : Nat} {f : Nat → Int32} : ∀ j, j ≠ i → (wR M i f).1 j = M.1 j ∧ (wR M i f).2 j = M.2 j := fun j hj => ⟨by simp only [wR, if_neg hj], rfl⟩
theorem V.acopy {idx a c : Nat} {sp dp n : Int32} (hw : Cond.methodLink own idx arraycopyName ∈ gtbl) (ha : isO b 0 a) (hc : isO b 0 c) (hk : acOK sp dp n (aln a) (aln c)) (hd : 1 ≤ D) (hW : (st.map fun v => v.category).sum ≤ 8) (hdg : decode cc pc = .ok (.invokestatic idx, 3)) (kk : V X G own cc nL ret D cells slots Q b o (pc + 3) lv st (wR h c (va_cpy (h.1 a) (h.1 c) sp.toNatClampNeg dp.toNatClampNeg n.toNatClampNeg))) : V X G own cc nL ret D cells slots Q b o pc lv (.int n :: .int dp :: .ref (xa X c) :: .int sp :: .ref (xa X a) :: st) h := by
  intro C H locs ls hR hl
  have C0 := C
  obtain ⟨hx, hb, hml, hown, hts, hlk, hr, hK, hE, hD, hA, hfr, hlo⟩ := C0
  have g1 := wd_get (X := X) (M := cbs b h o) ha.1
  have g2 := wd_get (X := X) (M := cbs b h o) hc.1
  rw [cnc_arrI (by decide)] at g1 g2
  obtain ⟨k1, k2, k3, k4, k5⟩ := hk
  have e20 : nativeFrameWords "java/lang/System" "arraycopy" 5 ≤ 20 := by decide +kernel
  refine va_copyi hx hb (by rw [hml, hl.1]) hown (hts _ hw) (hts _ ac_nat) (hts _ ac_stat) (hts _ ac_ini) hK hR.1 (wd_D hD _) hR.2.1 a c 0 0 g1 g2 rfl rfl rfl k1 k2 k3 k4 k5 (fun i _ => rfl) (by omega) (by omega) hdg (fun H1 locs1 hP1 _ hS1 => ?_)
  have e0 : cnc (xa X) (xc X) (wR (cbs b h o) c (va_cpy ((cbs b h o).1 a) ((cbs b h o).1 c) sp.toNatClampNeg dp.toNatClampNeg n.toNatClampNeg)) c (.inr (0, aln c)) = .inl (xc X 0, aln c, .inl (va_cpy ((cbs b h o).1 a) ((cbs b h o).1 c) sp.toNatClampNeg dp.toNatClampNeg n.toNatClampNeg)) := by
    rw [cnc_arrI (by decide)]; simp only [wR, if_true]
  rw [wdc_set hc.1 wR_other e0] at hP1
  have hFx := fix_wR (f := va_cpy ((cbs b h o).1 a) ((cbs b h o).1 c) sp.toNatClampNeg dp.toNatClampNeg n.toNatClampNeg) hR.2.2 hc.1 (by decide)
  rw [cbs_1 ha.2, cbs_1 hc.2, cbs_wR hc.2] at hP1 hFx
  exact kk C H1 locs1 ls ⟨hP1, hS1, hFx⟩ hl
abbrev mT (y : MethodName) (cc2 : ByteArray) (nL2 : Nat) (ret2 : Option FieldType) (n : Nat) : Prop := mOK y cc2 nL2 ret2 n ∧ Cond.instanceMethod y ∈ gtbl ∧ Cond.selects y.cls y y ∈ gtbl ∧ y.cls = "java/lang/String"
theorem V.callTi {y : MethodName} {cc2 : ByteArray} {nL2 d n idx id : Nat} {ret2 : Option FieldType} {As : List Value} {w : Value} {h' : Mm} {st0 : List Value} (hm : mT y cc2 nL2 ret2 n) (hw : Cond.methodLink own idx y ∈ gtbl) (hs : isS id) (hM : Sat X y cc2 nL2 ret2 d (.ref (xa X id) :: As) b o h (some w) h') (hd : d + 1 ≤ D) (hst : As.reverse ++ .ref (xa X id) :: st = st0) (hn : As.length = n) (hW : (st.map fun v => v.category).sum ≤ 8) (hdg : decode cc pc = .ok (.invokevirtual idx, 3)) (kk : V X G own cc nL ret D 0 0 Q b o (pc + 3) lv (w :: st) h') : V X G own cc nL ret D 0 0 Q b o pc lv st0 h := by
  refine V.ran (a := (Value.ref (xa X id) :: As).toArray) (v := some w) (fun C H locs ls hR hl => ?_) kk
  have C0 := C
  obtain ⟨hx, hb, hml, hown, hts, hlk, hr, hK, hE, hD, hA, hfr, hlo⟩ := C0
  refine va_runV (As := As) (rest := st) (y := y) (C := y.cls) ⟨hx, hb, hml, hown, hts⟩ hM ⟨V.cb C hm.1 hw hd, hts _ hm.2.1, hts _ hm.2.2.1⟩ ⟨PreR.blind, ?_, fun U hU hWm => ⟨rfl, PreR.at C hR U hU hWm⟩⟩ rfl hn hl.1 hst.symm (lv_room hW) hdg ⟨Nat.zero_le _, Nat.zero_le _⟩
  rw [hm.2.2.2]
  obtain ⟨cell, c1, c2, c3, -⟩ := (hE.2.2.1 id hs.1 hs.2).1.kept hR.2.1.2.1
  exact ⟨cell, c1, c2, c3⟩
theorem V.ldcSw {idx : Nat} {q : String × Nat × String × Nat} (hq : q ∈ sT) (hown1 : q.1 = own) (hidx : q.2.1 = idx) (hdg : decode cc pc = .ok (.ldc_w idx, 3)) (kk : V X G own cc nL ret D cells slots Q b o (pc + 3) lv (.ref (xa X q.2.2.2) :: st) h) : V X G own cc nL ret D cells slots Q b o pc lv st h := by
  subst hown1; subst hidx
  intro C H locs ls hR hl T hT XS
  have C0 := C
  obtain ⟨hx, hb, hml, hown, hts, hlk, hr, hK, hE, hD, hA, hfr, hlo⟩ := C0
  have hZ := hE.2.2.2.1 q hq
  obtain ⟨t, a1, b1⟩ := kk C H locs ls hR hl T hT XS
  exact ⟨t, XS.ldcStringW hx hown (text := q.2.2.1) (a := xa X q.2.2.2) hZ.1 hZ.2 (g := F0 (gm G) pc ls st) rfl (by rw [hb]; exact hdg) t a1, b1⟩
/-! String constants -/
def stB (s : Nat) : List Int32 := stT.getD (s - 1020) []
def strIx : List Int32 → Int32 → Nat → Int32
  | [], _, _ => -1
  | a :: l, c, k => if a = c then Int32.ofNat k else strIx l c (k + 1)
def isSA (i : Nat) : Prop := 1040 ≤ i ∧ i < 1057
theorem isS.sa {i : Nat} (q : isS i) : isSA (i + 20) := ⟨by have := q.1; omega, by have := q.2; omega⟩
theorem V.getSV {id idx : Nat} (hs : isS id) (hw : Cond.fieldLink own idx "java/lang/String" "value" "[B" ∈ gtbl) (hdg : decode cc pc = .ok (.getfield idx, 3)) (kk : V X G own cc nL ret D cells slots Q b o (pc + 3) lv (.ref (xa X (id + 20)) :: st) h) : V X G own cc nL ret D cells slots Q b o pc lv (.ref (xa X id) :: st) h := by
  intro C H locs ls hR hl
  have C0 := C
  obtain ⟨hx, hb, hml, hown, hts, hlk, hr, hK, hE, hD, hA, hf, hlo⟩ := C0
  exact vk_getf hx hb (hE.2.2.1 id hs.1 hs.2).2.2.1 hR.2.1 hown (hts _ hw) (fun x q => q) hdg (kk C H locs ls hR hl)
theorem V.getSC {id idx : Nat} (hs : isS id) (hw : Cond.fieldLink own idx "java/lang/String" "coder" "B" ∈ gtbl) (hdg : decode cc pc = .ok (.getfield idx, 3)) (kk : V X G own cc nL ret D cells slots Q b o (pc + 3) lv (.int 0 :: st) h) : V X G own cc nL ret D cells slots Q b o pc lv (.ref (xa X id) :: st) h := by
  intro C H locs ls hR hl
  have C0 := C
  obtain ⟨hx, hb, hml, hown, hts, hlk, hr, hK, hE, hD, hA, hf, hlo⟩ := C0
  exact vk_getf hx hb (hE.2.2.1 id hs.1 hs.2).2.1 hR.2.1 hown (hts _ hw) (fun x q => q) hdg (kk C H locs ls hR hl)
theorem V.getsC {idx : Nat} (hw : Cond.fieldLink own idx "java/lang/String" "COMPACT_STRINGS" "Z" ∈ gtbl) (hdg : decode cc pc = .ok (.getstatic idx, 3)) (kk : V X G own cc nL ret D cells slots Q b o (pc + 3) lv (.int 1 :: st) h) : V X G own cc nL ret D cells slots Q b o pc lv st h := by
  intro C H locs ls hR hl
  have C0 := C
  obtain ⟨hx, hb, hml, hown, hts, hlk, hr, hK, hE, hD, hA, hf, hlo⟩ := C0
  exact va_gets hx hb hE.2.2.2.2.1 hR.2.1 hown (hts _ hw) (fun x q => q) hdg (kk C H locs ls hR hl)
theorem V.lenS {id : Nat} (hs : isSA id) (hdg : decode cc pc = .ok (.arraylength, 1)) (kk : V X G own cc nL ret D cells slots Q b o (pc + 1) lv (.int (Int32.ofNat (stB (id - 20)).length) :: st) h) : V X G own cc nL ret D cells slots Q b o pc lv (.ref (xa X id) :: st) h := by
  intro C H locs ls hR hl
  have C0 := C
  obtain ⟨hx, hb, hml, hown, hts, hlk, hr, hK, hE, hD, hA, hf, hlo⟩ := C0
  have e := (hE.2.2.1 (id - 20) (by have := hs.1; omega) (by have := hs.2; omega)).2.2.2
  rw [show id - 20 + 20 = id by have := hs.1; omega] at e
  exact va_tlen hx hb e hR.2.1 rfl hdg (kk C H locs ls hR hl)
theorem V.baldS {id : Nat} {i : Int32} (hs : isSA id) (hin : inB i (stB (id - 20)).length) (hdg : decode cc pc = .ok (.baload, 1)) (kk : V X G own cc nL ret D cells slots Q b o (pc + 1) lv (.int ((stB (id - 20)).getD i.toNatClampNeg 0) :: st) h) : V X G own cc nL ret D cells slots Q b o pc lv (.int i :: .ref (xa X id) :: st) h := by
  intro C H locs ls hR hl
  have C0 := C
  obtain ⟨hx, hb, hml, hown, hts, hlk, hr, hK, hE, hD, hA, hf, hlo⟩ := C0
  have e := (hE.2.2.1 (id - 20) (by have := hs.1; omega) (by have := hs.2; omega)).2.2.2
  rw [show id - 20 + 20 = id by have := hs.1; omega] at e
  exact va_tb hx hb e hR.2.1 (i := i) hin.vp rfl hdg (kk C H locs ls hR hl)
theorem V.getsQ {idx : Nat} (hw : Cond.fieldLink own idx "jdk/internal/util/Preconditions" "SIOOBE_FORMATTER" "Ljava/util/function/BiFunction;" ∈ gtbl) (hdg : decode cc pc = .ok (.getstatic idx, 3)) (kk : ∀ v : Value, (v = .null ∨ ∃ t, v = .ref t) → V X G own cc nL ret D cells slots Q b o (pc + 3) lv (v :: st) h) : V X G own cc nL ret D cells slots Q b o pc lv st h := by
  intro C H locs ls hR hl
  have C0 := C
  obtain ⟨hx, hb, hml, hown, hts, hlk, hr, hK, hE, hD, hA, hf, hlo⟩ := C0
  rcases hE.2.2.2.2.2.2 with z | ⟨t, z⟩
  · exact va_gets hx hb z hR.2.1 hown (hts _ hw) (fun x q => q) hdg (kk .null (Or.inl rfl) C H locs ls hR hl)
  · exact va_gets hx hb z hR.2.1 hown (hts _ hw) (fun x q => q) hdg (kk (.ref t) (Or.inr ⟨t, rfl⟩) C H locs ls hR hl)
theorem ip {c : Prop} [Decidable c] {α : Type} {x y z : α} (hc : c) (q : (if c then x else y) = z) : x = z := by rw [if_pos hc] at q; exact q
theorem iq {c : Prop} [Decidable c] {α : Type} {x y z : α} (hc : ¬ c) (q : (if c then x else y) = z) : y = z := by rw [if_neg hc] at q; exact q
end VL
