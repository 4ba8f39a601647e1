def gtbl : List Cond := lw_tbl.filter goodWord
/-! a frame: program, environment, room, start, method, arguments, frames below, method, code -/
abbrev GX : Type := Program × Env × Room × State × MethodId × Array Value × List Frame × Method × Code
abbrev gp (G : GX) : Program := G.1
abbrev ge (G : GX) : Env := G.2.1
abbrev gR (G : GX) : Room := G.2.2.1
abbrev gs (G : GX) : State := G.2.2.2.1
abbrev gm (G : GX) : MethodId := G.2.2.2.2.1
abbrev ga (G : GX) : Array Value := G.2.2.2.2.2.1
abbrev gb (G : GX) : List Frame := G.2.2.2.2.2.2.1
abbrev gt (G : GX) : Method := G.2.2.2.2.2.2.2.1
abbrev gc (G : GX) : Code := G.2.2.2.2.2.2.2.2
def Cx (X : WX) (G : GX) (own : String) (cc : ByteArray) (nL : Nat) (ret : Option FieldType) (D : Nat) : Prop :=
  (gp G).tables.exec = Jvm.exec ∧ (gc G).code = cc ∧ (gc G).maxLocals = nL ∧ (gs G).vm.findClass own = some (gm G).cls ∧ (∀ w ∈ gtbl, w.before (ga G) (gs G) = true) ∧ (gt G).locks = false ∧ (gt G).sig.returnType = ret ∧ va_K (xD X) vwCl (tyT X) (gs G) ∧ Ext X (gs G) ∧ Dj X ∧ D ≤ (gR G).frames ∧ 64 * D ≤ (gR G).locals
def Rl (X : WX) (M : Mm) (G : GX) (H : Heap) (locs : List Loc) : Prop := va_P (xD X) vwCl (wd X M) H ∧ va_S (xA X) (gs G).heap H locs ∧ Fix M
def V (X : WX) (G : GX) (own : String) (cc : ByteArray) (nL : Nat) (ret : Option FieldType) (D cells slots : Nat) (Q : State → Prop) (b : Bool) (o : Mm) (pc : Nat) (lv : List (Nat × Value)) (st : List Value) (h : Mm) : Prop :=
  Cx X G own cc nL ret D → ∀ (H : Heap) (locs : List Loc) (ls : Array Slot), Rl X (cbs b h o) G H locs → lv_has ls nL lv → W (gp G) (xl X) (ge G) (gR G) (gs G) (gm G) (ga G) (gb G) (gt G) (gc G) H locs cells slots Q (F0 (gm G) pc ls st)
def rmd (d : Nat) : Room := { frames := d, cells := 0, slots := 0, locals := 64 * d }
def mws (y : MethodName) (cc : ByteArray) (nL : Nat) (ret : Option FieldType) : List Cond := .code y cc nL ret :: gtbl
def Post (X : WX) (b : Bool) (o : Mm) (v : Option Value) (h' : Mm) : Array Value → State → Outcome → State → Prop := fun _ st oc t => oc = .returned v ∧ va_P (xD X) vwCl (wd X (cbs b h' o)) t.heap ∧ Fix (cbs b h' o) ∧ va_F (xA X) st t
/-- a method's contract: with these arguments and this memory it answers v and leaves h' -/
def Sat (X : WX) (y : MethodName) (cc : ByteArray) (nL : Nat) (ret : Option FieldType) (d : Nat) (as : List Value) (b : Bool) (o h : Mm) (v : Option Value) (h' : Mm) : Prop :=
  Met (xl X) y (mws y cc nL ret) (rmd d) (va_Pc as (PreR X (cbs b h o))) (Post X b o v h') 0 0 (xA X)
abbrev QR (X : WX) (G : GX) (b : Bool) (o : Mm) (v : Option Value) (h' : Mm) : State → Prop := MQ (gb G) (Post X b o v h') (ga G) (gs G) 0 0 (xA X)
theorem gin {w : Cond} (i : Nat) (h : lw_tbl[i]? = some w) (hg : goodWord w = true) : w ∈ gtbl := List.mem_filter.mpr ⟨List.mem_of_getElem? h, hg⟩
theorem tbl_in {w : Cond} (h : w ∈ gtbl) : (w.onTables && w.keeps) = true ∨ ∃ ty, w = .arrayClass ty := good_of_word (List.mem_filter.mp h).2
theorem mws_good {y : MethodName} {cc : ByteArray} {nL : Nat} {ret : Option FieldType} (h : Cond.code y cc nL ret ∈ gtbl) : GoodIn gtbl (mws y cc nL ret) := by
  intro w hw
  rcases List.mem_cons.mp hw with rfl | hw
  · exact ⟨h, tbl_in h⟩
  · exact ⟨hw, tbl_in hw⟩
section VL
variable {X : WX} {G : GX} {own : String} {cc : ByteArray} {nL : Nat} {ret : Option FieldType} {D cells slots : Nat} {Q : State → Prop} {b : Bool} {o : Mm} {pc : Nat} {lv lv' : List (Nat × Value)} {st : List Value} {h : Mm}
theorem Sat.of {y : MethodName} {d : Nat} {as : List Value} {v : Option Value} {h' : Mm} (hy : plainName y.cls = true) (hn : (lg_sl as).length ≤ nL) (k : ∀ G, V X G y.cls cc nL ret d 0 0 (QR X G b o v h') b o 0 (lv_args 0 as) [] h) : Sat X y cc nL ret d as b o h v h' := by
  refine Met.ofW (cc := cc) (maxL := nL) (ret := ret) hy rfl ?_
  intro p e s m args below meth c s₁ B hml hv
  obtain ⟨rfl, hP, hK, hE, hF, hD, hA⟩ := hv
  have hts := atoms_spec (ws := mws y cc nL ret) B.pre
  have C : Cx X (p, e, (headSpec (mws y cc nL ret) (rmd d)).room, s, m, as.toArray, below, meth, c) y.cls cc nL ret d :=
    ⟨B.exec, B.bytes, hml, findClass_of_methodNamed B.named, fun w hw => hts w (List.mem_cons_of_mem _ hw), B.notSynchronized, B.returns, hK, hE, hD, Nat.le_refl d, Nat.le_refl _⟩
  have hl := lv_entry as (n := nL) hn
  rw [lg_entry_eq]
  exact k (p, e, (headSpec (mws y cc nL ret) (rmd d)).room, s, m, as.toArray, below, meth, c) C s.heap [] _ ⟨hP, va_S.rf, hF⟩ hl
theorem V.iret {v : Int32} (hdg : decode cc pc = .ok (.ireturn, 1)) : V X G own cc nL (some .int) D 0 0 (QR X G b o (some (.int v)) h) b o pc lv [.int v] h := by
  intro C H locs ls hR hl
  obtain ⟨hx, hb, hml, hown, hts, hlk, hr, hK, hE, hD, hf, hlo⟩ := C
  exact W.iret hx hb hr (fun t ht _ => ⟨rfl, by rw [ht]; exact hR.1, hR.2.2, hR.2.1.F ht⟩) hR.2.1.2.2 hdg hlk
theorem V.zret {v : Int32} {ty : FieldType} (hn : narrow ty (.int v) = .int v) (hdg : decode cc pc = .ok (.ireturn, 1)) : V X G own cc nL (some ty) D 0 0 (QR X G b o (some (.int v)) h) b o pc lv [.int v] h := by
  intro C H locs ls hR hl
  obtain ⟨hx, hb, hml, hown, hts, hlk, hr, hK, hE, hD, hf, hlo⟩ := C
  exact W.zret hx hb hr hn (fun t ht _ => ⟨rfl, by rw [ht]; exact hR.1, hR.2.2, hR.2.1.F ht⟩) hR.2.1.2.2 hdg hlk
theorem V.bret {v : Bool} (hdg : decode cc pc = .ok (.ireturn, 1)) : V X G own cc nL (some .boolean) D 0 0 (QR X G b o (some (.int (b2i v))) h) b o pc lv [.int (b2i v)] h := V.zret (by cases v <;> rfl) hdg
theorem V.vret (hdg : decode cc pc = .ok (.return_, 1)) : V X G own cc nL none D 0 0 (QR X G b o none h) b o pc lv [] h := by
  intro C H locs ls hR hl
  obtain ⟨hx, hb, hml, hown, hts, hlk, hr, hK, hE, hD, hf, hlo⟩ := C
  exact W.vret hx hb hr (fun t ht _ => ⟨rfl, by rw [ht]; exact hR.1, hR.2.2, hR.2.1.F ht⟩) hR.2.1.2.2 hdg hlk
theorem V.lret {v : Int64} (hdg : decode cc pc = .ok (.lreturn, 1)) : V X G own cc nL (some .long) D 0 0 (QR X G b o (some (.long v)) h) b o pc lv [.long v] h := by
  intro C H locs ls hR hl
  obtain ⟨hx, hb, hml, hown, hts, hlk, hr, hK, hE, hD, hf, hlo⟩ := C
  exact W.lret hx hb hr (fun t ht _ => ⟨rfl, by rw [ht]; exact hR.1, hR.2.2, hR.2.1.F ht⟩) hR.2.1.2.2 hdg hlk
theorem V.iconst {n : Int} {v : Int32} (hdg : decode cc pc = .ok (.iconst n, 1)) (hv : Int32.ofInt n = v) (k : V X G own cc nL ret D cells slots Q b o (pc + 1) lv (.int v :: st) h) : V X G own cc nL ret D cells slots Q b o pc lv st h := by
  intro C H locs ls hR hl
  have C0 := C
  obtain ⟨hx, hb, hml, hown, hts, hlk, hr, hK, hE, hD, hf, hlo⟩ := C0
  exact lv_iconst hx hb hdg hv (k C H locs ls hR hl)
theorem V.bipush {n : Int} {v : Int32} (hdg : decode cc pc = .ok (.bipush n, 2)) (hv : (Int8.ofInt n).toInt32 = v) (k : V X G own cc nL ret D cells slots Q b o (pc + 2) lv (.int v :: st) h) : V X G own cc nL ret D cells slots Q b o pc lv st h := by
  intro C H locs ls hR hl
  have C0 := C
  obtain ⟨hx, hb, hml, hown, hts, hlk, hr, hK, hE, hD, hf, hlo⟩ := C0
  exact lv_bipush hx hb hdg hv (k C H locs ls hR hl)
theorem V.sipush {n : Int} {v : Int32} (hdg : decode cc pc = .ok (.sipush n, 3)) (hv : (Int16.ofInt n).toInt32 = v) (k : V X G own cc nL ret D cells slots Q b o (pc + 3) lv (.int v :: st) h) : V X G own cc nL ret D cells slots Q b o pc lv st h := by
  intro C H locs ls hR hl
  have C0 := C
  obtain ⟨hx, hb, hml, hown, hts, hlk, hr, hK, hE, hD, hf, hlo⟩ := C0
  exact lv_sipush hx hb hdg hv (k C H locs ls hR hl)
theorem V.lconst {n : Fin 2} {v : Int64} (hdg : decode cc pc = .ok (.lconst n, 1)) (hv : Int64.ofNat (n : Nat) = v) (k : V X G own cc nL ret D cells slots Q b o (pc + 1) lv (.long v :: st) h) : V X G own cc nL ret D cells slots Q b o pc lv st h := by
  intro C H locs ls hR hl
  have C0 := C
  obtain ⟨hx, hb, hml, hown, hts, hlk, hr, hK, hE, hD, hf, hlo⟩ := C0
  exact lv_lconst hx hb hdg hv (k C H locs ls hR hl)
theorem V.iload_n {k0 : Fin 4} {i : Nat} {x : Int32} (n : Nat) (hdg : decode cc pc = .ok (.iload_n k0, 1)) (hi : (k0 : Nat) = i) (hk : lv[n]? = some (i, .int x)) (k : V X G own cc nL ret D cells slots Q b o (pc + 1) lv (.int x :: st) h) : V X G own cc nL ret D cells slots Q b o pc lv st h := by
  intro C H locs ls hR hl
  have C0 := C
  obtain ⟨hx, hb, hml, hown, hts, hlk, hr, hK, hE, hD, hf, hlo⟩ := C0
  exact lv_iload_n hx hb hdg hi (lv_at hl n hk) (k C H locs ls hR hl)
theorem V.iload {i : Nat} {x : Int32} (n : Nat) (hdg : decode cc pc = .ok (.iload i, 2)) (hk : lv[n]? = some (i, .int x)) (k : V X G own cc nL ret D cells slots Q b o (pc + 2) lv (.int x :: st) h) : V X G own cc nL ret D cells slots Q b o pc lv st h := by
  intro C H locs ls hR hl
  have C0 := C
  obtain ⟨hx, hb, hml, hown, hts, hlk, hr, hK, hE, hD, hf, hlo⟩ := C0
  exact lv_iload hx hb hdg (lv_at hl n hk) (k C H locs ls hR hl)
theorem V.lload_n {k0 : Fin 4} {i : Nat} {x : Int64} (n : Nat) (hdg : decode cc pc = .ok (.lload_n k0, 1)) (hi : (k0 : Nat) = i) (hk : lv[n]? = some (i, .long x)) (k : V X G own cc nL ret D cells slots Q b o (pc + 1) lv (.long x :: st) h) : V X G own cc nL ret D cells slots Q b o pc lv st h := by
  intro C H locs ls hR hl
  have C0 := C
  obtain ⟨hx, hb, hml, hown, hts, hlk, hr, hK, hE, hD, hf, hlo⟩ := C0
  exact lv_lload_n hx hb hdg hi (lv_at hl n hk) (k C H locs ls hR hl)
theorem V.lload {i : Nat} {x : Int64} (n : Nat) (hdg : decode cc pc = .ok (.lload i, 2)) (hk : lv[n]? = some (i, .long x)) (k : V X G own cc nL ret D cells slots Q b o (pc + 2) lv (.long x :: st) h) : V X G own cc nL ret D cells slots Q b o pc lv st h := by
  intro C H locs ls hR hl
  have C0 := C
  obtain ⟨hx, hb, hml, hown, hts, hlk, hr, hK, hE, hD, hf, hlo⟩ := C0
  exact lv_lload hx hb hdg (lv_at hl n hk) (k C H locs ls hR hl)
theorem V.aload_n {k0 : Fin 4} {i : Nat} {x : Nat} (n : Nat) (hdg : decode cc pc = .ok (.aload_n k0, 1)) (hi : (k0 : Nat) = i) (hk : lv[n]? = some (i, .ref x)) (k : V X G own cc nL ret D cells slots Q b o (pc + 1) lv (.ref x :: st) h) : V X G own cc nL ret D cells slots Q b o pc lv st h := by
  intro C H locs ls hR hl
  have C0 := C
  obtain ⟨hx, hb, hml, hown, hts, hlk, hr, hK, hE, hD, hf, hlo⟩ := C0
  exact lv_aload_n hx hb hdg hi (lv_at hl n hk) (k C H locs ls hR hl)
theorem V.aload {i : Nat} {x : Nat} (n : Nat) (hdg : decode cc pc = .ok (.aload i, 2)) (hk : lv[n]? = some (i, .ref x)) (k : V X G own cc nL ret D cells slots Q b o (pc + 2) lv (.ref x :: st) h) : V X G own cc nL ret D cells slots Q b o pc lv st h := by
  intro C H locs ls hR hl
  have C0 := C
  obtain ⟨hx, hb, hml, hown, hts, hlk, hr, hK, hE, hD, hf, hlo⟩ := C0
  exact lv_aload hx hb hdg (lv_at hl n hk) (k C H locs ls hR hl)
theorem V.istore_n {k0 : Fin 4} {i : Nat} {x : Int32} (lv' : List (Nat × Value)) (hdg : decode cc pc = .ok (.istore_n k0, 1)) (hi : (k0 : Nat) = i) (hn : i < nL) (he : (i, Value.int x) :: lv.filter (fun q => !(q.1 == i) && !(q.1 + 1 == i && q.2.category == 2)) = lv') (k : V X G own cc nL ret D cells slots Q b o (pc + 1) lv' st h) : V X G own cc nL ret D cells slots Q b o pc lv (.int x :: st) h := by
  intro C H locs ls hR hl
  have C0 := C
  obtain ⟨hx, hb, hml, hown, hts, hlk, hr, hK, hE, hD, hf, hlo⟩ := C0
  exact lv_istore_n hx hb hdg hi hl hn he (fun ls hl => k C H locs ls hR hl)
theorem V.istore {i : Nat} {x : Int32} (lv' : List (Nat × Value)) (hdg : decode cc pc = .ok (.istore i, 2)) (hn : i < nL) (he : (i, Value.int x) :: lv.filter (fun q => !(q.1 == i) && !(q.1 + 1 == i && q.2.category == 2)) = lv') (k : V X G own cc nL ret D cells slots Q b o (pc + 2) lv' st h) : V X G own cc nL ret D cells slots Q b o pc lv (.int x :: st) h := by
  intro C H locs ls hR hl
  have C0 := C
  obtain ⟨hx, hb, hml, hown, hts, hlk, hr, hK, hE, hD, hf, hlo⟩ := C0
  exact lv_istore hx hb hdg hl hn he (fun ls hl => k C H locs ls hR hl)
theorem V.lstore_n {k0 : Fin 4} {i : Nat} {x : Int64} (lv' : List (Nat × Value)) (hdg : decode cc pc = .ok (.lstore_n k0, 1)) (hi : (k0 : Nat) = i) (hn : i + 1 < nL) (he : (i, Value.long x) :: lv.filter (fun q => !(q.1 == i) && (!(q.1 == i + 1) && !(q.1 + 1 == i && q.2.category == 2))) = lv') (k : V X G own cc nL ret D cells slots Q b o (pc + 1) lv' st h) : V X G own cc nL ret D cells slots Q b o pc lv (.long x :: st) h := by
  intro C H locs ls hR hl
  have C0 := C
  obtain ⟨hx, hb, hml, hown, hts, hlk, hr, hK, hE, hD, hf, hlo⟩ := C0
  exact lv_lstore_n hx hb hdg hi hl hn he (fun ls hl => k C H locs ls hR hl)
theorem V.lstore {i : Nat} {x : Int64} (lv' : List (Nat × Value)) (hdg : decode cc pc = .ok (.lstore i, 2)) (hn : i + 1 < nL) (he : (i, Value.long x) :: lv.filter (fun q => !(q.1 == i) && (!(q.1 == i + 1) && !(q.1 + 1 == i && q.2.category == 2))) = lv') (k : V X G own cc nL ret D cells slots Q b o (pc + 2) lv' st h) : V X G own cc nL ret D cells slots Q b o pc lv (.long x :: st) h := by
  intro C H locs ls hR hl
  have C0 := C
  obtain ⟨hx, hb, hml, hown, hts, hlk, hr, hK, hE, hD, hf, hlo⟩ := C0
  exact lv_lstore hx hb hdg hl hn he (fun ls hl => k C H locs ls hR hl)
theorem V.astore_n {k0 : Fin 4} {i : Nat} {x : Nat} (lv' : List (Nat × Value)) (hdg : decode cc pc = .ok (.astore_n k0, 1)) (hi : (k0 : Nat) = i) (hn : i < nL) (he : (i, Value.ref x) :: lv.filter (fun q => !(q.1 == i) && !(q.1 + 1 == i && q.2.category == 2)) = lv') (k : V X G own cc nL ret D cells slots Q b o (pc + 1) lv' st h) : V X G own cc nL ret D cells slots Q b o pc lv (.ref x :: st) h := by
  intro C H locs ls hR hl
  have C0 := C
  obtain ⟨hx, hb, hml, hown, hts, hlk, hr, hK, hE, hD, hf, hlo⟩ := C0
  exact lv_astore_n hx hb hdg hi hl hn he (fun ls hl => k C H locs ls hR hl)
theorem V.astore {i : Nat} {x : Nat} (lv' : List (Nat × Value)) (hdg : decode cc pc = .ok (.astore i, 2)) (hn : i < nL) (he : (i, Value.ref x) :: lv.filter (fun q => !(q.1 == i) && !(q.1 + 1 == i && q.2.category == 2)) = lv') (k : V X G own cc nL ret D cells slots Q b o (pc + 2) lv' st h) : V X G own cc nL ret D cells slots Q b o pc lv (.ref x :: st) h := by
  intro C H locs ls hR hl
  have C0 := C
  obtain ⟨hx, hb, hml, hown, hts, hlk, hr, hK, hE, hD, hf, hlo⟩ := C0
  exact lv_astore hx hb hdg hl hn he (fun ls hl => k C H locs ls hR hl)
theorem V.iinc {i : Nat} {n : Int} {x v : Int32} (j : Nat) (lv' : List (Nat × Value)) (hdg : decode cc pc = .ok (.iinc i n, 3)) (hk : lv[j]? = some (i, .int x)) (hv : x + Int32.ofInt n = v) (hn : i < nL) (he : (i, Value.int v) :: lv.filter (fun q => !(q.1 == i) && !(q.1 + 1 == i && q.2.category == 2)) = lv') (k : V X G own cc nL ret D cells slots Q b o (pc + 3) lv' st h) : V X G own cc nL ret D cells slots Q b o pc lv st h := by
  intro C H locs ls hR hl
  have C0 := C
  obtain ⟨hx, hb, hml, hown, hts, hlk, hr, hK, hE, hD, hf, hlo⟩ := C0
  exact lv_iinc hx hb hdg hl hk hv hn he (fun ls hl => k C H locs ls hR hl)
theorem V.iadd {x y : Int32} (hdg : decode cc pc = .ok (.iadd, 1))  (k : V X G own cc nL ret D cells slots Q b o (pc + 1) lv (.int (x + y) :: st) h) : V X G own cc nL ret D cells slots Q b o pc lv (.int y :: .int x :: st) h := by
  intro C H locs ls hR hl
  have C0 := C
  obtain ⟨hx, hb, hml, hown, hts, hlk, hr, hK, hE, hD, hf, hlo⟩ := C0
  exact lv_iadd hx hb hdg (k C H locs ls hR hl)
theorem V.isub {x y : Int32} (hdg : decode cc pc = .ok (.isub, 1))  (k : V X G own cc nL ret D cells slots Q b o (pc + 1) lv (.int (x - y) :: st) h) : V X G own cc nL ret D cells slots Q b o pc lv (.int y :: .int x :: st) h := by
  intro C H locs ls hR hl
  have C0 := C
  obtain ⟨hx, hb, hml, hown, hts, hlk, hr, hK, hE, hD, hf, hlo⟩ := C0
  exact lv_isub hx hb hdg (k C H locs ls hR hl)
theorem V.imul {x y : Int32} (hdg : decode cc pc = .ok (.imul, 1))  (k : V X G own cc nL ret D cells slots Q b o (pc + 1) lv (.int (x * y) :: st) h) : V X G own cc nL ret D cells slots Q b o pc lv (.int y :: .int x :: st) h := by
  intro C H locs ls hR hl
  have C0 := C
  obtain ⟨hx, hb, hml, hown, hts, hlk, hr, hK, hE, hD, hf, hlo⟩ := C0
  exact lv_imul hx hb hdg (k C H locs ls hR hl)
theorem V.iand {x y : Int32} (hdg : decode cc pc = .ok (.iand, 1))  (k : V X G own cc nL ret D cells slots Q b o (pc + 1) lv (.int (x &&& y) :: st) h) : V X G own cc nL ret D cells slots Q b o pc lv (.int y :: .int x :: st) h := by
  intro C H locs ls hR hl
  have C0 := C
  obtain ⟨hx, hb, hml, hown, hts, hlk, hr, hK, hE, hD, hf, hlo⟩ := C0
  exact lv_iand hx hb hdg (k C H locs ls hR hl)
theorem V.ior {x y : Int32} (hdg : decode cc pc = .ok (.ior, 1))  (k : V X G own cc nL ret D cells slots Q b o (pc + 1) lv (.int (x ||| y) :: st) h) : V X G own cc nL ret D cells slots Q b o pc lv (.int y :: .int x :: st) h := by
  intro C H locs ls hR hl
  have C0 := C
  obtain ⟨hx, hb, hml, hown, hts, hlk, hr, hK, hE, hD, hf, hlo⟩ := C0
  exact lv_ior hx hb hdg (k C H locs ls hR hl)
theorem V.ixor {x y : Int32} (hdg : decode cc pc = .ok (.ixor, 1))  (k : V X G own cc nL ret D cells slots Q b o (pc + 1) lv (.int (x ^^^ y) :: st) h) : V X G own cc nL ret D cells slots Q b o pc lv (.int y :: .int x :: st) h := by
  intro C H locs ls hR hl
  have C0 := C
  obtain ⟨hx, hb, hml, hown, hts, hlk, hr, hK, hE, hD, hf, hlo⟩ := C0
  exact lv_ixor hx hb hdg (k C H locs ls hR hl)
theorem V.ishl {x y : Int32} (hdg : decode cc pc = .ok (.ishl, 1))  (k : V X G own cc nL ret D cells slots Q b o (pc + 1) lv (.int (x <<< (y &&& 31)) :: st) h) : V X G own cc nL ret D cells slots Q b o pc lv (.int y :: .int x :: st) h := by
  intro C H locs ls hR hl
  have C0 := C
  obtain ⟨hx, hb, hml, hown, hts, hlk, hr, hK, hE, hD, hf, hlo⟩ := C0
  exact lv_ishl hx hb hdg (k C H locs ls hR hl)
theorem V.ishr {x y : Int32} (hdg : decode cc pc = .ok (.ishr, 1))  (k : V X G own cc nL ret D cells slots Q b o (pc + 1) lv (.int (x >>> (y &&& 31)) :: st) h) : V X G own cc nL ret D cells slots Q b o pc lv (.int y :: .int x :: st) h := by
  intro C H locs ls hR hl
  have C0 := C
  obtain ⟨hx, hb, hml, hown, hts, hlk, hr, hK, hE, hD, hf, hlo⟩ := C0
  exact lv_ishr hx hb hdg (k C H locs ls hR hl)
theorem V.ladd {x y : Int64} (hdg : decode cc pc = .ok (.ladd, 1))  (k : V X G own cc nL ret D cells slots Q b o (pc + 1) lv (.long (x + y) :: st) h) : V X G own cc nL ret D cells slots Q b o pc lv (.long y :: .long x :: st) h := by
  intro C H locs ls hR hl
  have C0 := C
  obtain ⟨hx, hb, hml, hown, hts, hlk, hr, hK, hE, hD, hf, hlo⟩ := C0
  exact lv_ladd hx hb hdg (k C H locs ls hR hl)
theorem V.lsub {x y : Int64} (hdg : decode cc pc = .ok (.lsub, 1))  (k : V X G own cc nL ret D cells slots Q b o (pc + 1) lv (.long (x - y) :: st) h) : V X G own cc nL ret D cells slots Q b o pc lv (.long y :: .long x :: st) h := by
  intro C H locs ls hR hl
  have C0 := C
  obtain ⟨hx, hb, hml, hown, hts, hlk, hr, hK, hE, hD, hf, hlo⟩ := C0
  exact lv_lsub hx hb hdg (k C H locs ls hR hl)
theorem V.lmul {x y : Int64} (hdg : decode cc pc = .ok (.lmul, 1))  (k : V X G own cc nL ret D cells slots Q b o (pc + 1) lv (.long (x * y) :: st) h) : V X G own cc nL ret D cells slots Q b o pc lv (.long y :: .long x :: st) h := by
  intro C H locs ls hR hl
  have C0 := C
  obtain ⟨hx, hb, hml, hown, hts, hlk, hr, hK, hE, hD, hf, hlo⟩ := C0
  exact lv_lmul hx hb hdg (k C H locs ls hR hl)
theorem V.land {x y : Int64} (hdg : decode cc pc = .ok (.land, 1))  (k : V X G own cc nL ret D cells slots Q b o (pc + 1) lv (.long (x &&& y) :: st) h) : V X G own cc nL ret D cells slots Q b o pc lv (.long y :: .long x :: st) h := by
  intro C H locs ls hR hl
  have C0 := C
  obtain ⟨hx, hb, hml, hown, hts, hlk, hr, hK, hE, hD, hf, hlo⟩ := C0
  exact lv_land hx hb hdg (k C H locs ls hR hl)
theorem V.lor {x y : Int64} (hdg : decode cc pc = .ok (.lor, 1))  (k : V X G own cc nL ret D cells slots Q b o (pc + 1) lv (.long (x ||| y) :: st) h) : V X G own cc nL ret D cells slots Q b o pc lv (.long y :: .long x :: st) h := by
  intro C H locs ls hR hl
  have C0 := C
  obtain ⟨hx, hb, hml, hown, hts, hlk, hr, hK, hE, hD, hf, hlo⟩ := C0
  exact lv_lor hx hb hdg (k C H locs ls hR hl)
theorem V.idiv {x y : Int32} (hdg : decode cc pc = .ok (.idiv, 1)) (hne : ¬ y = 0) (k : V X G own cc nL ret D cells slots Q b o (pc + 1) lv (.int (x / y) :: st) h) : V X G own cc nL ret D cells slots Q b o pc lv (.int y :: .int x :: st) h := by
  intro C H locs ls hR hl
  have C0 := C
  obtain ⟨hx, hb, hml, hown, hts, hlk, hr, hK, hE, hD, hf, hlo⟩ := C0
  exact lv_idiv hx hb hdg hne (k C H locs ls hR hl)
theorem V.irem {x y : Int32} (hdg : decode cc pc = .ok (.irem, 1)) (hne : ¬ y = 0) (k : V X G own cc nL ret D cells slots Q b o (pc + 1) lv (.int (x - x / y * y) :: st) h) : V X G own cc nL ret D cells slots Q b o pc lv (.int y :: .int x :: st) h := by
  intro C H locs ls hR hl
  have C0 := C
  obtain ⟨hx, hb, hml, hown, hts, hlk, hr, hK, hE, hD, hf, hlo⟩ := C0
  exact lv_irem hx hb hdg hne (k C H locs ls hR hl)
theorem V.ldiv {x y : Int64} (hdg : decode cc pc = .ok (.ldiv, 1)) (hne : ¬ y = 0) (k : V X G own cc nL ret D cells slots Q b o (pc + 1) lv (.long (x / y) :: st) h) : V X G own cc nL ret D cells slots Q b o pc lv (.long y :: .long x :: st) h := by
  intro C H locs ls hR hl
  have C0 := C
  obtain ⟨hx, hb, hml, hown, hts, hlk, hr, hK, hE, hD, hf, hlo⟩ := C0
  exact lv_ldiv hx hb hdg hne (k C H locs ls hR hl)
theorem V.lrem {x y : Int64} (hdg : decode cc pc = .ok (.lrem, 1)) (hne : ¬ y = 0) (k : V X G own cc nL ret D cells slots Q b o (pc + 1) lv (.long (x - x / y * y) :: st) h) : V X G own cc nL ret D cells slots Q b o pc lv (.long y :: .long x :: st) h := by
  intro C H locs ls hR hl
  have C0 := C
  obtain ⟨hx, hb, hml, hown, hts, hlk, hr, hK, hE, hD, hf, hlo⟩ := C0
  exact lv_lrem hx hb hdg hne (k C H locs ls hR hl)
theorem V.iushr {x y : Int32} (hdg : decode cc pc = .ok (.iushr, 1))  (k : V X G own cc nL ret D cells slots Q b o (pc + 1) lv (.int (x.toUInt32 >>> (y.toUInt32 &&& Int32.toUInt32 31)).toInt32 :: st) h) : V X G own cc nL ret D cells slots Q b o pc lv (.int y :: .int x :: st) h := by
  intro C H locs ls hR hl
  have C0 := C
  obtain ⟨hx, hb, hml, hown, hts, hlk, hr, hK, hE, hD, hf, hlo⟩ := C0
  exact lv_iushr hx hb hdg rfl (k C H locs ls hR hl)
theorem V.lushr {x : Int64} {y : Int32} (hdg : decode cc pc = .ok (.lushr, 1))  (k : V X G own cc nL ret D cells slots Q b o (pc + 1) lv (.long (x.toUInt64 >>> (y.toInt64.toUInt64 &&& Int64.toUInt64 63)).toInt64 :: st) h) : V X G own cc nL ret D cells slots Q b o pc lv (.int y :: .long x :: st) h := by
  intro C H locs ls hR hl
  have C0 := C
  obtain ⟨hx, hb, hml, hown, hts, hlk, hr, hK, hE, hD, hf, hlo⟩ := C0
  exact lv_lushr hx hb hdg rfl (k C H locs ls hR hl)
theorem V.lshl {x : Int64} {y : Int32} (hdg : decode cc pc = .ok (.lshl, 1))  (k : V X G own cc nL ret D cells slots Q b o (pc + 1) lv (.long (x <<< (y.toInt64 &&& 63)) :: st) h) : V X G own cc nL ret D cells slots Q b o pc lv (.int y :: .long x :: st) h := by
  intro C H locs ls hR hl
  have C0 := C
  obtain ⟨hx, hb, hml, hown, hts, hlk, hr, hK, hE, hD, hf, hlo⟩ := C0
  exact lv_lshl hx hb hdg rfl (k C H locs ls hR hl)
theorem V.lshr {x : Int64} {y : Int32} (hdg : decode cc pc = .ok (.lshr, 1))  (k : V X G own cc nL ret D cells slots Q b o (pc + 1) lv (.long (x >>> (y.toInt64 &&& 63)) :: st) h) : V X G own cc nL ret D cells slots Q b o pc lv (.int y :: .long x :: st) h := by
  intro C H locs ls hR hl
  have C0 := C
  obtain ⟨hx, hb, hml, hown, hts, hlk, hr, hK, hE, hD, hf, hlo⟩ := C0
  exact lv_lshr hx hb hdg rfl (k C H locs ls hR hl)
theorem V.ineg {x : Int32} (hdg : decode cc pc = .ok (.ineg, 1))  (k : V X G own cc nL ret D cells slots Q b o (pc + 1) lv (.int (-x) :: st) h) : V X G own cc nL ret D cells slots Q b o pc lv (.int x :: st) h := by
  intro C H locs ls hR hl
  have C0 := C
  obtain ⟨hx, hb, hml, hown, hts, hlk, hr, hK, hE, hD, hf, hlo⟩ := C0
  exact lv_ineg hx hb hdg (k C H locs ls hR hl)
theorem V.lneg {x : Int64} (hdg : decode cc pc = .ok (.lneg, 1))  (k : V X G own cc nL ret D cells slots Q b o (pc + 1) lv (.long (-x) :: st) h) : V X G own cc nL ret D cells slots Q b o pc lv (.long x :: st) h := by
  intro C H locs ls hR hl
  have C0 := C
  obtain ⟨hx, hb, hml, hown, hts, hlk, hr, hK, hE, hD, hf, hlo⟩ := C0
  exact lv_lneg hx hb hdg (k C H locs ls hR hl)
theorem V.i2l {x : Int32} (hdg : decode cc pc = .ok (.i2l, 1))  (k : V X G own cc nL ret D cells slots Q b o (pc + 1) lv (.long x.toInt64 :: st) h) : V X G own cc nL ret D cells slots Q b o pc lv (.int x :: st) h := by
  intro C H locs ls hR hl
  have C0 := C
  obtain ⟨hx, hb, hml, hown, hts, hlk, hr, hK, hE, hD, hf, hlo⟩ := C0
  exact lv_i2l hx hb hdg rfl (k C H locs ls hR hl)
theorem V.l2i {x : Int64} (hdg : decode cc pc = .ok (.l2i, 1))  (k : V X G own cc nL ret D cells slots Q b o (pc + 1) lv (.int x.toInt32 :: st) h) : V X G own cc nL ret D cells slots Q b o pc lv (.long x :: st) h := by
  intro C H locs ls hR hl
  have C0 := C
  obtain ⟨hx, hb, hml, hown, hts, hlk, hr, hK, hE, hD, hf, hlo⟩ := C0
  exact lv_l2i hx hb hdg rfl (k C H locs ls hR hl)
theorem V.i2b {x : Int32} (hdg : decode cc pc = .ok (.i2b, 1))  (k : V X G own cc nL ret D cells slots Q b o (pc + 1) lv (.int x.toInt8.toInt32 :: st) h) : V X G own cc nL ret D cells slots Q b o pc lv (.int x :: st) h := by
  intro C H locs ls hR hl
  have C0 := C
  obtain ⟨hx, hb, hml, hown, hts, hlk, hr, hK, hE, hD, hf, hlo⟩ := C0
  exact lv_i2b hx hb hdg rfl (k C H locs ls hR hl)
theorem V.i2c {x : Int32} (hdg : decode cc pc = .ok (.i2c, 1))  (k : V X G own cc nL ret D cells slots Q b o (pc + 1) lv (.int (x.toUInt32 % 65536).toInt32 :: st) h) : V X G own cc nL ret D cells slots Q b o pc lv (.int x :: st) h := by
  intro C H locs ls hR hl
  have C0 := C
  obtain ⟨hx, hb, hml, hown, hts, hlk, hr, hK, hE, hD, hf, hlo⟩ := C0
  exact lv_i2c hx hb hdg rfl (k C H locs ls hR hl)
theorem V.lcmp {x y : Int64} (hdg : decode cc pc = .ok (.lcmp, 1))  (k : V X G own cc nL ret D cells slots Q b o (pc + 1) lv (.int (lg_cmp x y) :: st) h) : V X G own cc nL ret D cells slots Q b o pc lv (.long y :: .long x :: st) h := by
  intro C H locs ls hR hl
  have C0 := C
  obtain ⟨hx, hb, hml, hown, hts, hlk, hr, hK, hE, hD, hf, hlo⟩ := C0
  exact W.lcmp hx hb hdg (k C H locs ls hR hl)
theorem V.dup {va : Value} (hdg : decode cc pc = .ok (.dup, 1)) (hva : va.category = 1) (k : V X G own cc nL ret D cells slots Q b o (pc + 1) lv (va :: va :: st) h) : V X G own cc nL ret D cells slots Q b o pc lv (va :: st) h := by
  intro C H locs ls hR hl
  have C0 := C
  obtain ⟨hx, hb, hml, hown, hts, hlk, hr, hK, hE, hD, hf, hlo⟩ := C0
  exact lv_dup hx hb hdg hva (k C H locs ls hR hl)
theorem V.pop {va : Value} (hdg : decode cc pc = .ok (.pop, 1)) (hva : va.category = 1) (k : V X G own cc nL ret D cells slots Q b o (pc + 1) lv st h) : V X G own cc nL ret D cells slots Q b o pc lv (va :: st) h := by
  intro C H locs ls hR hl
  have C0 := C
  obtain ⟨hx, hb, hml, hown, hts, hlk, hr, hK, hE, hD, hf, hlo⟩ := C0
  exact lv_pop hx hb hdg hva (k C H locs ls hR hl)
theorem V.dup2 {va vb : Value} (hdg : decode cc pc = .ok (.dup2, 1)) (hva : va.category = 1) (hvb : vb.category = 1) (k : V X G own cc nL ret D cells slots Q b o (pc + 1) lv (va :: vb :: va :: vb :: st) h) : V X G own cc nL ret D cells slots Q b o pc lv (va :: vb :: st) h := by
  intro C H locs ls hR hl
  have C0 := C
  obtain ⟨hx, hb, hml, hown, hts, hlk, hr, hK, hE, hD, hf, hlo⟩ := C0
  exact lv_dup2_11 hx hb hdg hva hvb (k C H locs ls hR hl)
theorem V.ldc {index : Nat} {v : Int32} (hdg : decode cc pc = .ok (.ldc index, 2)) (hw : Cond.constant own index v ∈ gtbl) (k : V X G own cc nL ret D cells slots Q b o (pc + 2) lv (.int v :: st) h) : V X G own cc nL ret D cells slots Q b o pc lv st h := by
  intro C H locs ls hR hl
  have C0 := C
  obtain ⟨hx, hb, hml, hown, hts, hlk, hr, hK, hE, hD, hf, hlo⟩ := C0
  exact lv_ldc hx hb hown (hts _ hw) hdg (k C H locs ls hR hl)
theorem V.ldcw {index : Nat} {v : Int32} (hdg : decode cc pc = .ok (.ldc_w index, 3)) (hw : Cond.constant own index v ∈ gtbl) (k : V X G own cc nL ret D cells slots Q b o (pc + 3) lv (.int v :: st) h) : V X G own cc nL ret D cells slots Q b o pc lv st h := by
  intro C H locs ls hR hl
  have C0 := C
  obtain ⟨hx, hb, hml, hown, hts, hlk, hr, hK, hE, hD, hf, hlo⟩ := C0
  exact lv_ldcw hx hb hown (hts _ hw) hdg (k C H locs ls hR hl)
theorem V.ldc2 {index : Nat} {v : Int64} (hdg : decode cc pc = .ok (.ldc2_w index, 3)) (hw : Cond.constantLong own index v ∈ gtbl) (k : V X G own cc nL ret D cells slots Q b o (pc + 3) lv (.long v :: st) h) : V X G own cc nL ret D cells slots Q b o pc lv st h := by
  intro C H locs ls hR hl
  have C0 := C
  obtain ⟨hx, hb, hml, hown, hts, hlk, hr, hK, hE, hD, hf, hlo⟩ := C0
  exact lv_ldc2 hx hb hown (hts _ hw) hdg (k C H locs ls hR hl)
end VL
