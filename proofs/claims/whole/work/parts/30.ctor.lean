theorem oi_inst : Cond.instanceMethod Lib.objectInit ∈ gtbl := gin 124 (by decide +kernel) rfl
theorem oi_code : Cond.code Lib.objectInit ⟨#[0xb1]⟩ 1 none ∈ gtbl := gin 125 (by decide +kernel) rfl
theorem mna_outer (c : ClassId) (N h0 : Nat) : ∀ i : Nat, Jvm.Free.Multi.outerC c N h0 i = arrV c N (fun j => va_rf (if j < i then some (h0 + 1 + j) else none))
  | 0 => by
    show ({ cls := c, slots := Array.replicate N .null, vm := .none } : Cell) = _
    rw [arrV_new]
    refine congrArg (arrV c N) (funext fun j => ?_)
    simp [va_rf]
  | i + 1 => by
    show (Jvm.Free.Multi.outerC c N h0 i).setSlot i (.ref (h0 + 1 + i)) = _
    rw [mna_outer c N h0 i, arrV_store]
    refine congrArg (arrV c N) (funext fun j => ?_)
    by_cases e : j = i
    · subst e
      simp [updV, va_rf]
    · by_cases h : j < i
      · simp [updV, e, h, Nat.lt_succ_of_lt h]
      · simp [updV, e, h, show ¬ j < i + 1 by omega]
theorem inner_cell (c : ClassId) (N : Nat) : some (Jvm.Free.Multi.innerC c N (defaultValue .int)) = some (vp_cell c (N, .inl (fun _ => 0))) := by
  rw [vp_cell_i, ← arrV_new]; rfl
section CTR
variable {p : Program} {l : Launch} {e : Env} {R : Room} {s : State} {m : MethodId} {args : Array Value} {below : List Frame} {meth : Method} {c : Code} {H : Heap} {locs : List Loc} {cells slots : Nat} {Q : State → Prop}
variable {cc : ByteArray} {pc : Nat} {ls : Array Slot} {rest : List Value} {D : va_G} {cl : List vw_C} {A : Nat → Prop} {a : Nat} {tys : List (ClassId × FieldType)} {ws : va_W} {H0 : Heap}
theorem CT.put (hexec : p.tables.exec = Jvm.exec) (hb : c.code = cc) {own ref C : String} {T : u_T} {N ci index : Nat} {Ts : List Cond} (hts : ∀ w ∈ Ts, w.before args s = true) (hin : ∀ w ∈ u_ws C T N, w ∈ Ts) (ty0 : Nat → FieldType) (hty : ∀ k, k < N → parseFieldDescriptor (T k).2.2.1 = some (ty0 k)) (hnm : ∀ a, a < N → ∀ b, b < N → a ≠ b → (T a).2.1 ≠ (T b).2.1) (hown : s.vm.findClass own = some m.cls) (hK : va_K D cl tys s) (hP : va_P D cl ws H) (hD : va_D A ws) (hS0 : va_S A H0 H locs) (q0 : Nat) {fs : List Value} (he : ws[q0]? = some (a, .inr (ci, fs))) (hc : cl[ci]? = some (C, T, N)) (k : Nat) (hk : k < N) (hlink : (Cond.fieldLink own index ref (T k).2.1 (T k).2.2.1).before args s = true) (hsame : ∀ x, s.fieldFound? (T k).1 (T k).2.1 (T k).2.2.1 = some x → s.fieldFound? ref (T k).2.1 (T k).2.2.1 = some x) (hfin : (T k).2.2.2 = false) {ty : FieldType} {v : Value} (hd : parseFieldDescriptor (T k).2.2.1 = some ty) (hn : narrow ty v = v) (hfit : fits ty v = true) (hl : k < fs.length)
    (hdg : decode cc pc = .ok (.putfield index, 3)) (kk : ∀ (H1 : Heap) (locs1 : List Loc), H1.size = H.size → va_P D cl (ws.set q0 (a, .inr (ci, fs.set k v))) H1 → va_S A H0 H1 locs1 → W p l e R s m args below meth c H1 locs1 cells slots Q (F0 m (pc + 3) ls rest)) : W p l e R s m args below meth c H locs cells slots Q (F0 m pc ls (v :: .ref a :: rest)) := by
  have hap := va_apart (own := own) hts hin ty0 hty hnm hK hc
  obtain ⟨r, h1, cell, q1, q2, q3, q4⟩ := hP q0 _ he
  have hr : r = (C, T, N) := Option.some.inj (h1.symm.trans hc)
  subst hr
  obtain ⟨hS, hfc, kC, hkC, hkind⟩ := hK.1 ci _ hc
  obtain ⟨cf, kf, fi, f, hi, hsl⟩ := hS k hk
  have hlay := hts _ (hin _ (u_in_lay hk))
  unfold u_lay at hlay
  rw [if_neg (by rw [hfin]; decide)] at hlay
  have hst := (u_facts hfc hkC (u_lays hts hin hk) hi).1
  have h6 := u_store hfc hkC hkind hlay hi hd hn hfit
  refine W.putK hexec hb (f := f) ⟨hown, hlink, ⟨_, _, _, hsame _ hi⟩, hst⟩ (by rw [q2]; exact h6) q1 q3 (by rw [hsl]; exact k2_hasslot (q4 k hk)) rfl rfl hdg fun H' e1 e2 e3 => ?_
  rw [hsl] at e1 ⊢
  exact kk H' _ e2 (hP.set hD he ⟨_, hc, t_OB.to (V := updV (vp_V fs) k v) ⟨_, e1, q2, q3, t_set q4 hap hk v⟩ (fun j _ => vp_updV_set hl v j)⟩ e3) (hS0.put e2 e3 (hD.2 q0 _ he))
theorem CT.putF (hexec : p.tables.exec = Jvm.exec) (hb : c.code = cc) {own ref C : String} {T : u_T} {N ci index : Nat} {Ts : List Cond} (hts : ∀ w ∈ Ts, w.before args s = true) (hin : ∀ w ∈ u_ws C T N, w ∈ Ts) (ty0 : Nat → FieldType) (hty : ∀ k, k < N → parseFieldDescriptor (T k).2.2.1 = some (ty0 k)) (hnm : ∀ a, a < N → ∀ b, b < N → a ≠ b → (T a).2.1 ≠ (T b).2.1) (hown : s.vm.findClass own = some m.cls) (hK : va_K D cl tys s) (hP : va_P D cl ws H) (hD : va_D A ws) (hS0 : va_S A H0 H locs) (q0 : Nat) {fs : List Value} (he : ws[q0]? = some (a, .inr (ci, fs))) (hc : cl[ci]? = some (C, T, N)) (k : Nat) (hk : k < N) (hlink : (Cond.fieldLink own index ref (T k).2.1 (T k).2.2.1).before args s = true) (hsame : ∀ x, s.fieldFound? (T k).1 (T k).2.1 (T k).2.2.1 = some x → s.fieldFound? ref (T k).2.1 (T k).2.2.1 = some x) (hfin : (T k).2.2.2 = true) (hin2 : meth.name = "<init>") (hdecl : (T k).1 = own) {ty : FieldType} {v : Value} (hd : parseFieldDescriptor (T k).2.2.1 = some ty) (hn : narrow ty v = v) (hfit : fits ty v = true) (hl : k < fs.length)
    (hdg : decode cc pc = .ok (.putfield index, 3)) (kk : ∀ (H1 : Heap) (locs1 : List Loc), H1.size = H.size → va_P D cl (ws.set q0 (a, .inr (ci, fs.set k v))) H1 → va_S A H0 H1 locs1 → W p l e R s m args below meth c H1 locs1 cells slots Q (F0 m (pc + 3) ls rest)) : W p l e R s m args below meth c H locs cells slots Q (F0 m pc ls (v :: .ref a :: rest)) := by
  have hap := va_apart (own := own) hts hin ty0 hty hnm hK hc
  obtain ⟨r, h1, cell, q1, q2, q3, q4⟩ := hP q0 _ he
  have hr : r = (C, T, N) := Option.some.inj (h1.symm.trans hc)
  subst hr
  obtain ⟨hS, hfc, kC, hkC, hkind⟩ := hK.1 ci _ hc
  obtain ⟨cf, kf, fi, f, hi, hsl⟩ := hS k hk
  have hlay := hts _ (hin _ (u_in_lay hk))
  unfold u_lay at hlay
  rw [if_pos hfin] at hlay
  have hst := (u_facts hfc hkC (u_lays hts hin hk) hi).1
  have hcf : m.cls = cf := by
    obtain ⟨_, _, c', _, _, _, -, -, hf', -, -, -, hown2, -⟩ := Cond.laysFinal_spec hlay
    have e1 : c' = cf := by have := hi.symm.trans hf'; simp at this; exact this.1.symm
    rw [hdecl] at hown2
    rw [← e1]; exact Option.some.inj (hown.symm.trans hown2)
  have h6 := u_fits hfc hkC hkind (Or.inr hlay) hi hd hn hfit
  refine W.putFinK hexec hb hown hlink (hsame _ hi) hst hcf hin2 (by rw [q2]; exact h6) q1 q3 (by rw [hsl]; exact k2_hasslot (q4 k hk)) rfl rfl hdg fun H' e1 e2 e3 => ?_
  rw [hsl] at e1 ⊢
  exact kk H' _ e2 (hP.set hD he ⟨_, hc, t_OB.to (V := updV (vp_V fs) k v) ⟨_, e1, q2, q3, t_set q4 hap hk v⟩ (fun j _ => vp_updV_set hl v j)⟩ e3) (hS0.put e2 e3 (hD.2 q0 _ he))
end CTR
def va_AOI (U : State) : Prop := (Cond.arrayOver (.array .int)).before #[] U = true
theorem va_AOI.moved {s U : State} (hv : s.vm.Alike U.vm) (q : va_AOI s) : va_AOI U := by
  have e : (Cond.arrayOver (.array .int)).before #[] (s.setVm U.vm) = true := by
    rw [Cond.arrayOver_setVmC hv]
    exact q
  exact e
/-! constructors: the first c cells of SHF are made; the rows behind are zero; the next cell comes at xa X 0 + c -/
def ZR (c : Nat) (M : Mm) : Prop := ∀ i, c ≤ i → M.1 i = (fun _ => 0) ∧ M.2 i = (fun _ => 0)
def AL (X : WX) (U : State) : Prop := (∀ j, j < 1000 → xa X j = xa X 0 + j) ∧ va_AO "MonsterCot$Bed" U ∧ va_AOI U
theorem AL.moved {X : WX} {s U : State} (hv : s.vm.Alike U.vm) (q : AL X s) : AL X U := ⟨q.1, va_AO.moved hv q.2.1, q.2.2.moved hv⟩
def RC (X : WX) (c : Nat) (M : Mm) (G : GX) (H : Heap) (locs : List Loc) : Prop := va_P (xD X) vwCl (wdc (SHF.take c) (xa X) (xc X) M) H ∧ va_S (xA X) (gs G).heap H locs ∧ H.size = xa X 0 + c ∧ ZR c M
def VC (X : WX) (G : GX) (own : String) (cc : ByteArray) (nL : Nat) (ret : Option FieldType) (D cells slots : Nat) (Q : State → Prop) (nm : String) (c pc : Nat) (lv : List (Nat × Value)) (st : List Value) (M : Mm) : Prop :=
  Cx X G own cc nL ret D → AL X (gs G) → (gt G).name = nm → ∀ (H : Heap) (locs : List Loc) (ls : Array Slot), RC X c M G H locs → lv_has ls nL lv → W (gp G) (xl X) (ge G) (gR G) (gs G) (gm G) (ga G) (gb G) (gt G) (gc G) H locs cells slots Q (F0 (gm G) pc ls st)
def rmc (d mc ms : Nat) : Room := { frames := d, cells := mc, slots := ms, locals := 64 * d }
def PreC (X : WX) (c : Nat) (M : Mm) (U : State) : Prop := va_P (xD X) vwCl (wdc (SHF.take c) (xa X) (xc X) M) U.heap ∧ va_K (xD X) vwCl (tyT X) U ∧ Ext X U ∧ Dj X ∧ (∀ q, U.heap.size ≤ q → xA X q) ∧ U.heap.size = xa X 0 + c ∧ ZR c M ∧ AL X U
def PostC (X : WX) (c : Nat) (M : Mm) : Array Value → State → Outcome → State → Prop := fun _ st oc t => oc = .returned none ∧ va_P (xD X) vwCl (wdc (SHF.take c) (xa X) (xc X) M) t.heap ∧ t.heap.size = xa X 0 + c ∧ ZR c M ∧ va_F (xA X) st t
/-- a constructor's contract -/
def SatC (X : WX) (y : MethodName) (cc : ByteArray) (nL d mc ms : Nat) (as : List Value) (c : Nat) (M : Mm) (c' : Nat) (M' : Mm) : Prop :=
  Met (xl X) y (mws y cc nL none) (rmc d mc ms) (va_Pc as (PreC X c M)) (PostC X c' M') mc ms (xA X)
section CL
variable {X : WX} {G : GX} {own : String} {cc : ByteArray} {nL : Nat} {ret : Option FieldType} {D cells slots : Nat} {Q : State → Prop} {nm : String} {c pc : Nat} {lv : List (Nat × Value)} {st : List Value} {M : Mm}
theorem SatC.mk {y : MethodName} {d mc ms : Nat} {as : List Value} {c' : Nat} {M' : Mm} (hown : y.cls = own) (hnm : y.name = nm) (hy : plainFor y = true) (hn : (lg_sl as).length ≤ nL) (k : ∀ G, (gR G).cells = mc → (gR G).slots = ms → VC X G own cc nL none d 0 0 (MQ (gb G) (PostC X c' M') (ga G) (gs G) mc ms (xA X)) nm c 0 (lv_args 0 as) [] M) : SatC X y cc nL d mc ms as c M c' M' := by
  subst hown; subst hnm
  refine va_MetF (cc := cc) (maxL := nL) (ret := none) hy rfl ?_
  intro p e s m args below meth c0 s₁ B hml hv
  obtain ⟨rfl, hP, hK, hE, hD, hA, hsz, hZ, hAL⟩ := hv
  have hts := atoms_spec (ws := mws y cc nL none) B.pre
  have C : Cx X (p, e, (headSpec (mws y cc nL none) (rmc d mc ms)).room, s, m, as.toArray, below, meth, c0) y.cls cc nL none d :=
    ⟨B.exec, B.bytes, hml, findClass_of_methodNamed B.named, fun w hw => hts w (List.mem_cons_of_mem _ hw), B.notSynchronized, B.returns, hK, hE, hD, hA, Nat.le_refl d, Nat.le_refl _⟩
  have hl := lv_entry as (n := nL) hn
  rw [lg_entry_eq]
  exact k (p, e, (headSpec (mws y cc nL none) (rmc d mc ms)).room, s, m, as.toArray, below, meth, c0) rfl rfl C hAL (name_of_methodNamed B.named B.method).1 s.heap [] _ ⟨hP, va_S.rf, hsz, hZ⟩ hl
theorem VC.iconst {n : Int} {v : Int32} (hdg : decode cc pc = .ok (.iconst n, 1)) (hv : Int32.ofInt n = v) (k : VC X G own cc nL ret D cells slots Q nm c (pc + 1) lv (.int v :: st) M) : VC X G own cc nL ret D cells slots Q nm c pc lv st M := by
  intro C hAL hnm H locs ls hR hl
  have C0 := C
  obtain ⟨hx, hb, hml, hown, hts, hlk, hr, hK, hE, hD, hA, hfr, hlo⟩ := C0
  exact lv_iconst hx hb hdg hv (k C hAL hnm H locs ls hR hl)
theorem VC.bipush {n : Int} {v : Int32} (hdg : decode cc pc = .ok (.bipush n, 2)) (hv : (Int8.ofInt n).toInt32 = v) (k : VC X G own cc nL ret D cells slots Q nm c (pc + 2) lv (.int v :: st) M) : VC X G own cc nL ret D cells slots Q nm c pc lv st M := by
  intro C hAL hnm H locs ls hR hl
  have C0 := C
  obtain ⟨hx, hb, hml, hown, hts, hlk, hr, hK, hE, hD, hA, hfr, hlo⟩ := C0
  exact lv_bipush hx hb hdg hv (k C hAL hnm H locs ls hR hl)
theorem VC.sipush {n : Int} {v : Int32} (hdg : decode cc pc = .ok (.sipush n, 3)) (hv : (Int16.ofInt n).toInt32 = v) (k : VC X G own cc nL ret D cells slots Q nm c (pc + 3) lv (.int v :: st) M) : VC X G own cc nL ret D cells slots Q nm c pc lv st M := by
  intro C hAL hnm H locs ls hR hl
  have C0 := C
  obtain ⟨hx, hb, hml, hown, hts, hlk, hr, hK, hE, hD, hA, hfr, hlo⟩ := C0
  exact lv_sipush hx hb hdg hv (k C hAL hnm H locs ls hR hl)
theorem VC.dup {va : Value} (hdg : decode cc pc = .ok (.dup, 1)) (hva : va.category = 1) (k : VC X G own cc nL ret D cells slots Q nm c (pc + 1) lv (va :: va :: st) M) : VC X G own cc nL ret D cells slots Q nm c pc lv (va :: st) M := by
  intro C hAL hnm H locs ls hR hl
  have C0 := C
  obtain ⟨hx, hb, hml, hown, hts, hlk, hr, hK, hE, hD, hA, hfr, hlo⟩ := C0
  exact lv_dup hx hb hdg hva (k C hAL hnm H locs ls hR hl)
theorem VC.iload_n {k0 : Fin 4} {i : Nat} {x : Int32} (n : Nat) (hdg : decode cc pc = .ok (.iload_n k0, 1)) (hi : (k0 : Nat) = i) (hk : lv[n]? = some (i, .int x)) (k : VC X G own cc nL ret D cells slots Q nm c (pc + 1) lv (.int x :: st) M) : VC X G own cc nL ret D cells slots Q nm c pc lv st M := by
  intro C hAL hnm H locs ls hR hl
  have C0 := C
  obtain ⟨hx, hb, hml, hown, hts, hlk, hr, hK, hE, hD, hA, hfr, hlo⟩ := C0
  exact lv_iload_n hx hb hdg hi (lv_at hl n hk) (k C hAL hnm H locs ls hR hl)
theorem VC.aload_n {k0 : Fin 4} {i : Nat} {x : Nat} (n : Nat) (hdg : decode cc pc = .ok (.aload_n k0, 1)) (hi : (k0 : Nat) = i) (hk : lv[n]? = some (i, .ref x)) (k : VC X G own cc nL ret D cells slots Q nm c (pc + 1) lv (.ref x :: st) M) : VC X G own cc nL ret D cells slots Q nm c pc lv st M := by
  intro C hAL hnm H locs ls hR hl
  have C0 := C
  obtain ⟨hx, hb, hml, hown, hts, hlk, hr, hK, hE, hD, hA, hfr, hlo⟩ := C0
  exact lv_aload_n hx hb hdg hi (lv_at hl n hk) (k C hAL hnm H locs ls hR hl)
theorem VC.istore_n {k0 : Fin 4} {i : Nat} {x : Int32} (lv' : List (Nat × Value)) (hdg : decode cc pc = .ok (.istore_n k0, 1)) (hi : (k0 : Nat) = i) (hn : i < nL) (he : (i, Value.int x) :: lv.filter (fun q => !(q.1 == i) && !(q.1 + 1 == i && q.2.category == 2)) = lv') (k : VC X G own cc nL ret D cells slots Q nm c (pc + 1) lv' st M) : VC X G own cc nL ret D cells slots Q nm c pc lv (.int x :: st) M := by
  intro C hAL hnm H locs ls hR hl
  have C0 := C
  obtain ⟨hx, hb, hml, hown, hts, hlk, hr, hK, hE, hD, hA, hfr, hlo⟩ := C0
  exact lv_istore_n hx hb hdg hi hl hn he (fun ls hl => k C hAL hnm H locs ls hR hl)
theorem VC.astore_n {k0 : Fin 4} {i : Nat} {x : Nat} (lv' : List (Nat × Value)) (hdg : decode cc pc = .ok (.astore_n k0, 1)) (hi : (k0 : Nat) = i) (hn : i < nL) (he : (i, Value.ref x) :: lv.filter (fun q => !(q.1 == i) && !(q.1 + 1 == i && q.2.category == 2)) = lv') (k : VC X G own cc nL ret D cells slots Q nm c (pc + 1) lv' st M) : VC X G own cc nL ret D cells slots Q nm c pc lv (.ref x :: st) M := by
  intro C hAL hnm H locs ls hR hl
  have C0 := C
  obtain ⟨hx, hb, hml, hown, hts, hlk, hr, hK, hE, hD, hA, hfr, hlo⟩ := C0
  exact lv_astore_n hx hb hdg hi hl hn he (fun ls hl => k C hAL hnm H locs ls hR hl)
theorem VC.iinc {i : Nat} {n : Int} {x v : Int32} (j : Nat) (lv' : List (Nat × Value)) (hdg : decode cc pc = .ok (.iinc i n, 3)) (hk : lv[j]? = some (i, .int x)) (hv : x + Int32.ofInt n = v) (hn : i < nL) (he : (i, Value.int v) :: lv.filter (fun q => !(q.1 == i) && !(q.1 + 1 == i && q.2.category == 2)) = lv') (k : VC X G own cc nL ret D cells slots Q nm c (pc + 3) lv' st M) : VC X G own cc nL ret D cells slots Q nm c pc lv st M := by
  intro C hAL hnm H locs ls hR hl
  have C0 := C
  obtain ⟨hx, hb, hml, hown, hts, hlk, hr, hK, hE, hD, hA, hfr, hlo⟩ := C0
  exact lv_iinc hx hb hdg hl hk hv hn he (fun ls hl => k C hAL hnm H locs ls hR hl)
theorem VC.icmp_ge {x y : Int32} {off : Int} {tgt : Nat} (hdg : decode cc pc = .ok (.if_icmp .ge off, 3)) (ht : (pc : Int) + off = (tgt : Int)) (kt : y ≤ x → VC X G own cc nL ret D cells slots Q nm c tgt lv st M) (kf : ¬ y ≤ x → VC X G own cc nL ret D cells slots Q nm c (pc + 3) lv st M) : VC X G own cc nL ret D cells slots Q nm c pc lv (.int y :: .int x :: st) M := by
  intro C hAL hnm H locs ls hR hl
  have C0 := C
  obtain ⟨hx, hb, hml, hown, hts, hlk, hr, hK, hE, hD, hA, hfr, hlo⟩ := C0
  exact lv_icmp_ge hx hb hdg ht (fun q => kt q C hAL hnm H locs ls hR hl) (fun q => kf q C hAL hnm H locs ls hR hl)
theorem VC.goto {off : Int} {tgt : Nat} (hdg : decode cc pc = .ok (.goto off, 3)) (ht : (pc : Int) + off = (tgt : Int)) (k : VC X G own cc nL ret D cells slots Q nm c tgt lv st M) : VC X G own cc nL ret D cells slots Q nm c pc lv st M := by
  intro C hAL hnm H locs ls hR hl
  have C0 := C
  obtain ⟨hx, hb, hml, hown, hts, hlk, hr, hK, hE, hD, hA, hfr, hlo⟩ := C0
  exact lv_goto hx hb hdg ht (k C hAL hnm H locs ls hR hl)
theorem VC.sub {lv2 : List (Nat × Value)} (ks : List Nat) (he : lv_pick lv ks = lv2) (k : VC X G own cc nL ret D cells slots Q nm c pc lv2 st M) : VC X G own cc nL ret D cells slots Q nm c pc lv st M := fun C hAL hnm H locs ls hR hl => k C hAL hnm H locs ls hR (lv_sub hl ks he)
theorem VC.to {M2 : Mm} {c2 cells2 slots2 : Nat} (h1 : M = M2) (h2 : c = c2) (h3 : cells = cells2) (h4 : slots = slots2) (k : VC X G own cc nL ret D cells2 slots2 Q nm c2 pc lv st M2) : VC X G own cc nL ret D cells slots Q nm c pc lv st M := by
  subst h1; subst h2; subst h3; subst h4; exact k
theorem VC.vret {mc ms : Nat} (hdg : decode cc pc = .ok (.return_, 1)) : VC X G own cc nL none D mc ms (MQ (gb G) (PostC X c M) (ga G) (gs G) mc ms (xA X)) nm c pc lv [] M := by
  intro C hAL hnm H locs ls hR hl
  have C0 := C
  obtain ⟨hx, hb, hml, hown, hts, hlk, hr, hK, hE, hD, hA, hfr, hlo⟩ := C0
  exact W.vret hx hb hr (fun t ht _ => ⟨rfl, by rw [ht]; exact hR.1, by rw [ht]; exact hR.2.2.1, hR.2.2.2, hR.2.1.F ht⟩) hR.2.1.2.2 hdg hlk
theorem VC.objInit {idx a : Nat} (hw : Cond.methodLink own idx Lib.objectInit ∈ gtbl) (hD1 : 1 ≤ D) (hW : (st.map fun v => v.category).sum ≤ 8) (hdg : decode cc pc = .ok (.invokespecial idx, 3)) (k : VC X G own cc nL ret D cells slots Q nm c (pc + 3) lv st M) : VC X G own cc nL ret D cells slots Q nm c pc lv (.ref a :: st) M := by
  intro C hAL hnm H locs ls hR hl
  have C0 := C
  obtain ⟨hx, hb, hml, hown, hts, hlk, hr, hK, hE, hD, hA, hfr, hlo⟩ := C0
  exact W.objInit hx hb hown (hts _ hw) (hts _ oi_inst) (hts _ oi_code) (g := F0 (gm G) pc ls (.ref a :: st)) rfl (by rw [hml]; exact hl.1) rfl hdg (by omega) (by have e : 2 * (F0 (gm G) pc ls (.ref a :: st)).monitorRoom + (st.map fun v => v.category).sum ≤ 8 := lv_room hW; omega) (k C hAL hnm H locs ls hR hl)
/-! new cells -/
theorem take_succ_ {s : SC} (hs : SHF[c]? = some s) : SHF.take (c + 1) = SHF.take c ++ [s] := by
  rw [List.take_add_one, hs]; rfl
theorem take_len (hc : c ≤ SHF.length) : (SHF.take c).length = c := by rw [List.length_take]; omega
theorem take_get {i : Nat} {s : SC} (hs : SHF[i]? = some s) (hc : i < c) : (SHF.take c)[i]? = some s := by
  rw [List.getElem?_take, if_pos hc]; exact hs
theorem wdc_app {sh : List SC} {s : SC} {al : Nat → Nat} {cy : Nat → ClassId} {M : Mm} : wdc (sh ++ [s]) al cy M = wdc sh al cy M ++ [(al sh.length, cnc al cy M sh.length s)] := by
  simp only [wdc, List.mapIdx_append, List.mapIdx_cons, List.mapIdx_nil, Nat.zero_add]
def ZM : Mm := (fun _ _ => 0, fun _ _ => 0)
theorem ZR.up (hZ : ZR c M) : ZR (c + 1) M := fun i hi => hZ i (by omega)
theorem ZR.wI {i k : Nat} {v : Int32} (hZ : ZR c M) (hi : i < c) : ZR c (wI M i k v) := fun j hj => ⟨by rw [(wI_other j (by omega)).1]; exact (hZ j hj).1, (hZ j hj).2⟩
theorem RC.grow {H H1 : Heap} {locs : List Loc} {s : SC} (hAL : AL X (gs G)) (hc : c < 900) (hR : RC X c M G H locs) (hs : SHF[c]? = some s) (z1 : H1.size = H.size + 1) (o1 : ∀ q, q < H.size → H1[q]? = H[q]?) (hat : va_at (xD X) vwCl (H.size, cnc (xa X) (xc X) M c s) H1) : RC X (c + 1) M G H1 locs := by
  obtain ⟨hP, hS, hsz, hZ⟩ := hR
  have hlen : (SHF.take c).length = c := take_len (Nat.le_of_lt (shf_lt hs))
  refine ⟨?_, ⟨Nat.le_trans hS.1 (by omega), fun x h1 h2 => (o1 x (Nat.lt_of_lt_of_le h1 hS.1)).trans (hS.2.1 x h1 h2), hS.2.2⟩, by omega, hZ.up⟩
  rw [take_succ_ hs, wdc_app, hlen]
  refine (hP.kept (fun k x hx => o1 x.1 ((hP k x hx).lt))).app (fun k x hx => ?_)
  have hz : k < 1 := (List.getElem?_eq_some_iff.mp hx).1
  rw [show k = 0 by omega] at hx
  cases hx
  rw [hAL.1 c (by omega), ← hsz]
  rw [hsz] at hat ⊢
  exact hat
def kok (ty : FieldType) (d : Nat) : Bool := match ty with
  | .int | .boolean | .char | .byte | .short => d == 0
  | .long => d == 1
  | .object _ | .array _ => decide (2 ≤ d)
  | _ => false
theorem kok_def {ty : FieldType} {d i k : Nat} {al : Nat → Nat} (hk : kok ty d = true) (hZ : M.1 i = (fun _ => 0) ∧ M.2 i = (fun _ => 0)) : defaultValue ty = fdV al M i k d := by
  have e1 : M.1 i k = 0 := by rw [hZ.1]
  have e2 : M.2 i k = 0 := by rw [hZ.2]
  have hr : ∀ d, 2 ≤ d → fdV al M i k d = .null := fun d hd => by
    rw [fdV_r (by omega) (by omega), e1]; rfl
  cases ty <;> simp only [kok, beq_iff_eq, decide_eq_true_eq] at hk <;> first | (subst hk; simp [fdV, e1, e2, defaultValue]; done) | (rw [hr d hk]; rfl) | (cases hk)
theorem VC.new {ci idx N : Nat} {Cn : String} {T : u_T} (hc : cOK ci Cn T N) (hcl : Cond.classLink own idx Cn ∈ gtbl) (hin : Cond.instantiable Cn N ∈ gtbl) (hini : Cond.initialized Cn ∈ gtbl) (hk : ∃ ty : Nat → FieldType, ∀ k, k < N → parseFieldDescriptor (T k).2.2.1 = some (ty k) ∧ ∃ d, (DS ci)[k]? = some d ∧ kok (ty k) d = true) (hs : SHF[c]? = some (.inl ci)) (hc9 : c < 900) (hcs : cells + 1 ≤ (gR G).cells ∧ slots + N ≤ (gR G).slots) (hdg : decode cc pc = .ok (.new idx, 3)) (kk : VC X G own cc nL ret D (cells + 1) (slots + N) Q nm (c + 1) (pc + 3) lv (.ref (xa X c) :: st) M) : VC X G own cc nL ret D cells slots Q nm c pc lv st M := by
  intro C hAL hnm H locs ls hR hl
  have C0 := C
  obtain ⟨hx, hb, hml, hown, hts, hlk, hr, hK, hE, hD, hA, hfr, hlo⟩ := C0
  obtain ⟨c1, c2, c3, c4⟩ := hc
  obtain ⟨ty, hty⟩ := hk
  have hKn := hK.1 ci _ c1
  refine W.newcK hx hb hown (hts _ hcl) (hts _ hin) (hts _ hini) rfl hdg hcs.1 hcs.2 hKn.2.1 rfl fun H1 kC hkC e1 z1 o1 => ?_
  have hR2 := hR.grow hAL hc9 hs z1 o1 (show va_at _ _ (H.size, .inr (ci, fdL (xa X) M c (DS ci))) H1 from ⟨_, c1, (u_born ty hts c2 hKn hkC e1 (fun k hk => (hty k hk).1)).to (fun j hj => by
    obtain ⟨d, hd, hkk⟩ := (hty j hj).2
    show defaultValue (ty j) = vp_V _ j
    simp only [vp_V, List.getD_eq_getElem?_getD, fdL_get hd, Option.getD_some]
    exact kok_def hkk (hR.2.2.2 c (Nat.le_refl c)))⟩)
  have e := kk C hAL hnm H1 locs ls hR2 hl
  rw [hAL.1 c (by omega), ← hR.2.2.1] at e
  exact e
theorem VC.newa {t n : Nat} {atype : ArrayType} {v : Int32} {ty : FieldType} (hty : newarray.typeOf atype = ty) (htt : (t = 0 ∧ ty = .int) ∨ (t = 1 ∧ ty = .char) ∨ (t = 2 ∧ ty = .byte) ∨ (t = 3 ∧ ty = .long)) (harr : Cond.arrayClass ty ∈ gtbl) (hs : SHF[c]? = some (.inr (t, n))) (hc9 : c < 900) (hn : ¬ v < 0) (hN : v.toNatClampNeg = n) (hbytes : n ≤ 10000) (hcs : cells + 1 ≤ (gR G).cells ∧ slots + n ≤ (gR G).slots) (hdg : decode cc pc = .ok (.newarray atype, 2)) (kk : VC X G own cc nL ret D (cells + 1) (slots + n) Q nm (c + 1) (pc + 2) lv (.ref (xa X c) :: st) M) : VC X G own cc nL ret D cells slots Q nm c pc lv (.int v :: st) M := by
  intro C hAL hnm H locs ls hR hl
  have C0 := C
  obtain ⟨hx, hb, hml, hown, hts, hlk, hr, hK, hE, hD, hA, hfr, hlo⟩ := C0
  subst hty
  refine va_newaK hx hb (hts _ harr) rfl hdg rfl hn hN (by rcases htt with ⟨-, q⟩ | ⟨-, q⟩ | ⟨-, q⟩ | ⟨-, q⟩ <;> rw [q] <;> simp [componentBytes] <;> omega) hcs.1 hcs.2 rfl fun H1 cA e1 z1 o1 hAr hNm => ?_
  obtain ⟨q1, q2⟩ := hR.2.2.2 c (Nat.le_refl c)
  have hat : va_at (xD X) vwCl (H.size, cnc (xa X) (xc X) M c (.inr (t, n))) H1 := by
    rcases htt with ⟨rfl, q⟩ | ⟨rfl, q⟩ | ⟨rfl, q⟩ | ⟨rfl, q⟩
    · have ec : xc X 0 = cA := Option.some.inj ((show (gs G).vm.findClass ("[" ++ (FieldType.int).toString) = some (xc X 0) from (hK.2 0 _ rfl).2).symm.trans (by rw [q] at hNm; exact hNm))
      rw [cnc_arrI (by decide)]; show H1[H.size]? = some (vp_cell _ _); rw [e1, q, ec, q1]; rfl
    · have ec : xc X 1 = cA := Option.some.inj ((show (gs G).vm.findClass ("[" ++ (FieldType.char).toString) = some (xc X 1) from (hK.2 1 _ rfl).2).symm.trans (by rw [q] at hNm; exact hNm))
      rw [cnc_arrI (by decide)]; show H1[H.size]? = some (vp_cell _ _); rw [e1, q, ec, q1]; rfl
    · have ec : xc X 2 = cA := Option.some.inj ((show (gs G).vm.findClass ("[" ++ (FieldType.byte).toString) = some (xc X 2) from (hK.2 2 _ rfl).2).symm.trans (by rw [q] at hNm; exact hNm))
      rw [cnc_arrI (by decide)]; show H1[H.size]? = some (vp_cell _ _); rw [e1, q, ec, q1]; rfl
    · have ec : xc X 3 = cA := Option.some.inj ((show (gs G).vm.findClass ("[" ++ (FieldType.long).toString) = some (xc X 3) from (hK.2 3 _ rfl).2).symm.trans (by rw [q] at hNm; exact hNm))
      rw [cnc_arrL]; show H1[H.size]? = some (vp_cell _ _); rw [e1, q, ec, q2]; rfl
  have e := kk C hAL hnm H1 locs ls (hR.grow hAL hc9 hs z1 o1 hat) hl
  rw [hAL.1 c (by omega), ← hR.2.2.1] at e
  exact e
/-! fields -/
theorem wdD {sh : List SC} (hsub : ∀ (i : Nat) (s : SC), sh[i]? = some s → SHF[i]? = some s) (hD : Dj X) : va_D (xA X) (wdc sh (xa X) (xc X) M) := by
  refine ⟨fun i j p q hi hj e => ?_, fun k q hk => ?_⟩
  · obtain ⟨s1, h1, rfl⟩ := wdc_get' hi
    obtain ⟨s2, h3, rfl⟩ := wdc_get' hj
    exact hD.1 i j (shf_lt (hsub _ _ h1)) (shf_lt (hsub _ _ h3)) e
  · obtain ⟨s1, h1, rfl⟩ := wdc_get' hk
    exact hD.2 k (shf_lt (hsub _ _ h1))
theorem take_sub : ∀ (i : Nat) (s : SC), (SHF.take c)[i]? = some s → SHF[i]? = some s := fun i s h => by
  rw [List.getElem?_take] at h
  by_cases q : i < c
  · rw [if_pos q] at h; exact h
  · rw [if_neg q] at h; cases h
theorem cnc_putN {al : Nat → Nat} {cy : Nat → ClassId} {i k ci v d : Nat} (hd : (DS ci)[k]? = some d) (h2 : 2 ≤ d) (hv : v < 1000000) : cnc al cy (wI M i k (Int32.ofNat (v + 1))) i (.inl ci) = .inr (ci, (fdL al M i (DS ci)).set k (.ref (al v))) := by
  show Sum.inr (ci, fdL al (wI M i k (Int32.ofNat (v + 1))) i (DS ci)) = _
  rw [fdL_put (h := M) (h' := wI M i k (Int32.ofNat (v + 1))) hd (fun j hj => ⟨by rw [wI_self]; simp only [upd, if_neg hj], rfl⟩) (v := .ref (al v)) (by rw [fdV_r (by omega) (by omega), wI_self]; simp only [upd, if_true]; rw [rfN_ofNat hv]; rfl)]
theorem VC.putR {id ci idx k N v d : Nat} {Cn : String} {T : u_T} {ty : FieldType} (hf : fOK own idx ci Cn T N k) (hini : nm = "<init>") (hdecl : (T k).1 = own) (hty : parseFieldDescriptor (T k).2.2.1 = some ty) (hn : narrow ty (.ref (xa X v)) = .ref (xa X v)) (hfit : fits ty (.ref (xa X v)) = true) (hs : SHF[id]? = some (.inl ci)) (hid : id < c) (hd : (DS ci)[k]? = some d) (h2 : 2 ≤ d) (hlt : v < 1000000) (hdg : decode cc pc = .ok (.putfield idx, 3)) (kk : VC X G own cc nL ret D cells slots Q nm c (pc + 3) lv st (wI M id k (Int32.ofNat (v + 1)))) : VC X G own cc nL ret D cells slots Q nm c pc lv (.ref (xa X v) :: .ref (xa X id) :: st) M := by
  intro C hAL hnm H locs ls hR hl
  have C0 := C
  obtain ⟨hx, hb, hml, hown, hts, hlk, hr, hK, hE, hD, hA, hfr, hlo⟩ := C0
  obtain ⟨⟨c1, c2, ⟨ty0, c3⟩, c4⟩, hk, hT, hw⟩ := hf
  have hg := wdc_get (al := xa X) (cy := xc X) (h := M) (take_get hs hid)
  have key : ∀ (H1 : Heap) (locs1 : List Loc), H1.size = H.size → va_P (xD X) vwCl ((wdc (SHF.take c) (xa X) (xc X) M).set id (xa X id, .inr (ci, (fdL (xa X) M id (DS ci)).set k (.ref (xa X v))))) H1 → va_S (xA X) (gs G).heap H1 locs1 → W (gp G) (xl X) (ge G) (gR G) (gs G) (gm G) (ga G) (gb G) (gt G) (gc G) H1 locs1 cells slots Q (F0 (gm G) (pc + 3) ls st) := by
    intro H1 locs1 z hP1 hS1
    rw [wdc_set (take_get hs hid) wI_other (cnc_putN hd h2 hlt)] at hP1
    exact kk C hAL hnm H1 locs1 ls ⟨hP1, hS1, by rw [z]; exact hR.2.2.1, hR.2.2.2.wI hid⟩ hl
  by_cases hfin : (T k).2.2.2 = true
  · exact CT.putF hx hb hts c2 ty0 c3 c4 hown hK hR.1 (wdD take_sub hD) hR.2.1 id hg c1 k hk (hts _ hw) (fun x q => by rw [hT] at q; exact q) hfin (by rw [hnm]; exact hini) hdecl hty hn hfit (fdL_len hd) hdg key
  · exact CT.put hx hb hts c2 ty0 c3 c4 hown hK hR.1 (wdD take_sub hD) hR.2.1 id hg c1 k hk (hts _ hw) (fun x q => by rw [hT] at q; exact q) (by simpa using hfin) hty hn hfit (fdL_len hd) hdg key
theorem VC.putI {id ci idx k N : Nat} {Cn : String} {T : u_T} {v : Int32} (hf : fOK own idx ci Cn T N k) (hfin : (T k).2.2.2 = false) (hty : parseFieldDescriptor (T k).2.2.1 = some .int) (hs : SHF[id]? = some (.inl ci)) (hid : id < c) (hd : (DS ci)[k]? = some 0) (hdg : decode cc pc = .ok (.putfield idx, 3)) (kk : VC X G own cc nL ret D cells slots Q nm c (pc + 3) lv st (wI M id k v)) : VC X G own cc nL ret D cells slots Q nm c pc lv (.int v :: .ref (xa X id) :: st) M := by
  intro C hAL hnm H locs ls hR hl
  have C0 := C
  obtain ⟨hx, hb, hml, hown, hts, hlk, hr, hK, hE, hD, hA, hfr, hlo⟩ := C0
  obtain ⟨⟨c1, c2, ⟨ty0, c3⟩, c4⟩, hk, hT, hw⟩ := hf
  have hg := wdc_get (al := xa X) (cy := xc X) (h := M) (take_get hs hid)
  refine CT.put hx hb hts c2 ty0 c3 c4 hown hK hR.1 (wdD take_sub hD) hR.2.1 id hg c1 k hk (hts _ hw) (fun x q => by rw [hT] at q; exact q) hfin hty rfl rfl (fdL_len hd) hdg (fun H1 locs1 z hP1 hS1 => ?_)
  rw [wdc_set (take_get hs hid) wI_other (cnc_putI hd)] at hP1
  exact kk C hAL hnm H1 locs1 ls ⟨hP1, hS1, by rw [z]; exact hR.2.2.1, hR.2.2.2.wI hid⟩ hl
theorem VC.getR {id ci idx k N v d : Nat} {Cn : String} {T : u_T} (hf : fOK own idx ci Cn T N k) (hs : SHF[id]? = some (.inl ci)) (hid : id < c) (hd : (DS ci)[k]? = some d) (h2 : 2 ≤ d) (hv : M.1 id k = Int32.ofNat (v + 1)) (hlt : v < 1000000) (hdg : decode cc pc = .ok (.getfield idx, 3)) (kk : VC X G own cc nL ret D cells slots Q nm c (pc + 3) lv (.ref (xa X v) :: st) M) : VC X G own cc nL ret D cells slots Q nm c pc lv (.ref (xa X id) :: st) M := by
  intro C hAL hnm H locs ls hR hl
  have C0 := C
  obtain ⟨hx, hb, hml, hown, hts, hlk, hr, hK, hE, hD, hA, hfr, hlo⟩ := C0
  obtain ⟨⟨c1, c2, c3, c4⟩, hk, hT, hw⟩ := hf
  refine va_get hx hb hts c2 hown hK hR.1 id (wdc_get (take_get hs hid)) c1 k hk (hts _ hw) (fun x q => by rw [hT] at q; exact q) (v := .ref (xa X v)) ?_ hdg (kk C hAL hnm H locs ls hR hl)
  rw [fdL_get hd, fdV_r (by omega) (by omega), hv, rfN_ofNat hlt]; rfl
theorem VC.alen {t id n : Nat} {v : Int32} (hs : SHF[id]? = some (.inr (t, n))) (hid : id < c) (ht : t = 4) (hv : Int32.ofNat n = v) (hdg : decode cc pc = .ok (.arraylength, 1)) (kk : VC X G own cc nL ret D cells slots Q nm c (pc + 1) lv (.int v :: st) M) : VC X G own cc nL ret D cells slots Q nm c pc lv (.ref (xa X id) :: st) M := by
  intro C hAL hnm H locs ls hR hl
  have C0 := C
  obtain ⟨hx, hb, hml, hown, hts, hlk, hr, hK, hE, hD, hA, hfr, hlo⟩ := C0
  subst ht
  exact va_alen hx hb hK hR.1 id 4 (wdc_get (take_get hs hid)) rfl hv hdg (kk C hAL hnm H locs ls hR hl)
theorem VC.aast {id n v : Nat} {i : Int32} (hs : SHF[id]? = some (.inr (4, n))) (hid : id < c) (hv : SHF[v]? = some (.inl 0)) (hvc : v < c) (hlt : v < 1000000) (hin : inB i n) (hdg : decode cc pc = .ok (.aastore, 1)) (kk : VC X G own cc nL ret D cells slots Q nm c (pc + 1) lv st (wI M id i.toNatClampNeg (Int32.ofNat (v + 1)))) : VC X G own cc nL ret D cells slots Q nm c pc lv (.ref (xa X v) :: .int i :: .ref (xa X id) :: st) M := by
  intro C hAL hnm H locs ls hR hl
  have C0 := C
  obtain ⟨hx, hb, hml, hown, hts, hlk, hr, hK, hE, hD, hA, hfr, hlo⟩ := C0
  have ha := wdc_get (al := xa X) (cy := xc X) (h := M) (take_get hs hid)
  rw [cnc_arrR (by decide)] at ha
  have hvv := wdc_get (al := xa X) (cy := xc X) (h := M) (take_get hv hvc)
  have hDw := wdD (X := X) (M := M) (sh := SHF.take c) take_sub hD
  have h0 : ¬ i < 0 := fun q => hin.vp (Or.inl q)
  obtain ⟨r', hr', cellV, g1, g2, g3, -⟩ := hR.1 v _ hvv
  have hcls := (hK.1 0 _ rfl).2
  obtain ⟨kA, comp, k1, k2, k3, -⟩ := (hK.2 4 _ rfl).2
  have hcomp : comp = (xD X).1 0 := Option.some.inj (k3.symm.trans hcls.1)
  subst hcomp
  obtain ⟨kC, hkC, -⟩ := hcls.2
  refine W.aast hx hb (hR.1 id _ ha) (fun q h => by cases h) (fun h => by cases h) k1 k2 rfl hkC ⟨h0, by show _ < (arrV _ _ _).slots.size; rw [arrV_size]; exact hin.lt⟩ g1 (fun q h => by rw [g3] at h; cases h) (by rw [g2]; exact hkC) (by rw [g2]; exact va_assign hcls) rfl rfl hdg fun H1 e z oq => ?_
  have hP1 : va_P (xD X) vwCl ((wdc (SHF.take c) (xa X) (xc X) M).set id (xa X id, .inl (xc X 4, n, .inr (.inr (.inr (.inr (va_up (fun j => rfN (xa X) (M.1 id j)) i.toNatClampNeg (some (xa X v))))))))) H1 := by
    refine hR.1.set hDw ha ?_ oq
    show H1[xa X id]? = some (vp_cell _ _)
    rw [e]
    rw [vp_cell_q, vp_cell_q, arrV_store]
    congr 2
    funext q
    by_cases hq : q = i.toNatClampNeg
    · subst hq
      simp [updV, va_up, va_rf]
    · simp [updV, va_up, hq]
  have e0 : cnc (xa X) (xc X) (wI M id i.toNatClampNeg (Int32.ofNat (v + 1))) id (.inr (4, n)) = .inl (xc X 4, n, .inr (.inr (.inr (.inr (va_up (fun j => rfN (xa X) (M.1 id j)) i.toNatClampNeg (some (xa X v))))))) := by
    rw [cnc_arrR (by decide)]
    congr 7
    funext j
    rw [wI_self]
    by_cases hj : j = i.toNatClampNeg
    · subst hj; simp only [upd, va_up, if_true]; exact rfN_ofNat hlt
    · simp only [upd, va_up, if_neg hj]
  rw [wdc_set (take_get hs hid) wI_other e0] at hP1
  exact kk C hAL hnm H1 _ ls ⟨hP1, hR.2.1.put z oq (hDw.2 id _ ha), by rw [z]; exact hR.2.2.1, hR.2.2.2.wI hid⟩ hl
theorem VC.anew {idx n : Nat} {v : Int32} (hcl : Cond.classLink own idx "MonsterCot$Bed" ∈ gtbl) (hs : SHF[c]? = some (.inr (4, n))) (hc9 : c < 900) (hn : ¬ v < 0) (hN : v.toNatClampNeg = n) (hbytes : n ≤ 10000) (hcs : cells + 1 ≤ (gR G).cells ∧ slots + n ≤ (gR G).slots) (hdg : decode cc pc = .ok (.anewarray idx, 3)) (kk : VC X G own cc nL ret D (cells + 1) (slots + n) Q nm (c + 1) (pc + 3) lv (.ref (xa X c) :: st) M) : VC X G own cc nL ret D cells slots Q nm c pc lv (.int v :: st) M := by
  intro C hAL hnm H locs ls hR hl
  have C0 := C
  obtain ⟨hx, hb, hml, hown, hts, hlk, hr, hK, hE, hD, hA, hfr, hlo⟩ := C0
  subst hN
  refine W.anew hx hb hown (hts _ hcl) (va_AO.use hAL.2.1) rfl hdg rfl hn (by omega) hcs.1 hcs.2 fun cA kA comp f1 f2 f3 f4 => ?_
  generalize hH1 : H.push ({ cls := cA, slots := Array.replicate v.toNatClampNeg .null, vm := .none } : Cell) = H1
  have z1 : H1.size = H.size + 1 := by rw [← hH1, Array.size_push]
  have e1 : H1[H.size]? = some (arrV cA v.toNatClampNeg (fun _ => .null)) := by rw [← hH1, Array.getElem?_push_size, ← arrV_new]
  have o1 : ∀ q : Nat, q < H.size → H1[q]? = H[q]? := fun q hq => by rw [← hH1, Array.getElem?_push, if_neg (Nat.ne_of_lt hq)]
  obtain ⟨q1, q2⟩ := hR.2.2.2 c (Nat.le_refl c)
  have ec : xc X 4 = cA := by
    obtain ⟨kA', comp', k1, k2, k3, k4⟩ := (hK.2 4 _ rfl).2
    exact Option.some.inj (k4.symm.trans f1)
  have hat : va_at (xD X) vwCl (H.size, cnc (xa X) (xc X) M c (.inr (4, v.toNatClampNeg))) H1 := by
    rw [cnc_arrR (by decide)]; show H1[H.size]? = some (vp_cell _ _)
    rw [e1, ec, vp_cell_q, q1]; rfl
  have e := kk C hAL hnm H1 locs ls (hR.grow hAL hc9 hs z1 o1 hat) hl
  rw [hAL.1 c (by omega), ← hR.2.2.1] at e
  exact e
theorem VC.ldcS {idx : Nat} {q : String × Nat × String × Nat} (hq : q ∈ sT) (hown1 : q.1 = own) (hidx : q.2.1 = idx) (hdg : decode cc pc = .ok (.ldc idx, 2)) (kk : VC X G own cc nL ret D cells slots Q nm c (pc + 2) lv (.ref (xa X q.2.2.2) :: st) M) : VC X G own cc nL ret D cells slots Q nm c pc lv st M := by
  subst hown1; subst hidx
  intro C hAL hnm H locs ls hR hl
  have C0 := C
  obtain ⟨hx, hb, hml, hown, hts, hlk, hr, hK, hE, hD, hA, hfr, hlo⟩ := C0
  exact va_ldcS hx hb hown (hE.2.2.2.1 q hq) hdg (kk C hAL hnm H locs ls hR hl)
def mnaM (M : Mm) : Mm := wI (wI (wI (wI M 17 0 (Int32.ofNat (18 + 1))) 17 1 (Int32.ofNat (19 + 1))) 17 2 (Int32.ofNat (20 + 1))) 17 3 (Int32.ofNat (21 + 1))
theorem mnaM_row {a : Nat} (h : a ≠ 17) : (mnaM M).1 a = M.1 a := by
  simp only [mnaM]
  rw [(wI_other a h).1, (wI_other a h).1, (wI_other a h).1, (wI_other a h).1]
theorem mnaM_17 {al : Nat → Nat} {B : Nat} (hal : ∀ j, j < 1000 → al j = B + j) (hz : M.1 17 = fun _ => 0) : (fun j => rfN al ((mnaM M).1 17 j)) = (fun i => if i < 4 then some (B + 17 + 1 + i) else none) := by
  funext j
  simp only [mnaM, wI_self, hz, upd]
  by_cases h3 : j = 3
  · subst h3; simp only [if_true]; rw [rfN_ofNat (by decide), hal _ (by decide)]; simp
  by_cases h2 : j = 2
  · subst h2; simp only [if_true]; simp only [show ¬ (2 : Nat) = 3 by decide, if_false]; rw [rfN_ofNat (by decide), hal _ (by decide)]; simp
  by_cases h1 : j = 1
  · subst h1; simp only [show ¬ (1 : Nat) = 3 by decide, show ¬ (1 : Nat) = 2 by decide, if_false, if_true]; rw [rfN_ofNat (by decide), hal _ (by decide)]; simp
  by_cases h0 : j = 0
  · subst h0; simp only [show ¬ (0 : Nat) = 3 by decide, show ¬ (0 : Nat) = 2 by decide, show ¬ (0 : Nat) = 1 by decide, if_false, if_true]; rw [rfN_ofNat (by decide), hal _ (by decide)]; simp
  · simp only [if_neg h3, if_neg h2, if_neg h1, if_neg h0]
    rw [if_neg (by omega)]; rfl
theorem VC.mna17 {idx : Nat} (hcl : Cond.classLink own idx "[[I" ∈ gtbl) (hac : Cond.arrayClass .int ∈ gtbl) (hcs : cells + 5 ≤ (gR G).cells ∧ slots + 964 ≤ (gR G).slots) (hdg : decode cc pc = .ok (.multianewarray idx 2, 4)) (kk : VC X G own cc nL ret D (cells + 5) (slots + 964) Q nm 22 (pc + 4) lv (.ref (xa X 17) :: st) (mnaM M)) : VC X G own cc nL ret D cells slots Q nm 17 pc lv (.int 240 :: .int 4 :: st) M := by
  intro C hAL hnm H locs ls hR hl T hT XS
  have C0 := C
  obtain ⟨hx, hb, hml, hown, hts, hlk, hr, hK, hE, hD, hA, hfr, hlo⟩ := C0
  obtain ⟨vm₁, cA, comp, -, fA, fC, hO, -, X', step⟩ := XS.multianewarray2F (ty := .int) hx hown (hts _ hcl) hAL.2.2 (hts _ hac) (g := F0 (gm G) pc ls (.int 240 :: .int 4 :: st)) rfl (by rw [hb]; exact hdg) rfl (by decide) (by decide) (by decide) (by decide) (by decide) rfl rfl (by exact hcs.1) (by exact hcs.2)
  have e4 : (4 : Int32).toNatClampNeg = 4 := by decide
  have e240 : (240 : Int32).toNatClampNeg = 240 := by decide
  rw [e4, e240] at X' step
  have ec0 : xc X 0 = comp := Option.some.inj ((show (gs G).vm.findClass ("[" ++ (FieldType.int).toString) = some (xc X 0) from (hK.2 0 _ rfl).2).symm.trans fC)
  have ec5 : xc X 5 = cA := Option.some.inj ((show (gs G).vm.findClass ("[" ++ (FieldType.array .int).toString) = some (xc X 5) from (hK.2 5 _ rfl).2).symm.trans fA)
  generalize hF : Jvm.Free.Multi.fill (T.setVm vm₁) cA comp 4 240 (defaultValue .int) 4 = F at X' step
  have hTh : (T.setVm vm₁).heap = H := hT
  obtain ⟨f1, f2, -, -⟩ := Jvm.Free.Multi.fill_facts (T.setVm vm₁) cA comp 4 240 (defaultValue .int) 4
  rw [hF, hTh] at f1 f2
  have hold : ∀ x : Nat, x < H.size → F.heap[x]? = H[x]? := fun x hx => by
    have := Jvm.Free.Multi.fill_old (T.setVm vm₁) cA comp 4 240 (defaultValue .int) (a := x) (by rw [hTh]; exact hx) 4
    rw [hF, hTh] at this
    exact this
  have hrow : ∀ j : Nat, j < 4 → F.heap[H.size + 1 + j]? = some (Jvm.Free.Multi.innerC comp 240 (defaultValue .int)) := fun j hj => by
    have := Jvm.Free.Multi.fill_inner (T.setVm vm₁) cA comp 4 240 (defaultValue .int) 4 j hj
    rw [hF, hTh] at this
    exact this
  have hout : Jvm.Free.Multi.outerC cA 4 H.size 4 = vp_cell cA (4, .inr (.inr (.inr (.inr (fun i => if i < 4 then some (H.size + 1 + i) else none))))) := by
    rw [vp_cell_q]
    exact mna_outer cA 4 H.size 4
  rw [hout] at f2
  obtain ⟨hP, hS, hsz, hZ⟩ := hR
  have hRC : RC X 22 (mnaM M) G F.heap locs := by
    refine ⟨?_, ⟨Nat.le_trans hS.1 (by omega), fun x h1 h2 => (hold x (Nat.lt_of_lt_of_le h1 hS.1)).trans (hS.2.1 x h1 h2), hS.2.2⟩, by omega, fun i hi => ⟨by rw [mnaM_row (by omega)]; exact (hZ i (by omega)).1, (hZ i (by omega)).2⟩⟩
    intro k qq hk
    obtain ⟨s, h1, rfl⟩ := wdc_get' hk
    have hk22 : k < 22 := by
      have := shf_lt h1
      rw [List.length_take] at this; omega
    have hs := take_sub k s h1
    rcases Nat.lt_or_ge k 17 with h17 | h17
    · have h0 := hP k _ (wdc_get (al := xa X) (cy := xc X) (h := M) (take_get hs h17))
      rw [cnc_same (h := M) (mnaM_row (by omega)) rfl]
      exact h0.kept (hold _ h0.lt)
    · rcases (show k = 17 ∨ k = 18 ∨ k = 19 ∨ k = 20 ∨ k = 21 by omega) with rfl | rfl | rfl | rfl | rfl
      · have e : s = .inr (5, 4) := Option.some.inj (hs.symm.trans (by decide +kernel))
        subst e
        rw [cnc_arrR (by decide), mnaM_17 hAL.1 (hZ 17 (by omega)).1, ← hsz, hAL.1 17 (by decide), ← hsz, ec5]
        exact f2
      all_goals
        have e : s = .inr (0, 240) := Option.some.inj (hs.symm.trans (by decide +kernel))
        subst e
        rw [cnc_arrI (by decide), mnaM_row (by decide), (hZ _ (by omega)).1, hAL.1 _ (by decide), ec0]
      · have := hrow 0 (by decide); rw [hsz] at this; show F.heap[xa X 0 + 18]? = _; rw [this, inner_cell]
      · have := hrow 1 (by decide); rw [hsz] at this; show F.heap[xa X 0 + 19]? = _; rw [this, inner_cell]
      · have := hrow 2 (by decide); rw [hsz] at this; show F.heap[xa X 0 + 20]? = _; rw [this, inner_cell]
      · have := hrow 3 (by decide); rw [hsz] at this; show F.heap[xa X 0 + 21]? = _; rw [this, inner_cell]
  obtain ⟨t, a1, b1⟩ := kk C hAL hnm F.heap locs ls hRC hl F rfl X'
  refine ⟨t, step t ?_, b1⟩
  rw [hT, hsz, ← hAL.1 17 (by decide)]
  exact a1
/-! calls -/
theorem PreC.blind {as : List Value} : FrameBlind (va_Pc as (PreC X c M)) := fun a U g mk q => ⟨q.1, q.2.1, va_K.moved (u := U) (U := U.calling g mk a) (Vm.Alike.refl U.vm) q.2.2.1, q.2.2.2.1.same rfl rfl, q.2.2.2.2.1, q.2.2.2.2.2.1, q.2.2.2.2.2.2.1, q.2.2.2.2.2.2.2.1, q.2.2.2.2.2.2.2.2.moved (s := U) (U := U.calling g mk a) (Vm.Alike.refl U.vm)⟩
theorem PreC.at {H : Heap} {locs : List Loc} (C : Cx X G own cc nL ret D) (hAL : AL X (gs G)) (hR : RC X c M G H locs) : ∀ U : State, U.heap = H → (gs G).WarmedH U.vm → PreC X c M U := by
  obtain ⟨hx, hb, hml, hown, hts, hlk, hr, hK, hE, hD, hA, hfr, hlo⟩ := C
  intro U hU hW
  exact ⟨by rw [hU]; exact hR.1, va_K.moved hW.alike hK, hE.warm hW (fun a h1 h2 => by rw [hU]; exact hR.2.1.2.1 a h1 h2), hD, fun q hq => hA q (Nat.le_trans hR.2.1.1 (by rw [← hU]; exact hq)), by rw [hU]; exact hR.2.2.1, hR.2.2.2, hAL.moved hW.alike⟩
theorem VC.ran {mc ms c' : Nat} {M' : Mm} {a : Array Value} {st0 : List Value} (hr : ∀ C : Cx X G own cc nL ret D, AL X (gs G) → ∀ H locs ls, RC X c M G H locs → lv_has ls nL lv → va_Run (gp G) (xl X) (ge G) (gR G) (gs G) (gm G) (ga G) (gb G) (gt G) (gc G) H locs cells slots mc ms (F0 (gm G) pc ls st0) st (PostC X c' M' a) (xA X)) (kk : VC X G own cc nL ret D (cells + mc) (slots + ms) Q nm c' (pc + 3) lv st M') : VC X G own cc nL ret D cells slots Q nm c pc lv st0 M := by
  intro C hAL hnm H locs ls hR hl T hT XS
  obtain ⟨v', st₀, t, T', L, h0, X', hL, e1, e2, ⟨hv, hP, hsz, hZ, hF⟩, go⟩ := hr C hAL H locs ls hR hl T hT XS
  cases hv
  obtain ⟨f1, f2⟩ := hF
  rw [h0] at f1 f2
  have hS : va_S (xA X) (gs G).heap T'.heap (locs ++ L) := ⟨Nat.le_trans hR.2.1.1 (by rw [e1]; exact f1), fun q h1 h2 => by rw [e1, f2 q (Nat.lt_of_lt_of_le h1 hR.2.1.1) h2]; exact hR.2.1.2.1 q h1 h2, fun q hq => by
    rcases List.mem_append.mp hq with z | z
    · exact hR.2.1.2.2 q z
    · exact hL q z⟩
  obtain ⟨t2, a1, b1⟩ := kk C hAL hnm T'.heap (locs ++ L) ls ⟨by rw [e1]; exact hP, hS, by rw [e1]; exact hsz, hZ⟩ hl T' rfl X'
  exact ⟨t2, go t2 a1, b1⟩
abbrev mI (y : MethodName) (cc2 : ByteArray) (nL2 n : Nat) : Prop := mOK y cc2 nL2 none n ∧ y.name = "<init>" ∧ Cond.instanceMethod y ∈ gtbl
theorem VC.callI {y : MethodName} {cc2 : ByteArray} {nL2 d n idx id mc ms c' : Nat} {As : List Value} {M' : Mm} {st0 : List Value} (hm : mI y cc2 nL2 n) (hw : Cond.methodLink own idx y ∈ gtbl) (hM : SatC X y cc2 nL2 d mc ms (.ref (xa X id) :: As) c M c' M') (hd : d + 1 ≤ D) (hst : As.reverse ++ .ref (xa X id) :: st = st0) (hn : As.length = n) (hW : (st.map fun v => v.category).sum ≤ 8) (hcs : cells + mc ≤ (gR G).cells ∧ slots + ms ≤ (gR G).slots) (hdg : decode cc pc = .ok (.invokespecial idx, 3)) (kk : VC X G own cc nL ret D (cells + mc) (slots + ms) Q nm c' (pc + 3) lv st M') : VC X G own cc nL ret D cells slots Q nm c pc lv st0 M := by
  refine VC.ran (a := (Value.ref (xa X id) :: As).toArray) (fun C hAL H locs ls hR hl => ?_) kk
  have C0 := C
  obtain ⟨hx, hb, hml, hown, hts, hlk, hr, hK, hE, hD, hA, hfr, hlo⟩ := C0
  exact va_runI (As := As) (rest := st) (y := y) ⟨hx, hb, hml, hown, hts⟩ hM ⟨callB_of n hts (mws_good hm.1.1) rfl rfl rfl (hts _ hm.1.2.2.2) (hts _ hw) hm.1.2.1 ⟨by show d + 1 ≤ _; omega, by show 8 + (nL2 + 11) + 64 * d ≤ _; have := hm.1.2.2.1; omega⟩, hm.2.1, hts _ hm.2.2⟩ ⟨PreC.blind, fun U hU hWm => ⟨rfl, PreC.at C hAL hR U hU hWm⟩⟩ rfl hn hl.1 hst.symm (lv_room hW) hdg hcs
theorem VC.callIN {y : MethodName} {cc2 : ByteArray} {nL2 d n idx id mc ms c' : Nat} {host : String} {As : List Value} {M' : Mm} {st0 : List Value} (hm : mI y cc2 nL2 n) (hw : (own, idx, y, host) ∈ nsT) (hM : SatC X y cc2 nL2 d mc ms (.ref (xa X id) :: As) c M c' M') (hd : d + 1 ≤ D) (hst : As.reverse ++ .ref (xa X id) :: st = st0) (hn : As.length = n) (hW : (st.map fun v => v.category).sum ≤ 8) (hcs : cells + mc ≤ (gR G).cells ∧ slots + ms ≤ (gR G).slots) (hdg : decode cc pc = .ok (.invokespecial idx, 3)) (kk : VC X G own cc nL ret D (cells + mc) (slots + ms) Q nm c' (pc + 3) lv st M') : VC X G own cc nL ret D cells slots Q nm c pc lv st0 M := by
  refine VC.ran (a := (Value.ref (xa X id) :: As).toArray) (fun C hAL H locs ls hR hl => ?_) kk
  have C0 := C
  obtain ⟨hx, hb, hml, hown, hts, hlk, hr, hK, hE, hD, hA, hfr, hlo⟩ := C0
  exact va_runIN (As := As) (rest := st) (y := y) (host := host) ⟨hx, hb, hml, hown, hts⟩ hM ⟨va_cnB n hts (mws_good hm.1.1) rfl rfl rfl (hE.2.2.2.2.2.1 _ hw) (hts _ hm.1.2.2.2) hm.1.2.1 ⟨by show d + 1 ≤ _; omega, by show 8 + (nL2 + 11) + 64 * d ≤ _; have := hm.1.2.2.1; omega⟩, hm.2.1, hts _ hm.2.2⟩ ⟨PreC.blind, fun U hU hWm => ⟨rfl, PreC.at C hAL hR U hU hWm⟩⟩ rfl hn hl.1 hst.symm (lv_room hW) hdg hcs
end CL
