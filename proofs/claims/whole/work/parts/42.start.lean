theorem dL_law_0 : decode cL_law 0 = .ok (.new 8, 3) := by decide +kernel
theorem dL_law_3 : decode cL_law 3 = .ok (.dup, 1) := by decide +kernel
theorem dL_law_4 : decode cL_law 4 = .ok (.invokespecial 15, 3) := by decide +kernel
theorem dL_law_7 : decode cL_law 7 = .ok (.astore_n 1, 1) := by decide +kernel
theorem dL_law_8 : decode cL_law 8 = .ok (.new 16, 3) := by decide +kernel
theorem dL_law_11 : decode cL_law 11 = .ok (.dup, 1) := by decide +kernel
theorem dL_law_12 : decode cL_law 12 = .ok (.invokespecial 18, 3) := by decide +kernel
theorem dL_law_15 : decode cL_law 15 = .ok (.astore_n 2, 1) := by decide +kernel
theorem dL_law_16 : decode cL_law 16 = .ok (.iconst 1, 1) := by decide +kernel
theorem dL_law_17 : decode cL_law 17 = .ok (.newarray .long, 2) := by decide +kernel
theorem dL_law_19 : decode cL_law 19 = .ok (.astore_n 3, 1) := by decide +kernel
theorem dL_law_20 : decode cL_law 20 = .ok (.iconst 0, 1) := by decide +kernel
theorem dL_law_21 : decode cL_law 21 = .ok (.istore 4, 2) := by decide +kernel
theorem dL_law_1631 : decode cL_law 1631 = .ok (.iconst 1, 1) := by decide +kernel
theorem dL_law_1632 : decode cL_law 1632 = .ok (.ireturn, 1) := by decide +kernel
/-! what the Statement says of the start -/
def fl : List Cond := flatC (Jvm.Cond.and given_1 narrow_1)
abbrev ztm (i : Nat) : Term := .static (zT.getD i ("", "", 0)).1 (zT.getD i ("", "", 0)).2.1 "[I"
abbrev stm (i : Nat) : Term := .string (sT.getD i ("", 0, "", 0)).1 (sT.getD i ("", 0, "", 0)).2.1
abbrev svl (i : Nat) : Term := .field (stm i) "java/lang/String" "value" "[B"
set_option maxRecDepth 100000 in
theorem f_z : ∀ i, i < 7 → Cond.laysStatic (zT.getD i ("", "", 0)).1 (zT.getD i ("", "", 0)).2.1 "[I" ∈ lw_tbl ∧ Cond.initialized (zT.getD i ("", "", 0)).1 ∈ lw_tbl ∧ Cond.arrayOf (ztm i) .int ∈ fl ∧ Cond.eq (.length (ztm i)) (.int (Int32.ofNat (exT.getD i []).length)) ∈ fl ∧ (exT.getD i []).length < 100 := by decide +kernel
set_option maxRecDepth 100000 in
theorem f_z2 : ∀ i, i < 7 → ∀ j, j < (exT.getD i []).length → Cond.eq (.elem (ztm i) (.int (Int32.ofNat j))) (.int ((exT.getD i []).getD j 0)) ∈ fl := by decide +kernel
set_option maxRecDepth 100000 in
theorem f_s : ∀ i, i < 17 → Cond.stringRef (sT.getD i ("", 0, "", 0)).1 (sT.getD i ("", 0, "", 0)).2.1 (sT.getD i ("", 0, "", 0)).2.2.1 ∈ lw_tbl ∧ Cond.exactly (stm i) "java/lang/String" ∈ fl ∧ Cond.eq (.field (stm i) "java/lang/String" "coder" "B") (.int 0) ∈ fl ∧ Cond.arrayOf (svl i) .byte ∈ fl ∧ Cond.eq (.length (svl i)) (.int (Int32.ofNat (stT.getD i []).length)) ∈ fl ∧ (stT.getD i []).length < 100 := by decide +kernel
set_option maxRecDepth 100000 in
theorem f_s2 : ∀ i, i < 17 → ∀ j, j < (stT.getD i []).length → Cond.eq (.elem (svl i) (.int (Int32.ofNat j))) (.int ((stT.getD i []).getD j 0)) ∈ fl := by decide +kernel
set_option maxRecDepth 100000 in
theorem f_n : ∀ q ∈ nsT, Cond.methodLinkNest q.1 q.2.1 q.2.2.1 q.2.2.2 ∈ lw_tbl := by decide +kernel
theorem ix_z : ∀ q ∈ zT, q = zT.getD (q.2.2 - 1001) ("", "", 0) ∧ q.2.2 = 1001 + (q.2.2 - 1001) ∧ q.2.2 - 1001 < 7 := by decide +kernel
theorem ix_s : ∀ q ∈ sT, q = sT.getD (q.2.2.2 - 1020) ("", 0, "", 0) ∧ q.2.2.2 = 1020 + (q.2.2.2 - 1020) ∧ q.2.2.2 - 1020 < 17 := by decide +kernel
set_option maxRecDepth 100000 in
theorem f_c : ∀ i, i < 13 → ∀ w ∈ u_ws (vwCl.getD i ("", fun _ => ("", "", "", false), 0)).1 (vwCl.getD i ("", fun _ => ("", "", "", false), 0)).2.1 (vwCl.getD i ("", fun _ => ("", "", "", false), 0)).2.2, w ∈ lw_tbl := by decide +kernel
set_option maxRecDepth 100000 in
theorem f_ci : ∀ i, i < 13 → Cond.instantiable (vwCl.getD i ("", fun _ => ("", "", "", false), 0)).1 (vwCl.getD i ("", fun _ => ("", "", "", false), 0)).2.2 ∈ lw_tbl := by decide +kernel
/-- the memory behind the two constructors -/
def M0 : Mm := i_X12 (i_X11 ZM)
theorem cb_self (M : Mm) : cb M M = M := by
  unfold cb
  simp only [ite_self]
theorem SHF_all : SHF.take 274 = SHF := List.take_of_length_le (by decide +kernel)
/-- the references as the constructors made them -/
def shB (i : Nat) : Bool := match (SHF[i]? : Option SC) with
  | some (Sum.inl ci) => decide ((DS ci).length ≤ 60)
  | some (Sum.inr (t, n)) => decide (t < 4) || decide (n ≤ 60)
  | none => true
theorem shB_all : ∀ i, i < 274 → shB i = true := by decide +kernel
theorem isFx_lt : ∀ id k, isFx id k = true → id < 274 ∧ k < 60 := by
  intro id k q
  unfold isFx at q
  cases hs : SHF[id]? with
  | none => rw [hs] at q; cases q
  | some s =>
    have hid : id < 274 := (show SHF.length = 274 by decide +kernel) ▸ (List.getElem?_eq_some_iff.mp hs).1
    refine ⟨hid, ?_⟩
    have z2 := shB_all id hid
    unfold shB at z2
    rw [hs] at q z2
    cases s with
    | inl ci =>
      have q2 : (DS ci)[k]? = some 2 := by simpa using q
      have z3 : (DS ci).length ≤ 60 := by simpa using z2
      exact Nat.lt_of_lt_of_le (List.getElem?_eq_some_iff.mp q2).1 z3
    | inr p =>
      obtain ⟨t, n⟩ := p
      have q2 : (decide (4 ≤ t) && decide (k < n)) = true := q
      have z3 : (decide (t < 4) || decide (n ≤ 60)) = true := z2
      simp only [Bool.and_eq_true, Bool.or_eq_true, decide_eq_true_eq] at q2 z3
      omega
set_option maxRecDepth 1000000 in
theorem Fix0_all : ∀ id, id < 274 → ∀ k, k < 60 → isFx id k = true → M0.1 id k = Int32.ofNat (fxv id k) := by decide +kernel
theorem Fix0 : Fix M0 := fun id k q => Fix0_all id (isFx_lt id k q).1 k (isFx_lt id k q).2 q
/-! THE CLAIM OUT OF ONE WALK OF THE LAW'S BODY. Your part is whole_start (and what it stands on); all else here is the same for every law, but numbers. -/
def R_law : String := "MonsterCotLaw"
def lw_P (b : Addr) (xs : List Int32) (args : Array Value) (s : State) : Prop := args = #[.ref b] ∧ s.IntsAt b xs ∧ xs.length ≤ 3584 ∧ (Jvm.Cond.and given_1 narrow_1).before args s = true
def lw_Q (_ : Array Value) (s : State) (o : Outcome) (t : State) : Prop := o = .returned (some (.int 1)) ∧ Framed s o t [] 601024 7293033
def lw_Z (below : List Frame) (a : Array Value) (s : State) : State → Prop := fun t => ∃ o, t.status = .running ∧ Ended t below o ∧ lw_Q a s o t
/-- the law's own end, with 1 on the stack, nothing written that was there before, its room as the claim has it -/
theorem lw_ret {p : Program} {l : Launch} {e : Env} {s : State} {m : MethodId} {below : List Frame} {meth : Method} {c : Code} {b : Nat} (hx : p.tables.exec = Jvm.exec) (hb : c.code = code) (hr : meth.sig.returnType = ret) (hlocks : meth.locks = false) {pc : Nat} {H : Heap} {ls : Array Slot} (hdg : decode code pc = .ok (.ireturn, 1)) : W p l e room_1 s m #[Value.ref b] below meth c H [] 601024 7293033 (lw_Z below #[Value.ref b] s) (F0 m pc ls [.int 1]) := by
  intro T hT X
  obtain ⟨fs, hret, hrun, hended, hW, hframe⟩ := X.leave (v := some (.int 1)) (hlocks := hlocks) (fun h => by rw [hr] at h; cases h)
  have hmeth' : T.vm.method? m = some meth := X.method'
  refine ⟨T.setFrames fs, ?_, .returned (some (.int 1)), hrun, hended, rfl, ⟨_, rfl⟩, hW, hframe⟩
  jvm_step X.here [X.here.top, hx, hb, hdg, hmeth', hr, ret, narrow_b1]
  (try refine ⟨rfl, ?_⟩); (try refine ⟨rfl, ?_⟩)
  first | (intro acts; rw [hret _ acts rfl rfl rfl]) | rw [hret _ _ rfl rfl rfl]
  exact Steps.refl _
/-- what holds at the law's entry: the machine, the code, the tables' words (any of lw_tbl by 'hts w (by decide +kernel)'), the script of L ints xs at the cell b, what the Statement gives of the start (any of its parts by flat_of_before) -/
def lw_At (p : Program) (s : State) (m : MethodId) (meth : Method) (c : Code) (b L : Nat) (xs : Nat → Int32) : Prop :=
  p.tables.exec = Jvm.exec ∧ c.code = code ∧ meth.sig.returnType = ret ∧ c.maxLocals = 7 ∧ s.vm.findClass R_law = some m.cls ∧ (∀ w ∈ lw_tbl, w.before #[Value.ref b] s = true) ∧ va_X b L xs s s.heap ∧ b < s.heap.size ∧ meth.locks = false ∧ (Jvm.Cond.and given_1 narrow_1).before #[Value.ref b] s = true
set_option maxRecDepth 100000 in
theorem cl_L_8 : Cond.classLink RL 8 RX11 ∈ gtbl := gin 118 (by decide +kernel) rfl
set_option maxRecDepth 100000 in
theorem cl_L_16 : Cond.classLink RL 16 RX12 ∈ gtbl := gin 1479 (by decide +kernel) rfl
set_option maxRecDepth 100000 in
theorem ml_L_15 : Cond.methodLink RL 15 yX11_init ∈ gtbl := gin 120 (by decide +kernel) rfl
set_option maxRecDepth 100000 in
theorem ml_L_18 : Cond.methodLink RL 18 yX12_init ∈ gtbl := gin 1481 (by decide +kernel) rfl
set_option maxRecDepth 100000 in
theorem in_X11 : Cond.initialized RX11 ∈ gtbl := gin 92 (by decide +kernel) rfl
set_option maxRecDepth 100000 in
theorem in_X12 : Cond.initialized RX12 ∈ gtbl := gin 104 (by decide +kernel) rfl
set_option maxRecDepth 100000 in
theorem nw_X11 : Cond.instantiable RX11 14 ∈ gtbl := gin 119 (by decide +kernel) rfl
set_option maxRecDepth 100000 in
theorem nw_X12 : Cond.instantiable RX12 51 ∈ gtbl := gin 1480 (by decide +kernel) rfl
set_option maxRecDepth 100000 in
theorem mi_X11 : mI yX11_init cX11_init 1 0 := ⟨⟨gin 122 (by decide +kernel) rfl, ⟨by decide +kernel, by decide +kernel, by decide +kernel⟩, by decide, gin 92 (by decide +kernel) rfl⟩, by decide +kernel, gin 121 (by decide +kernel) rfl⟩
set_option maxRecDepth 100000 in
theorem mi_X12 : mI yX12_init cX12_init 1 0 := ⟨⟨gin 1483 (by decide +kernel) rfl, ⟨by decide +kernel, by decide +kernel, by decide +kernel⟩, by decide, gin 104 (by decide +kernel) rfl⟩, by decide +kernel, gin 1482 (by decide +kernel) rfl⟩
theorem kk_X11 : ∃ ty : Nat → FieldType, ∀ k, k < 14 → parseFieldDescriptor (TX11 k).2.2.1 = some (ty k) ∧ ∃ d, (DS 11)[k]? = some d ∧ kok (ty k) d = true := ⟨tyX11, fun k hk => ⟨tyX11_ok k hk, (DS 11).getD k 0, (show ∀ k, k < 14 → (DS 11)[k]? = some ((DS 11).getD k 0) by decide +kernel) k hk, (show ∀ k, k < 14 → kok (tyX11 k) ((DS 11).getD k 0) = true by decide +kernel) k hk⟩⟩
theorem kk_X12 : ∃ ty : Nat → FieldType, ∀ k, k < 51 → parseFieldDescriptor (TX12 k).2.2.1 = some (ty k) ∧ ∃ d, (DS 12)[k]? = some d ∧ kok (ty k) d = true := ⟨tyX12, fun k hk => ⟨tyX12_ok k hk, (DS 12).getD k 0, (show ∀ k, k < 51 → (DS 12)[k]? = some ((DS 12).getD k 0) by decide +kernel) k hk, (show ∀ k, k < 51 → kok (tyX12 k) ((DS 12).getD k 0) = true by decide +kernel) k hk⟩⟩
theorem VC.istore {X : WX} {G : GX} {own : String} {cc : ByteArray} {nL : Nat} {ret : Option FieldType} {D cells slots : Nat} {Q : State → Prop} {nm : String} {c pc : Nat} {lv : List (Nat × Value)} {st : List Value} {M : Mm} {i : Nat} {x : Int32} (lv' : List (Nat × Value)) (hdg : decode cc pc = .ok (.istore i, 2)) (hn : i < nL) (he : (i, Value.int x) :: lv.filter (fun q => !(q.1 == i) && !(q.1 + 1 == i && q.2.category == 2)) = lv') (k : VC X G own cc nL ret D cells slots Q nm c (pc + 2) lv' st M) : VC X G own cc nL ret D cells slots Q nm c pc lv (.int x :: st) M := by
  intro C hAL hnm H locs ls hR hl
  have C0 := C
  obtain ⟨hx, hb, hml, hown, hts, hlk, hr, hK, hE, hD, hA, hfr, hlo⟩ := C0
  exact lv_istore hx hb hdg hl hn he (fun ls hl => k C hAL hnm H locs ls hR hl)
set_option maxRecDepth 100000 in
set_option maxHeartbeats 4000000 in
theorem whole_start {p : Program} {e : Env} {s : State} {m : MethodId} {below : List Frame} {meth : Method} {c : Code} (l : Launch) {b L : Nat} {xs : Nat → Int32} {n : Nat} {R : Mm → Mm → Prop} (SA : SimAll n R) (hR0 : R M0 M0) (hl0 : l.stackTraces = false) (hL : L ≤ 3584) (C0 : lw_At p s m meth c b L xs) : W p l e room_1 s m #[Value.ref b] below meth c s.heap [] 0 0 (lw_Z below #[Value.ref b] s) (entryFrame m ([Value.ref b] : List Value).toArray 7) := by
  obtain ⟨hx, hb, hr, hml, hown, hts, hX, hbl, hlocks, hgv⟩ := id C0
  have hfl : ∀ w ∈ fl, w.before #[Value.ref b] s = true := flat_of_before _ hgv
  have hAn : ∀ a : Nat, a < s.heap.size → ¬ (fun q : Nat => s.heap.size ≤ q) a := fun a h z => Nat.not_le.mpr h z
  -- classes
  have hcl : ∀ i : Nat, ∃ q : ClassId × (Nat → Nat), i < 13 → u_Kn s (vwCl.getD i ("", fun _ => ("", "", "", false), 0)).1 (vwCl.getD i ("", fun _ => ("", "", "", false), 0)).2.1 (vwCl.getD i ("", fun _ => ("", "", "", false), 0)).2.2 q.1 q.2 := by
    intro i
    by_cases hi : i < 13
    · obtain ⟨cC, iS, hk⟩ := u_known (hts) (f_c i hi) (hts _ (f_ci i hi))
      exact ⟨(cC, iS), fun _ => hk⟩
    · exact ⟨(0, fun _ => 0), fun h => absurd h hi⟩
  obtain ⟨dq, hdq⟩ := Classical.axiomOfChoice hcl
  -- array classes
  have ha : ∀ ty : FieldType, (∀ C, ty ≠ .object C) → Cond.arrayClass ty ∈ lw_tbl → ∃ cA : ClassId, ArrOfT s cA ty ∧ va_RA s cA ty := by
    intro ty hne hw
    obtain ⟨cA, kA, comp, h1, h2, h3⟩ := Cond.arrayClass_spec (hts _ hw)
    refine ⟨cA, fun n z => ⟨fun k h => (by cases h), kA, h2, comp, h3⟩, ?_⟩
    cases ty with
    | object C => exact absurd rfl (hne C)
    | _ => exact h1
  obtain ⟨a0, ha0⟩ := ha .int (fun C h => by cases h) (by decide +kernel)
  obtain ⟨a1, ha1⟩ := ha .char (fun C h => by cases h) (by decide +kernel)
  obtain ⟨a2, ha2⟩ := ha .byte (fun C h => by cases h) (by decide +kernel)
  obtain ⟨a3, ha3⟩ := ha .long (fun C h => by cases h) (by decide +kernel)
  have ao4 : (Cond.arrayOver (.object "MonsterCot$Bed")).before #[Value.ref b] s = true := hts _ (by decide +kernel)
  have ao5 : (Cond.arrayOver (.array .int)).before #[Value.ref b] s = true := hts _ (by decide +kernel)
  obtain ⟨a4, ha4⟩ : ∃ cA : ClassId, ArrOfT s cA (.object "MonsterCot$Bed") ∧ va_RA s cA (.object "MonsterCot$Bed") := by
    obtain ⟨comp, cA, kA, h1, h2, h3, h4, h5⟩ := Cond.arrayOver_spec ao4
    exact ⟨cA, fun n z => ⟨fun k h => (by cases h), kA, h3, comp, h4⟩, kA, comp, h3, h4, h1, h5⟩
  obtain ⟨a5, ha5⟩ : ∃ cA : ClassId, ArrOfT s cA (.array .int) ∧ va_RA s cA (.array .int) := by
    obtain ⟨comp, cA, kA, h1, h3, h4, h5⟩ := Cond.arrayOver_specA ao5
    exact ⟨cA, fun n z => ⟨fun k h => (by cases h), kA, h3, comp, h4⟩, h5⟩
  -- static arrays
  have hz : ∀ i : Nat, ∃ t : Nat, i < 7 → (ztm i).eval #[Value.ref b] s none [] s = some (.ref t) ∧ va_T .int t (exT.getD i []).length (fun j => .int ((exT.getD i []).getD j 0)) (fun q : Nat => s.heap.size ≤ q) s s.heap := by
    intro i
    by_cases hi : i < 7
    · obtain ⟨-, -, w3, w4, w5⟩ := f_z i hi
      obtain ⟨t, q1, q2⟩ := va_Tof (N := (exT.getD i []).length) (f := fun j => .int ((exT.getD i []).getD j 0)) (A := fun q : Nat => s.heap.size ≤ q) (by omega) (hfl _ w3) (va_eqt (hfl _ w4)) (fun j hj => va_eqt (hfl _ (f_z2 i hi j hj))) hAn
      exact ⟨t, fun _ => ⟨q1, q2⟩⟩
    · exact ⟨0, fun h => absurd h hi⟩
  obtain ⟨zt, hzt⟩ := Classical.axiomOfChoice hz
  -- String constants
  have hs : ∀ i : Nat, ∃ q : Nat × Nat, i < 17 → (stm i).eval #[Value.ref b] s none [] s = some (.ref q.1) ∧ va_O "java/lang/String" q.1 (fun q : Nat => s.heap.size ≤ q) s s.heap ∧ va_OF "java/lang/String" "coder" "B" (.int 0) q.1 (fun q : Nat => s.heap.size ≤ q) s s.heap ∧ va_OF "java/lang/String" "value" "[B" (.ref q.2) q.1 (fun q : Nat => s.heap.size ≤ q) s s.heap ∧ va_T .byte q.2 (stT.getD i []).length (fun j => .int ((stT.getD i []).getD j 0)) (fun q : Nat => s.heap.size ≤ q) s s.heap := by
    intro i
    by_cases hi : i < 17
    · obtain ⟨-, w2, w3, w4, w5, w6⟩ := f_s i hi
      obtain ⟨a, c', cA, kA, q1, -⟩ := Cond.exactly_spec (args := #[Value.ref b]) (first := s) (o := none) (s := s) (idx := []) (t := stm i) (cls := "java/lang/String") (hfl _ w2)
      obtain ⟨t, ht, hT⟩ := va_Tof (N := (stT.getD i []).length) (f := fun j => .int ((stT.getD i []).getD j 0)) (A := fun q : Nat => s.heap.size ≤ q) (by omega) (hfl _ w4) (va_eqt (hfl _ w5)) (fun j hj => va_eqt (hfl _ (f_s2 i hi j hj))) hAn
      exact ⟨(a, t), fun _ => ⟨q1, va_Oof (hfl _ w2) q1 hAn, vk_OFof q1 (va_eqt (hfl _ w3)) hAn, vk_OFof q1 ht hAn, hT⟩⟩
    · exact ⟨(0, 0), fun h => absurd h hi⟩
  obtain ⟨sq, hsq⟩ := Classical.axiomOfChoice hs
  -- the fixed things
  obtain ⟨X, hXd⟩ : ∃ X : WX, X = (l, fun j => if j < 1000 then s.heap.size + j else if j = 1000 then b else if j < 1008 then zt (j - 1001) else if j < 1040 then (sq (j - 1020)).1 else (sq (j - 1040)).2, (fun i => (dq i).1, fun i => (dq i).2), fun k => if k = 0 then a0 else if k = 1 then a1 else if k = 2 then a2 else if k = 3 then a3 else if k = 4 then a4 else a5, fun q => s.heap.size ≤ q, L, xs) := ⟨_, rfl⟩
  have xal : ∀ j, j < 1000 → xa X j = s.heap.size + j := fun j hj => by rw [hXd]; exact if_pos hj
  have xab : xa X 1000 = b := by rw [hXd]; rfl
  have xaz : ∀ i, i < 7 → xa X (1001 + i) = zt i := fun i hi => by
    rw [hXd]
    show (if 1001 + i < 1000 then _ else if 1001 + i = 1000 then _ else if 1001 + i < 1008 then zt (1001 + i - 1001) else _) = _
    rw [if_neg (by omega), if_neg (by omega), if_pos (by omega), Nat.add_sub_cancel_left]
  have xas : ∀ i, i < 17 → xa X (1020 + i) = (sq i).1 ∧ xa X (1020 + i + 20) = (sq i).2 := fun i hi => by
    rw [hXd]
    constructor
    · show (if 1020 + i < 1000 then _ else if 1020 + i = 1000 then _ else if 1020 + i < 1008 then _ else if 1020 + i < 1040 then (sq (1020 + i - 1020)).1 else _) = _
      rw [if_neg (by omega), if_neg (by omega), if_neg (by omega), if_pos (by omega), Nat.add_sub_cancel_left]
    · show (if 1020 + i + 20 < 1000 then _ else if 1020 + i + 20 = 1000 then _ else if 1020 + i + 20 < 1008 then _ else if 1020 + i + 20 < 1040 then _ else (sq (1020 + i + 20 - 1040)).2) = _
      rw [if_neg (by omega), if_neg (by omega), if_neg (by omega), if_neg (by omega), show 1020 + i + 20 - 1040 = i by omega]
  have xaA : xA X = fun q => s.heap.size ≤ q := by rw [hXd]
  have xan : xn X = L := by rw [hXd]
  have xax : Jvm.Pilot.CMonsterCotLaw_law_r7178_5b5d1f.xs X = xs := by rw [hXd]
  have xll : xl X = l := by rw [hXd]
  have hK : va_K (xD X) vwCl (tyT X) s := by
    refine ⟨fun k q hq => ?_, fun k q hk => ?_⟩
    · have hk : k < 13 := (show vwCl.length = 13 by decide +kernel) ▸ (List.getElem?_eq_some_iff.mp hq).1
      have z := hdq k hk
      rw [show vwCl.getD k ("", fun _ => ("", "", "", false), 0) = q by rw [List.getD_eq_getElem?_getD, hq]; rfl] at z
      rw [hXd]; exact z
    · rw [hXd] at hk
      match k, hk with
      | 0, hk => cases hk; exact ha0
      | 1, hk => cases hk; exact ha1
      | 2, hk => cases hk; exact ha2
      | 3, hk => cases hk; exact ha3
      | 4, hk => cases hk; exact ha4
      | 5, hk => cases hk; exact ha5
      | k + 6, hk => cases hk
  have hE : Ext X s := by
    refine ⟨fun id h1 h2 => ?_, fun q hq => ?_, fun id h1 h2 => ?_, fun q hq => ?_, ?_, fun q hq => va_Nw.of rfl (hts _ (f_n q hq)), ?_⟩
    · rw [xaA]
      by_cases h0 : id = 1000
      · subst h0
        obtain ⟨scr, q1, q2, q3, q4, q5⟩ := hX
        rw [xab, exn, if_pos rfl, xan]
        refine ⟨scr, q1, q2, q3, Nat.le_of_eq q4.symm, by rw [q4], fun j hj => ?_, hAn b hbl⟩
        rw [q5 j hj]
        show some (Value.int (xs j)) = some (Value.int (exv X 1000 j))
        rw [exv, if_pos rfl, xax]
      · obtain ⟨i, rfl⟩ : ∃ i, id = 1001 + i := ⟨id - 1001, by omega⟩
        have z := (hzt i (by omega)).2
        rw [xaz i (by omega), exn, if_neg h0, Nat.add_sub_cancel_left]
        refine (show (fun j => Value.int ((exT.getD i []).getD j 0)) = (fun j => Value.int (exv X (1001 + i) j)) from ?_) ▸ z
        funext j
        rw [exv, if_neg h0, EX, Nat.add_sub_cancel_left]
    · obtain ⟨e1, e2, e3⟩ := ix_z q hq
      generalize q.2.2 - 1001 = i at e1 e2 e3
      rw [e2, xaA, xaz i e3]
      obtain ⟨w1, w2, -⟩ := f_z i e3
      rw [← e1] at w1 w2
      have z := (hzt i e3).1
      rw [ztm, ← e1] at z
      exact va_Zof (hts _ w1) (hts _ w2) z hAn
    · obtain ⟨i, rfl⟩ : ∃ i, id = 1020 + i := ⟨id - 1020, by omega⟩
      obtain ⟨-, z2, z3, z4, z5⟩ := hsq i (by omega)
      obtain ⟨e1, e2⟩ := xas i (by omega)
      rw [xaA, e1, e2, Nat.add_sub_cancel_left]
      exact ⟨z2, z3, z4, z5⟩
    · obtain ⟨e1, e2, e3⟩ := ix_s q hq
      generalize q.2.2.2 - 1020 = i at e1 e2 e3
      rw [e2, (xas i e3).1]
      obtain ⟨w1, -⟩ := f_s i e3
      have z := (hsq i e3).1
      rw [stm, ← e1] at z
      rw [← e1] at w1
      exact vk_R.of (hts _ w1) z
    · rw [xaA]
      exact va_Zof (hts _ (by decide +kernel)) (hts _ (by decide +kernel)) (va_eqt (hfl _ (by decide +kernel))) hAn
    · rw [xaA]
      exact va_Zqof (hts _ (by decide +kernel)) (hts _ (by decide +kernel)) (hfl _ (by decide +kernel)) hAn
  have hEX : EXU X s := by
    refine ⟨?_, ?_, va_Nw.of rfl (hts (.castable NSE NSE) (by decide +kernel))⟩
    · rw [xaA]
      exact vx_Zqof (hts _ (by decide +kernel)) (hts _ (by decide +kernel)) (hfl _ (by decide +kernel)) hAn
    · rw [xaA]
      exact vx_Zqof (hts _ (by decide +kernel)) (hts _ (by decide +kernel)) (hfl _ (by decide +kernel)) hAn
  have hlen : SHF.length = 274 := by decide +kernel
  have hD : Dj X := by
    refine ⟨fun i j hi hj q => ?_, fun i hi => ?_⟩
    · rw [xal i (by omega), xal j (by omega)] at q; omega
    · rw [xaA, xal i (by omega)]; exact Nat.le_add_right _ _
  have hA : ∀ q, s.heap.size ≤ q → xA X q := fun q hq => by rw [xaA]; exact hq
  obtain ⟨G, hG⟩ : ∃ G : GX, G = (p, e, room_1, s, m, #[Value.ref b], below, meth, c) := ⟨_, rfl⟩
  have gsG : gs G = s := by rw [hG]
  have gRG : gR G = room_1 := by rw [hG]
  have C : Cx X G RL cL_law 7 (some .boolean) 120 := by
    rw [hG]
    exact ⟨hx, hb, hml, hown, fun w hw => hts w (List.mem_filter.mp hw).1, hlocks, hr, hK, hE, hD, hA, by show 120 ≤ room_1.frames; decide, by show 64 * 120 ≤ room_1.locals; decide⟩
  have hAL : AL X (gs G) := by
    rw [gsG]
    exact ⟨fun j hj => by rw [xal j hj, xal 0 (by omega)]; omega, va_AO.of ao4, ao5⟩
  have hl := lv_entry ([.ref b]) (n := 7) (Nat.le_of_ble_eq_true rfl)
  rw [lg_entry_eq]
  generalize (lg_sl ([.ref b]) ++ List.replicate (7 - (lg_sl ([.ref b])).length) Slot.unset).toArray = ls at hl ⊢
  have hl : lv_has ls 7 [(0, .ref (xa X 1000))] := by rw [xab]; exact hl
  have hRC : RC X 0 ZM G s.heap [] := ⟨fun k q h => (by rw [List.take_zero] at h; simp [wdc] at h), (by rw [xaA, gsG]; exact va_S.rf), (by rw [xal 0 (by omega)]; rfl), fun i _ => ⟨rfl, rfl⟩⟩
  have goal : VC X G RL cL_law 7 (some .boolean) 120 0 0 (lw_Z below #[Value.ref b] s) meth.name 0 0 [(0, .ref (xa X 1000))] [] ZM := by
    refine VC.new (N := 14) cok_X11 cl_L_8 nw_X11 in_X11 kk_X11 (by decide +kernel) (by decide) (by rw [gRG]; exact ⟨by decide, by decide⟩) dL_law_0 ?_
    refine VC.dup dL_law_3 rfl ?_
    refine VC.callI mi_X11 ml_L_15 (c_X11 (X := X)) (by decide) rfl rfl (Nat.le_of_ble_eq_true rfl) (by rw [gRG]; exact ⟨by decide, by decide⟩) dL_law_4 ?_
    refine VC.astore_n [(1, _), (0, _)] dL_law_7 rfl (by decide) rfl ?_
    refine VC.new (N := 51) cok_X12 cl_L_16 nw_X12 in_X12 kk_X12 (by decide +kernel) (by decide) (by rw [gRG]; exact ⟨by decide, by decide⟩) dL_law_8 ?_
    refine VC.dup dL_law_11 rfl ?_
    refine VC.callI mi_X12 ml_L_18 (c_X12 (X := X)) (by decide) rfl rfl (Nat.le_of_ble_eq_true rfl) (by rw [gRG]; exact ⟨by decide, by decide⟩) dL_law_12 ?_
    refine VC.astore_n [(2, _), (1, _), (0, _)] dL_law_15 rfl (by decide) rfl ?_
    refine VC.iconst (v := 1) dL_law_16 rfl ?_
    refine VC.newa (t := 3) (n := 1) (atype := .long) (ty := .long) rfl (Or.inr (Or.inr (Or.inr ⟨rfl, rfl⟩))) ac_long (by decide +kernel) (by decide) (by decide) rfl (by decide) (by rw [gRG]; exact ⟨by decide, by decide⟩) dL_law_17 ?_
    refine VC.astore_n [(3, _), (2, _), (1, _), (0, _)] dL_law_19 rfl (by decide) rfl ?_
    refine VC.iconst (v := 0) dL_law_20 rfl ?_
    refine VC.istore [(4, _), (3, _), (2, _), (1, _), (0, _)] dL_law_21 (by decide) rfl ?_
    refine VC.sub (lv2 := [(0, .ref (xa X 1000)), (1, .ref (xa X 0)), (2, .ref (xa X 251)), (3, .ref (xa X 273)), (4, .int (Int32.ofNat 0))]) [4, 3, 2, 1, 0] rfl ?_
    intro C hAL hnm H locs ls hR hl
    have hRl : Rl X (cbs true M0 M0) G H locs := by
      rw [show cbs true M0 M0 = M0 from cb_self M0]
      obtain ⟨r1, r2, -, -⟩ := hR
      rw [SHF_all] at r1
      exact ⟨r1, r2, Fix0⟩
    refine law_loop (CC := 601024) (SS := 7293033) SA (by rw [xll]; exact hl0) (by rw [gsG]; exact hEX) (by rw [xan]; exact hL) (by rw [gRG]; decide) (by rw [gRG]; decide) (fun h g i cells slots h1 h2 => ?_) 514 0 _ _ M0 M0 hR0 (Nat.zero_le _) (by rw [xan]; omega) (by decide) (by decide) C H locs ls hRl hl
    refine V.iconst (v := 1) dL_law_1631 rfl ?_
    intro C H locs ls hR hl
    have hS := hR.2.1
    rw [xaA, gsG] at hS
    rw [hG]
    exact va_forget hS.2.2 (W.widen h1 h2 (lw_ret hx hb hr hlocks dL_law_1632))
  have z := goal C hAL (by rw [hG]) s.heap [] ls hRC hl
  rw [hG, xll] at z
  exact z
set_option maxHeartbeats 4000000 in
theorem lw_walk {n : Nat} {R : Mm → Mm → Prop} (SA : SimAll n R) (hR0 : R M0 M0) (l : Launch) (hl0 : l.stackTraces = false) (b : Addr) (xs : List Int32) : MetFree l x (headSpec (Jvm.Cond.code x code maxLocals ret :: tables_1) room_1) (lw_P b xs) (fun _ _ _ _ _ => True) lw_Q := by
  refine MetFree.of_bodyS (code := code) (maxLocals := maxLocals) (ret := ret) (by decide) ?_ ?_
  · intro args s m h hn
    obtain ⟨meth, c, h1, h2, h3, h4, h5, h6, -, -⟩ := Cond.code_spec hn (atoms_spec (ws := Jvm.Cond.code x code maxLocals ret :: tables_1) h _ List.mem_cons_self)
    exact ⟨meth, c, h1, h2, h3, h4, h5, h6⟩
  · intro p e s m args below meth c s₁ B hml0 hP _
    obtain ⟨rfl, hx, hbd, hgv⟩ := hP
    obtain ⟨scr, harrAt, hlist, hof, hsmall⟩ := hx
    obtain ⟨hcb, hkn, -, -⟩ := State.arrayAt?_spec harrAt
    have hown : s.vm.findClass R_law = some m.cls := findClass_of_methodNamed B.named
    have hts0 : ∀ c ∈ (Jvm.Cond.code x code maxLocals ret :: tables_1), c.before #[Value.ref b] s = true := atoms_spec (ws := Jvm.Cond.code x code maxLocals ret :: tables_1) B.pre
    have hts : ∀ w ∈ lw_tbl, w.before #[Value.ref b] s = true := k2_hts_sels lw_privs (fun w hw => hts0 w (List.mem_cons_of_mem _ hw)) lw_privs_ok
    have hml : c.maxLocals = 7 := B.maxLocals_eq (hts0 _ List.mem_cons_self)
    have X₀ : Stand p l e room_1 s m #[Value.ref b] below meth c s₁ [] 0 0 := Stand.of_body B
    have hh0 : s₁.heap = s.heap := by rw [B.state]; rfl
    have hsz : scr.slots.size = xs.length := by rw [← Array.length_toList, hlist, List.length_map]
    have hval : ∀ j : Nat, j < xs.length → scr.slots[j]? = some (.int (xs.getD j 0)) := fun j hj => by
      rw [← Array.getElem?_toList, hlist]
      simp [hj]
    have hbl : b < s.heap.size := (Array.getElem?_eq_some_iff.mp hcb).1
    have hX : va_X b xs.length (fun j => xs.getD j 0) s s.heap := ⟨scr, hcb, hof, hkn, hsz, hval⟩
    have K : W p l e room_1 s m #[Value.ref b] below meth c s₁.heap [] 0 0 (lw_Z below #[Value.ref b] s) (entryFrame m ([Value.ref b] : List Value).toArray 7) := by
      rw [hh0]
      exact whole_start l SA hR0 hl0 hbd ⟨B.exec, B.bytes, B.returns, hml, hown, hts, hX, hbl, B.notSynchronized, hgv⟩
    obtain ⟨t, a1, o, b1, b2, b3⟩ := K s₁ rfl X₀
    exact ⟨t, o, a1, b1, b2, b3⟩
theorem lw_pre_spec {args : Array Value} {s : State} (h : (Jvm.Cond.and given_1 narrow_1).before args s = true) (hr : rest_1_c.before args s = true) : ∃ (b : Addr) (xs : List Int32), lw_P b xs args s := by
  have hs := flat_of_before _ h
  have hq := flat_of_before _ hr
  have hc : (Cond.count 1).before args s = true := hs _ (by decide +kernel)
  have harr : (Cond.arrayOf (.arg 0) .int).before args s = true := hs _ (by decide +kernel)
  have hle : (Cond.le (.length (.arg 0)) (.int 3584)).before args s = true := hs _ (by decide +kernel)
  have hlen : (Cond.isInt (.length (.arg 0))).before args s = true := hq _ (by decide +kernel)
  have hall : (Cond.all (.arg 0) (.isInt (.elem (.arg 0) (.index 0)))).before args s = true := hq _ (by decide +kernel)
  obtain ⟨b, xs, hb, hx⟩ := State.ints_of_pre rfl harr hlen hall
  have hsm : xs.length < 2 ^ 31 := hx.choose_spec.2.2.2
  have hev : (Term.length (.arg 0)).eval args s none [] s = some (.int xs.length.toInt32) := hx.length_eval hb
  have hv := Cond.le_ints hev (show (Term.int 3584).eval args s none [] s = some (.int 3584) from rfl)
  have hd : xs.length.toInt32 ≤ 3584 := by
    simpa [Cond.before, Cond.holds, hv] using hle
  have hN : xs.length ≤ 3584 := (Int32.ofNat_le_ofNat hsm (by decide)).mp (show Int32.ofNat xs.length ≤ Int32.ofNat 3584 from hd)
  exact ⟨b, xs, Cond.one_arg hc (show args[0]? = some (.ref b) from hb), hx, hN, h⟩
theorem lw_comes {n : Nat} {R : Mm → Mm → Prop} (SA : SimAll n R) (hR0 : R M0 M0) (l : Launch) (hl0 : l.stackTraces = false) : Comes l x (Jvm.Cond.code x code maxLocals ret :: tables_1) room_1 (fun tb e args s => Calls_1 tb e args s ∧ rest_1 tb e args s ∧ Pre_1 tb e args s)
    (fun _ _ args s o t => lw_Q args s o t) := by
  intro p e ha hc hk s m args below hf hfit hheap happ hpre
  obtain ⟨b, xs, hP⟩ := lw_pre_spec hpre.2.2 hpre.2.1
  obtain ⟨k, o, h1, h2, h3, hQ⟩ := lw_walk SA hR0 l hl0 b xs p e ha hc hk s m args below hf ((Spec.applies_iff_loose hf).mp happ).1 hP trivial
  exact ⟨k, o, h1, h2, h3, hQ⟩
theorem lw_frame {s t : State} {o : Outcome} {args : Array Value} (h : Framed s o t [] 601024 7293033) :
    Framed s o t (fieldLocs frame_1_writes args s ++ arrayLocs frame_1_arrays args s ++ staticLocs frame_1_statics s) 601024 7293033 := h
theorem lw_limb {n : Nat} {R : Mm → Mm → Prop} (SA : SimAll n R) (hR0 : R M0 M0) (L : Cond) (hL : ∀ (args : Array Value) (s t : State), L.after args s (.returned (some (.int 1))) t = true) :
    ArmFor flags0 classFile x code maxLocals ret World_1 tables_1 room_1 Calls_1 rest_1 Pre_1
      (fun tb e a s o t => postC L tb e a s o t ∧ Framed s o t (fieldLocs frame_1_writes a s ++ arrayLocs frame_1_arrays a s ++ staticLocs frame_1_statics s) 601024 7293033) := by
  intro l hfl _ _ p e ha hc hk s m args below hf hfit hheap happ hpre
  obtain ⟨k, o, h1, h2, h3, rfl, hF⟩ := lw_comes SA hR0 l (by unfold Launch.stackTraces; rw [hfl]; decide +kernel) p e ha hc hk s m args below hf hfit hheap happ hpre
  exact ⟨k, _, h1, h2, h3, hL args s _, lw_frame hF⟩
theorem i_vc0 {n : Nat} {R : Mm → Mm → Prop} (SA : SimAll n R) (hR0 : R M0 M0) : Claimed_1_1 ∧ Claimed_1_2 := ⟨lw_limb SA hR0 limb_1_1 (fun args s t => by simp [limb_1_1, Cond.after, Cond.holds, Cond.value]), lw_limb SA hR0 limb_1_2 (fun args s t => Cond.after_iff.mpr (by
  first | (rw [show limb_1_2 = Cond.eq .result (.int 1) from rfl, Cond.eq_ints (x := 1) (y := 1) rfl rfl]; simp; done) | (simp [limb_1_2, Cond.value, Term.eval]; done)))⟩

