/-! what is kept, UNDO, IMAGE, BACK -/
theorem ringId_bed {nx A j : Nat} (h : nx + 40 ≥ A) : ringId nx A j ∈ bedIds := by
  unfold ringId; exact ringbed _ (Nat.mod_lt _ (by decide))
theorem m_remember {n A : Nat} {g : Mm} (hn : 20000 ≤ n) (hA : A ≤ 40) (e : g.1 251 39 = zN A) : ∃ g', X12_remember n g = some ((), g') ∧ (∀ i, i ≠ 251 → i ≠ 268 → g'.1 i = g.1 i) ∧ (∀ j, j ≠ 39 → g'.1 251 j = g.1 251 j) ∧ g'.2 = g.2 ∧
    (A < 40 → g'.1 251 39 = zN (A + 1) ∧ (∀ j, j < 211 * A → g'.1 268 j = g.1 268 j) ∧ ∀ j, j < 211 → g'.1 268 (211 * A + j) = g.1 264 j) ∧
    (A = 40 → g'.1 251 39 = zN 40 ∧ (∀ j, j < 8229 → g'.1 268 j = g.1 268 (j + 211)) ∧ ∀ j, j < 211 → g'.1 268 (8229 + j) = g.1 264 j) := by
  unfold X12_remember
  simp (disch := omega) only [zN_lit, zN_add, zN_mul, bp_some, bd_some, w_eq, w_2, wl_1, u_eq, wr_eq, wr_2, Nat.reduceAdd, Nat.reduceMul, Nat.reduceSub, e, zN_eq]
  by_cases c : A = 40
  · subst c
    rw [if_pos rfl]
    obtain ⟨g1, r1, r2, r3, r4, r5, r6, r8, r7⟩ := m_rem11 (n := n) 8229 n 0 g (by omega) (by omega) e
    rw [r1]
    unfold X12_remember_50
    obtain ⟨g', s1, s2, s3, s4, s5, s6, s7⟩ := m_rem52 (n := n) 211 n 0 39 g1 (by omega) (by omega) (by omega) r4
    refine ⟨g', s1, fun i h1 h2 => by rw [s2 i h1 h2, r2 i h1 h2], fun j hj => by rw [s3 j hj, r3 j hj], by rw [s7, r7], fun z => absurd z (by decide), fun _ => ⟨s4, fun j hj => by rw [s5 j (by omega), r5 j (by omega) hj], fun j hj => ?_⟩⟩
    have z := s6 j (by omega) hj
    rw [r2 264 (by decide) (by decide)] at z
    exact z
  · rw [if_neg c]
    unfold X12_remember_50
    obtain ⟨g', s1, s2, s3, s4, s5, s6, s7⟩ := m_rem52 (n := n) 211 n 0 A g (by omega) (by omega) (by omega) e
    exact ⟨g', s1, s2, s3, s7, fun _ => ⟨s4, fun j hj => s5 j (by omega), fun j hj => s6 j (by omega) hj⟩, fun z => absurd z c⟩
/-- ahead of an ACT -/
theorem keep_sim {n H A nx : Nat} {E : Nat → Nat} {h g : Mm} (hn : 20000 ≤ n) (hH : H ≤ 6) (hP : PastR H A nx E h g) :
    ∃ h1 g1 A' nx' E', X5_keep 27 h = some ((), h1) ∧ X12_remember n g = some ((), g1) ∧ PastR H A' nx' E' h1 g1 ∧ (1 ≤ A' ∧ E' (A' - 1) = E' A' ∧ E' A' = E A) ∧
      (∀ i, i ≠ 37 → (i < 46 ∨ 245 < i) → h1.1 i = h.1 i) ∧ (∀ k, k ≠ 5 → k ≠ 6 → h1.1 37 k = h.1 37 k) ∧ h1.2 = h.2 ∧ (∀ i, i ≠ 251 → i ≠ 268 → g1.1 i = g.1 i) ∧ (∀ j, j ≠ 39 → g1.1 251 j = g.1 251 j) ∧ g1.2 = g.2 := by
  obtain ⟨⟨p1, p2, p3, p4, p5⟩, pE, pN, pJ⟩ := hP
  obtain ⟨g1, r1, r2, r3, r4, r5, r6⟩ := m_remember hn p1 p4
  have bt := pN.bit
  obtain ⟨h2, c0, c1, c2, c3, c4, c5, c6, c7⟩ := c_copyFrom (a0 := 46 + 5 * nx) (a1 := 27) (h := h) (ringbed nx p2) (by decide +kernel) (Or.inr (by omega)) bt.1 bt.2
  have hz5 : h2.1 37 5 = zN A := by rw [c1 37 (by omega)]; exact p3
  have hz6 : h2.1 37 6 = zN nx := by rw [c1 37 (by omega)]; exact p5
  obtain ⟨h1, nx', k0, knx, k1, k2, k3, k4, k5⟩ : ∃ h1 nx', X5_keep 27 h = some ((), h1) ∧ nx' = (nx + 1) % 40 ∧ (∀ i, i ≠ 37 → h1.1 i = h2.1 i) ∧ (∀ k, k ≠ 5 → k ≠ 6 → h1.1 37 k = h2.1 37 k) ∧ h1.1 37 6 = zN nx' ∧ h1.1 37 5 = zN (min (A + 1) 40) ∧ h1.2 = h2.2 := by
    have fin : ∀ s : Nat, s < 40 → ∃ h1, X5_keep_66 27 (zN s) h2 = some ((), h1) ∧ (∀ i, i ≠ 37 → h1.1 i = h2.1 i) ∧ (∀ k, k ≠ 5 → k ≠ 6 → h1.1 37 k = h2.1 37 k) ∧ h1.1 37 6 = zN s ∧ h1.1 37 5 = zN (min (A + 1) 40) ∧ h1.2 = h2.2 := by
      intro s hs
      unfold X5_keep_66
      simp (disch := omega) only [zN_lit, zN_add, zN_mul, bp_some, bd_some, w_eq, w_2, wl_1, u_eq, wr_eq, wr_2, Nat.reduceAdd, Nat.reduceMul, Nat.reduceSub, u_ne, hz5, j_min, zN_lt]
      refine ⟨_, rfl, fun i hi => by rw [w_ne hi, w_ne hi], fun k h1 h2 => by rw [w_eq, u_ne h1, w_eq, u_ne h2], by rw [w_eq, u_ne (by decide), w_eq, u_eq], ?_, rfl⟩
      rw [w_eq, u_eq]
      by_cases c : 40 < A + 1
      · rw [if_pos c, Nat.min_eq_right (by omega)]
      · rw [if_neg c, Nat.min_eq_left (by omega)]
    unfold X5_keep
    simp (disch := omega) only [zN_lit, zN_add, zN_mul, bp_some, bd_some, w_eq, w_2, wl_1, u_eq, wr_eq, wr_2, Nat.reduceAdd, Nat.reduceMul, Nat.reduceSub, p5, zN_le, zN_inB, zN_ix, if_neg (zN_neg0 (show nx < 2147483648 by omega)), if_neg (show ¬ 40 ≤ nx by omega), if_pos p2, c0, hz6]
    by_cases c : 40 ≤ nx + 1
    · rw [if_pos c]
      obtain ⟨h1, q⟩ := fin 0 (by decide)
      exact ⟨h1, 0, q.1, by omega, q.2⟩
    · rw [if_neg c]
      obtain ⟨h1, q⟩ := fin (nx + 1) (by omega)
      exact ⟨h1, nx + 1, q.1, by omega, q.2⟩
  have hrow : h1.1 39 = h.1 39 := by rw [k1 39 (by decide), c1 39 (by omega)]
  have hbed : ∀ i, 27 ≤ i → i ≤ 31 → h1.1 i = h.1 i := fun i h3 h4 => by rw [k1 i (by omega), c1 i (by omega)]
  have hring : ∀ a, (∀ i, a ≤ i → i ≤ a + 4 → i < 46 + 5 * nx ∨ 46 + 5 * nx + 4 < i) → a ≠ 37 → 38 ≤ a → ∀ i, a ≤ i → i ≤ a + 4 → h1.1 i = h.1 i := fun a ha h3 h4 i h5 h6 => by rw [k1 i (by omega), c1 i (ha i h5 h6)]
  have hnew : ∀ w : Nat → Int32, (∀ k, k < 211 → w k = g.1 264 k) → StateR H (E A) h1 (46 + 5 * nx) (h1.1 39) w := fun w hw =>
    pN.copy hH (fun k hk => by rw [k1 _ (by omega)]; exact c2 k hk) (fun k hk => by rw [k1 _ (by omega)]; exact c3 k hk) (fun k hk => by rw [k1 _ (by omega)]; exact c4 k hk) (fun k hk => by rw [k1 _ (by omega)]; exact c5 k hk) (fun k h3 h4 => by rw [k1 _ (by omega)]; exact c6 k h3 h4) (fun k _ => by rw [hrow]) hw
  have fr : (∀ i, i ≠ 37 → (i < 46 ∨ 245 < i) → h1.1 i = h.1 i) ∧ (∀ k, k ≠ 5 → k ≠ 6 → h1.1 37 k = h.1 37 k) ∧ h1.2 = h.2 ∧ (∀ i, i ≠ 251 → i ≠ 268 → g1.1 i = g.1 i) ∧ (∀ j, j ≠ 39 → g1.1 251 j = g.1 251 j) ∧ g1.2 = g.2 :=
    ⟨fun i h3 h4 => by rw [k1 i h3, c1 i (by omega)], fun k h3 h4 => by rw [k2 k h3 h4, c1 37 (by omega)], by rw [k5, c7], r2, r3, r4⟩
  by_cases c : A = 40
  · subst c
    obtain ⟨s1, s2, s3⟩ := r6 rfl
    refine ⟨h1, g1, 40, nx', fun j => if j < 40 then E (j + 1) else E 40, k0, r1, ⟨⟨by decide, by omega, k4, s1, k3⟩, fun i j h3 h4 => ?_, ?_, fun j hj => ?_⟩, ⟨by decide, rfl, rfl⟩, fr⟩
    · by_cases d1 : i < 40
      · by_cases d2 : j < 40
        · simp only [if_pos d1, if_pos d2]
          have z := pE (i + 1) (j + 1) (by omega) (by omega); omega
        · simp only [if_pos d1, if_neg d2]
          have z := pE (i + 1) 40 (by omega) (by omega); omega
      · simp only [if_neg d1, if_neg (show ¬ j < 40 by omega)]; omega
    · exact pN.ag hbed hrow (r2 264 (by decide) (by decide))
    · simp only [if_pos hj]
      have ep : ringId nx' 40 j = 46 + 5 * ((nx + 1 + j) % 40) := by unfold ringId; omega
      by_cases d : j = 39
      · subst d
        rw [ep, show (nx + 1 + 39) % 40 = nx by omega]
        exact hnew _ (fun k hk => s3 k hk)
      · have z := pJ (j + 1) (by omega)
        have er : ringId nx 40 (j + 1) = ringId nx' 40 j := by unfold ringId; omega
        rw [er] at z
        refine z.cg hH (fun i hi k _ => ?_) (fun k _ => by rw [hrow]) (fun k hk => ?_)
        · rw [ep]
          rw [hring (46 + 5 * ((nx + 1 + j) % 40)) (fun i h5 h6 => by omega) (by omega) (by omega) _ (by omega) (by omega)]
        · show g1.1 268 (211 * j + k) = g.1 268 (211 * (j + 1) + k)
          rw [s2 _ (by omega), show 211 * j + k + 211 = 211 * (j + 1) + k by omega]
  · obtain ⟨s1, s2, s3⟩ := r5 (by omega)
    rw [Nat.min_eq_left (by omega)] at k4
    refine ⟨h1, g1, A + 1, nx', fun j => if j ≤ A then E j else E A, k0, r1, ⟨⟨by omega, by omega, k4, s1, k3⟩, fun i j h3 h4 => ?_, ?_, fun j hj => ?_⟩, ⟨by omega, ?_, ?_⟩, fr⟩
    · by_cases d1 : i ≤ A
      · by_cases d2 : j ≤ A
        · simp only [if_pos d1, if_pos d2]; exact pE i j h3 d2
        · simp only [if_pos d1, if_neg d2]
          have z := pE i A d1 (Nat.le_refl _); omega
      · simp only [if_neg d1, if_neg (show ¬ j ≤ A by omega)]; omega
    · simp only [if_neg (show ¬ A + 1 ≤ A by omega)]
      exact pN.ag hbed hrow (r2 264 (by decide) (by decide))
    · simp only [if_pos (show j ≤ A by omega)]
      have ep : ringId nx' (A + 1) j = 46 + 5 * ((nx + 40 - A + j) % 40) := by unfold ringId; omega
      by_cases d : j = A
      · subst d
        rw [ep, show (nx + 40 - j + j) % 40 = nx by omega]
        exact hnew _ (fun k hk => s3 k hk)
      · have z := pJ j (by omega)
        have er : ringId nx A j = ringId nx' (A + 1) j := by rw [ep]; rfl
        rw [er] at z
        refine z.cg hH (fun i hi k _ => ?_) (fun k _ => by rw [hrow]) (fun k hk => ?_)
        · rw [ep]
          rw [hring (46 + 5 * ((nx + 40 - A + j) % 40)) (fun i h5 h6 => by omega) (by omega) (by omega) _ (by omega) (by omega)]
        · show g1.1 268 (211 * j + k) = g.1 268 (211 * j + k)
          rw [s2 _ (by omega)]
    · simp only [Nat.add_sub_cancel, if_pos (Nat.le_refl A), if_neg (show ¬ A + 1 ≤ A by omega)]
    · simp only [if_neg (show ¬ A + 1 ≤ A by omega)]
theorem sim_undo (n : Nat) (hn : 20000 ≤ n) : Sim_undo n (R n) := by
  intro h g hR
  have hR0 := hR.thr 0
  obtain ⟨B, H, nm, A, nx, E, nw, sn, s, tp, nl, hd, f, hL, hP, hI, hW, hS, hT, hC, hM, hu⟩ := id hR0
  unfold X11_undo X5_takeBack X5_takeBack_18 X12_undo
  generalize wI g 251 0 (0 : Int32) = g0 at *
  have hH : H ≤ 6 := hL.2.1.2.1
  obtain ⟨⟨p1, p2, p3, p4, p5⟩, pE, pN, pJ⟩ := id hP
  simp (disch := omega) only [zN_lit, zN_add, zN_mul, bp_some, bd_some, w_eq, w_2, wl_1, u_eq, wr_eq, wr_2, Nat.reduceAdd, Nat.reduceMul, Nat.reduceSub, p3, p4, p5, zN_lt, zN_le, zN_eq, zN_inB, zN_ix, if_neg (show ¬ 40 ≤ 39 by decide), if_pos (show 39 < 40 by decide)]
  by_cases c : A = 0
  · simp only [if_pos c, if_pos (show A < 1 by omega)]
    by_cases d : nx ≤ 0
    · simp only [if_pos d]; exact ⟨_, _, _, rfl, rfl, hR0⟩
    · simp only [if_neg d]; exact ⟨_, _, _, rfl, rfl, hR0⟩
  · simp only [if_neg c, if_neg (show ¬ A < 1 by omega)]
    obtain ⟨g2, u1, u2, u3, u4, u5⟩ := m_undo26 (n := n) 211 n 0 (A - 1) (wI g0 251 39 (zN A - zN 1)) (by omega) (by omega) (by omega) (by rw [w_eq, u_eq, zN_sub (by omega)])
    rw [u1]
    have st := pJ (A - 1) (by omega)
    obtain ⟨la, hla, hlb⟩ : ∃ la, la < 40 ∧ ringId nx A (A - 1) = 46 + 5 * la ∧ (la = if nx ≤ 0 then 39 else nx - 1) := ⟨(nx + 40 - A + (A - 1)) % 40, Nat.mod_lt _ (by decide), rfl, by
      by_cases d : nx ≤ 0
      · rw [if_pos d]; omega
      · rw [if_neg d]; omega⟩
    obtain ⟨hlb, hlc⟩ := hlb
    rw [hlb] at st
    have bt := st.bit
    obtain ⟨h2, c0, c1, c2, c3, c4, c5, c6, c7⟩ := c_copyFrom (a0 := 27) (a1 := 46 + 5 * la) (h := h) (by decide +kernel) (ringbed la hla) (Or.inl (by omega)) bt.1 bt.2
    have fin : R n (wI (wI h2 37 6 (zN la)) 37 5 (zN A - zN 1)) g2 := by
      rw [zN_sub (show 1 ≤ A by omega)]
      rw [zN_sub (show 1 ≤ A by omega)] at u2 u3 u4 u5
      have ca : ∀ i, i ≠ 37 → (i < 27 ∨ 31 < i) → (wI (wI h2 37 6 (zN la)) 37 5 (zN (A - 1))).1 i = h.1 i := fun i h3 h4 => by rw [w_ne h3, w_ne h3, c1 i (by omega)]
      have cb : ∀ k, k ≠ 5 → k ≠ 6 → (wI (wI h2 37 6 (zN la)) 37 5 (zN (A - 1))).1 37 k = h.1 37 k := fun k h3 h4 => by rw [w_eq, u_ne h3, w_eq, u_ne h4, c1 37 (by omega)]
      have ma : ∀ i, i ≠ 264 → i ≠ 251 → g2.1 i = g0.1 i := fun i h3 h4 => by rw [u2 i h3, w_ne h4]
      have mb : ∀ k, k ≠ 39 → g2.1 251 k = g0.1 251 k := fun k h3 => by rw [u2 251 (by decide), w_eq, u_ne h3]
      refine ⟨B, H, nm, A - 1, la, E, nw, sn, s, tp, nl, hd, f, hL.ag (ca _ (by decide) (by omega)) (ca _ (by decide) (by omega)) (mb _ (by decide)) (mb _ (by decide)) (ma _ (by decide) (by decide)) (ma _ (by decide) (by decide)) (ma _ (by decide) (by decide)), ⟨⟨by omega, hla, by rw [w_eq, u_eq], by rw [u2 251 (by decide), w_eq, u_eq], by rw [w_eq, u_ne (by decide), w_eq, u_eq]⟩, fun i j h3 h4 => pE i j h3 (by omega), ?_, fun j hj => ?_⟩,
        hI.ag (fun i h3 h4 => ca i (by omega) (by omega)) (cb _ (by decide) (by decide)) (mb _ (by decide)) (ma _ (by decide) (by decide)), hW.ag (by rw [ca 9 (by decide) (by omega)]) (ca _ (by decide) (by omega)) (ca _ (by decide) (by omega)) (mb _ (by decide)) (ma _ (by decide) (by decide)) (ma _ (by decide) (by decide)), hS.ag (by rw [ca 249 (by decide) (by omega)]) (ca _ (by decide) (by omega)) (mb _ (by decide)) (ma _ (by decide) (by decide)),
        hT.ag (by rw [ca 1 (by decide) (by omega)]) (ca _ (by decide) (by omega)) (mb _ (by decide)) (ma _ (by decide) (by decide)), hC.cg (by rw [ca 16 (by decide) (by omega)]) (by rw [ca 16 (by decide) (by omega)]) (fun i h3 h4 => ca i (by omega) (by omega)) (by rw [w_2, w_2, c7]), hM.cg (mb _ (by decide)) (mb _ (by decide)) (ma _ (by decide) (by decide)) (ma _ (by decide) (by decide)) (by rw [u5, w_2]) (ma _ (by decide) (by decide)), by rw [ca 0 (by decide) (by omega), mb _ (by decide)]; exact hu⟩
      · refine st.copy hH (fun k hk => ?_) (fun k hk => ?_) (fun k hk => ?_) (fun k hk => ?_) (fun k h3 h4 => ?_) (fun k _ => by rw [ca 39 (by decide) (by omega)]) (fun k hk => ?_)
        · rw [w_ne (by decide), w_ne (by decide)]; exact c2 k hk
        · rw [w_ne (by decide), w_ne (by decide)]; exact c3 k hk
        · rw [w_ne (by decide), w_ne (by decide)]; exact c4 k hk
        · rw [w_ne (by decide), w_ne (by decide)]; exact c5 k hk
        · rw [w_ne (by decide), w_ne (by decide)]; exact c6 k h3 h4
        · rw [u4 k (by omega) hk, w_ne (by decide)]
      · have z := pJ j (by omega)
        have er : ringId nx A j = ringId la (A - 1) j := by
          unfold ringId
          by_cases d : nx ≤ 0
          · rw [if_pos d] at hlc; omega
          · rw [if_neg d] at hlc; omega
        rw [er] at z
        exact z.cg hH (fun i hi k _ => by rw [ca _ (by unfold ringId; omega) (by unfold ringId; omega)]) (fun k _ => by rw [ca 39 (by decide) (by omega)]) (fun k _ => by rw [ma 268 (by decide) (by decide)])
    have ec : zN (A - 1) = (wI (wI h2 37 6 (zN la)) 37 5 (zN A - zN 1)).1 37 5 := by rw [w_eq, u_eq, zN_sub (by omega)]
    have e25 : h2.1 37 5 = zN A := by rw [c1 37 (by omega)]; exact p3
    by_cases d : nx ≤ 0
    · rw [if_pos d] at hlc
      subst hlc
      simp only [if_pos d, c0, bd_some, if_true, w_eq, u_eq, u_ne (show 5 ≠ 6 by decide), e25]
      exact ⟨_, _, _, rfl, by rw [zN_sub (show 1 ≤ A by omega)], fin⟩
    · rw [if_neg d] at hlc
      subst hlc
      have c0' : X0_copyFrom 27 (46 + 5 * (zN nx - zN 1).toNatClampNeg) h = some ((), h2) := by rw [zN_sub (by omega), zN_ix (by omega)]; exact c0
      have ei : inB (zN nx - zN 1) 40 := by rw [zN_sub (by omega), zN_inB (by omega)]; omega
      have el : ¬ zN 40 ≤ zN nx - zN 1 := by rw [zN_sub (by omega), zN_le (by omega) (by omega)]; omega
      rw [← zN_sub (show 1 ≤ nx by omega)] at fin
      simp only [if_neg d, if_neg el, if_pos ei, c0', bd_some, if_true, w_eq, u_eq, u_ne (show 5 ≠ 6 by decide), e25]
      exact ⟨_, _, _, rfl, by rw [zN_sub (show 1 ≤ A by omega)], fin⟩
theorem sim_image (n : Nat) (hn : 20000 ≤ n) : Sim_image n (R n) := by
  intro h g hR
  have hR0 := hR.thr 0
  obtain ⟨B, H, nm, A, nx, E, nw, sn, s, tp, nl, hd, f, hL, hP, hI, hW, hS, hT, hC, hM, hu⟩ := id hR0
  unfold X11_image X5_keepImage X12_image
  generalize wI g 251 0 (0 : Int32) = g0 at *
  have hH : H ≤ 6 := hL.2.1.2.1
  obtain ⟨⟨p1, p2, p3, p4, p5⟩, pE, pN, pJ⟩ := id hP
  simp (disch := omega) only [c_stands hL, hL.1.2.2.2, zN_lit, zN_add, zN_mul, bp_some, bd_some, w_eq, w_2, wl_1, u_eq, wr_eq, wr_2, Nat.reduceAdd, Nat.reduceMul, Nat.reduceSub, zN_eq]
  by_cases c : H = 0
  · subst c; exact ⟨_, _, _, rfl, rfl, hR0⟩
  · rw [decide_eq_true (show 0 < H by omega), if_pos rfl, if_neg c]
    have bt := pN.bit
    obtain ⟨h2, c0, c1, c2, c3, c4, c5, c6, c7⟩ := c_copyFrom (a0 := 40) (a1 := 27) (h := h) (by decide +kernel) (by decide +kernel) (Or.inr (by decide)) bt.1 bt.2
    obtain ⟨g2, i1, i2, i3, i4, i5, i6, i7⟩ := m_image16 (n := n) 211 n 0 g0 (by omega) (by omega)
    rw [c0, i1]
    simp only [bd_some, c_copy (a0 := 39) (a1 := 45) (N := 300) al_39 al_45 (by decide)]
    generalize eh : wI (wR h2 45 (fun k => if k < 300 then h2.1 39 k else h2.1 45 k)) 37 4 (zN 1) = h3
    have ca : ∀ i, i ≠ 37 → (i < 40 ∨ 45 < i) → h3.1 i = h.1 i := fun i z1 z2 => by rw [← eh, w_ne z1, wr_ne (by omega), c1 i (by omega)]
    have cb : ∀ k, k ≠ 4 → h3.1 37 k = h.1 37 k := fun k z1 => by rw [← eh, w_eq, u_ne z1, wr_ne (by decide), c1 37 (by omega)]
    have cc : ∀ i, 40 ≤ i → i ≤ 44 → h3.1 i = h2.1 i := fun i z1 z2 => by rw [← eh, w_ne (by omega), wr_ne (by omega)]
    have cd : ∀ k, k < 300 → h3.1 45 k = h.1 39 k := fun k z1 => by rw [← eh, w_ne (by decide), wr_eq]; simp only [if_pos z1]; rw [c1 39 (by omega)]
    have ce : h3.1 37 4 = zN 1 := by rw [← eh, w_eq, u_eq]
    have c2' : h3.2 = h.2 := by rw [← eh, w_2, wr_2, c7]
    refine ⟨_, _, _, rfl, ?_, B, H, nm, A, nx, E, nw, sn, s, tp, nl, hd, f, hL.ag (ca _ (by decide) (by omega)) (ca _ (by decide) (by omega)) (i3 _ (by decide)) (i3 _ (by decide)) (i2 _ (by decide) (by decide)) (i2 _ (by decide) (by decide)) (i2 _ (by decide) (by decide)), hP.ag (fun i z1 z2 => ca i (by omega) (by omega)) (fun i z1 z2 => ca i (by omega) (by omega)) (ca _ (by decide) (by omega)) (cb _ (by decide)) (cb _ (by decide)) (i3 _ (by decide)) (i2 _ (by decide) (by decide)) (i2 _ (by decide) (by decide)), ⟨by rw [ce, i4], Or.inr ⟨ce, E A, ?_⟩⟩,
      hW.ag (by rw [ca 9 (by decide) (by omega)]) (ca _ (by decide) (by omega)) (ca _ (by decide) (by omega)) (i3 _ (by decide)) (i2 _ (by decide) (by decide)) (i2 _ (by decide) (by decide)), hS.ag (by rw [ca 249 (by decide) (by omega)]) (ca _ (by decide) (by omega)) (i3 _ (by decide)) (i2 _ (by decide) (by decide)), hT.ag (by rw [ca 1 (by decide) (by omega)]) (ca _ (by decide) (by omega)) (i3 _ (by decide)) (i2 _ (by decide) (by decide)),
      hC.cg (by rw [ca 16 (by decide) (by omega)]) (by rw [ca 16 (by decide) (by omega)]) (fun i z1 z2 => ca i (by omega) (by omega)) (by rw [c2']), hM.cg (i3 _ (by decide)) (i3 _ (by decide)) (i2 _ (by decide) (by decide)) (i2 _ (by decide) (by decide)) (by rw [i7]) (i2 _ (by decide) (by decide)), by rw [ca 0 (by decide) (by omega), i3 _ (by decide)]; exact hu⟩
    · obtain ⟨be, ⟨-, -, -, -, b5, -⟩, -⟩ := pN
      rw [ca 27 (by decide) (by omega), b5.1, b5.2.1]
    · exact pN.copy hH (fun k hk => by rw [cc 41 (by decide) (by decide)]; exact c2 k hk) (fun k hk => by rw [cc 42 (by decide) (by decide)]; exact c3 k hk) (fun k hk => by rw [cc 43 (by decide) (by decide)]; exact c4 k hk) (fun k hk => by rw [cc 44 (by decide) (by decide)]; exact c5 k hk) (fun k z1 z2 => by rw [cc 40 (by decide) (by decide)]; exact c6 k z1 z2) cd (fun k hk => i6 k (by omega) hk)
theorem sim_back (n : Nat) (hn : 20000 ≤ n) : Sim_back n (R n) := by
  intro h g hR
  have hR0 := hR.thr 0
  obtain ⟨B, H, nm, A, nx, E, nw, sn, s, tp, nl, hd, f, hL, hP, hI, hW, hS, hT, hC, hM, hu⟩ := id hR0
  unfold X11_back X5_bringBack X12_back
  generalize wI g 251 0 (0 : Int32) = g0 at *
  have hH : H ≤ 6 := hL.2.1.2.1
  obtain ⟨⟨p1, p2, p3, p4, p5⟩, pE, pN, pJ⟩ := id hP
  obtain ⟨q1, q2⟩ := id hI
  rw [← q1]
  rcases q2 with q2 | ⟨q2, E2, q3⟩
  · rw [q2]; exact ⟨_, _, _, rfl, rfl, hR0⟩
  · rw [q2, if_neg (by decide), if_neg (by decide)]
    have bt := q3.bit
    obtain ⟨h2, c0, c1, c2, c3, c4, c5, c6, c7⟩ := c_copyFrom (a0 := 27) (a1 := 40) (h := h) (by decide +kernel) (by decide +kernel) (Or.inl (by decide)) bt.1 bt.2
    obtain ⟨g2, i1, i2, i3, i4, i5, i6, i7⟩ := m_back16 (n := n) 211 n 0 g0 (by omega) (by omega)
    rw [zN_lit] at *
    rw [c0, i1, if_pos (by decide)]
    simp only [bd_some, c_copy (a0 := 45) (a1 := 39) (N := 300) al_45 al_39 (by decide)]
    generalize eh : wI (wR h2 39 (fun k => if k < 300 then h2.1 45 k else h2.1 39 k)) 37 5 _ = h3
    have ca : ∀ i, i ≠ 37 → i ≠ 39 → (i < 27 ∨ 31 < i) → h3.1 i = h.1 i := fun i z1 z2 z3 => by rw [← eh, w_ne z1, wr_ne z2, c1 i (by omega)]
    have cb : ∀ k, k ≠ 5 → h3.1 37 k = h.1 37 k := fun k z1 => by rw [← eh, w_eq, u_ne z1, wr_ne (by decide), c1 37 (by omega)]
    have cc : ∀ i, 27 ≤ i → i ≤ 31 → h3.1 i = h2.1 i := fun i z1 z2 => by rw [← eh, w_ne (by omega), wr_ne (by omega)]
    have cd : ∀ k, k < 300 → h3.1 39 k = h.1 45 k := fun k z1 => by rw [← eh, w_ne (by decide), wr_eq]; simp only [if_pos z1]; rw [c1 45 (by omega)]
    have ce : h3.1 37 5 = zN 0 := by rw [← eh, w_eq, u_eq]
    have c2' : h3.2 = h.2 := by rw [← eh, w_2, wr_2, c7]
    refine ⟨_, _, _, rfl, ?_, B, H, nm, 0, nx, fun _ => E2, nw, sn, s, tp, nl, hd, f, hL.ag (ca _ (by decide) (by decide) (by omega)) (ca _ (by decide) (by decide) (by omega)) (i3 _ (by decide)) (i3 _ (by decide)) (i2 _ (by decide) (by decide)) (i2 _ (by decide) (by decide)) (i2 _ (by decide) (by decide)), ⟨⟨by decide, p2, ce, i4, by rw [cb _ (by decide)]; exact p5⟩, fun i j z1 z2 => ⟨Nat.le_refl _, Nat.le_add_right _ _⟩, ?_, fun j hj => by omega⟩, hI.ag (fun i z1 z2 => ca i (by omega) (by omega) (by omega)) (cb _ (by decide)) (i3 _ (by decide)) (i2 _ (by decide) (by decide)),
      hW.ag (by rw [ca 9 (by decide) (by decide) (by omega)]) (ca _ (by decide) (by decide) (by omega)) (ca _ (by decide) (by decide) (by omega)) (i3 _ (by decide)) (i2 _ (by decide) (by decide)) (i2 _ (by decide) (by decide)), hS.ag (by rw [ca 249 (by decide) (by decide) (by omega)]) (ca _ (by decide) (by decide) (by omega)) (i3 _ (by decide)) (i2 _ (by decide) (by decide)), hT.ag (by rw [ca 1 (by decide) (by decide) (by omega)]) (ca _ (by decide) (by decide) (by omega)) (i3 _ (by decide)) (i2 _ (by decide) (by decide)),
      hC.cg (by rw [ca 16 (by decide) (by decide) (by omega)]) (by rw [ca 16 (by decide) (by decide) (by omega)]) (fun i z1 z2 => ca i (by omega) (by omega) (by omega)) (by rw [c2']), hM.cg (i3 _ (by decide)) (i3 _ (by decide)) (i2 _ (by decide) (by decide)) (i2 _ (by decide) (by decide)) (by rw [i7]) (i2 _ (by decide) (by decide)), by rw [ca 0 (by decide) (by decide) (by omega), i3 _ (by decide)]; exact hu⟩
    · obtain ⟨be, ⟨-, -, -, -, b5, -⟩, -⟩ := q3
      rw [cc 27 (by decide) (by decide), c6 6 (by decide) (by decide), b5.1, b5.2.1]
    · exact q3.copy hH (fun k hk => by rw [cc 28 (by decide) (by decide)]; exact c2 k hk) (fun k hk => by rw [cc 29 (by decide) (by decide)]; exact c3 k hk) (fun k hk => by rw [cc 30 (by decide) (by decide)]; exact c4 k hk) (fun k hk => by rw [cc 31 (by decide) (by decide)]; exact c5 k hk) (fun k z1 z2 => by rw [cc 27 (by decide) (by decide)]; exact c6 k z1 z2) cd (fun k hk => i6 k (by omega) hk)
