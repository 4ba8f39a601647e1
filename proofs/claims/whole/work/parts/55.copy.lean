/-! copies of rows and BEDS -/
theorem bedlen : ∀ a ∈ bedIds, aln (a + 1) = 4 ∧ aln (a + 2) = 6 ∧ aln (a + 3) = 6 ∧ aln (a + 4) = 6 := by decide +kernel
theorem ringbed : ∀ j, j < 40 → 46 + 5 * j ∈ bedIds := by decide +kernel
theorem c_copy {a0 a1 N : Nat} {h : Mm} (e0 : aln a0 = N) (e1 : aln a1 = N) (hN : N < 1000) : X11_copy a0 a1 h = some ((), wR h a1 (fun k => if k < N then h.1 a0 k else h.1 a1 k)) := by
  unfold X11_copy
  rw [e0, e1, show Int32.ofNat N = zN N from rfl, j_min, bp_some]
  simp only [if_neg (show ¬ zN N < zN N by rw [zN_lt (by omega) (by omega)]; omega)]
  have z0 : (0 : Int32).toNatClampNeg = 0 := rfl
  have c : acOK (0 : Int32) (0 : Int32) (zN N) N N := ⟨by decide, by decide, zN_neg0 (by omega), by rw [z0, zN_ix (by omega)]; omega, by rw [z0, zN_ix (by omega)]; omega⟩
  rw [if_pos c, z0, zN_ix (by omega)]
  congr 3
  funext k
  simp only [va_cpy, Nat.zero_le, true_and, Nat.zero_add, Nat.sub_zero]
set_option maxHeartbeats 4000000 in
theorem c_copyFrom {a0 a1 : Nat} {h : Mm} (b0 : a0 ∈ bedIds) (b1 : a1 ∈ bedIds) (hd : a0 + 5 ≤ a1 ∨ a1 + 5 ≤ a0) (hm : h.1 a1 11 = 0 ∨ h.1 a1 11 = 1) (hw : h.1 a1 12 = 0 ∨ h.1 a1 12 = 1) :
    ∃ h', X0_copyFrom a0 a1 h = some ((), h') ∧ (∀ i, i < a0 ∨ a0 + 4 < i → h'.1 i = h.1 i) ∧ (∀ k, k < 4 → h'.1 (a0 + 1) k = h.1 (a1 + 1) k) ∧ (∀ k, k < 6 → h'.1 (a0 + 2) k = h.1 (a1 + 2) k) ∧ (∀ k, k < 6 → h'.1 (a0 + 3) k = h.1 (a1 + 3) k) ∧ (∀ k, k < 6 → h'.1 (a0 + 4) k = h.1 (a1 + 4) k) ∧ (∀ k, 4 ≤ k → k ≤ 12 → h'.1 a0 k = h.1 a1 k) ∧ h'.2 = h.2 := by
  obtain ⟨p1, p2, p3, p4⟩ := bedlen a0 b0
  obtain ⟨q1, q2, q3, q4⟩ := bedlen a1 b1
  unfold X0_copyFrom
  rw [c_copy q1 p1 (by decide), bd_some, c_copy q2 p2 (by decide), bd_some, c_copy q3 p3 (by decide), bd_some, c_copy q4 p4 (by decide), bd_some]
  generalize e24 : wR _ (a0 + 4) _ = h24
  have f1 : ∀ i, (i < a0 + 1 ∨ a0 + 4 < i) → h24.1 i = h.1 i := fun i hi => by
    rw [← e24, wr_ne (by omega), wr_ne (by omega), wr_ne (by omega), wr_ne (by omega)]
  have f2 : ∀ k, k < 4 → h24.1 (a0 + 1) k = h.1 (a1 + 1) k := fun k hk => by
    rw [← e24, wr_ne (by omega), wr_ne (by omega), wr_ne (by omega), wr_eq]; exact if_pos hk
  have f3 : ∀ k, k < 6 → h24.1 (a0 + 2) k = h.1 (a1 + 2) k := fun k hk => by
    rw [← e24, wr_ne (by omega), wr_ne (by omega), wr_eq]
    simp only [if_pos hk]
    rw [wr_ne (by omega)]
  have f4 : ∀ k, k < 6 → h24.1 (a0 + 3) k = h.1 (a1 + 3) k := fun k hk => by
    rw [← e24, wr_ne (by omega), wr_eq]
    simp only [if_pos hk]
    rw [wr_ne (by omega), wr_ne (by omega)]
  have f5 : ∀ k, k < 6 → h24.1 (a0 + 4) k = h.1 (a1 + 4) k := fun k hk => by
    rw [← e24, wr_eq]
    simp only [if_pos hk]
    rw [wr_ne (by omega), wr_ne (by omega), wr_ne (by omega)]
  have f6 : h24.2 = h.2 := by rw [← e24]; rfl
  clear e24
  have ne : a1 ≠ a0 := by omega
  have g1 : ∀ k, h24.1 a1 k = h.1 a1 k := fun k => by rw [f1 a1 (by omega)]
  simp only [w_ne ne, g1, if_pos hm, if_pos hw]
  refine ⟨_, rfl, fun i hi => ?_, fun k hk => ?_, fun k hk => ?_, fun k hk => ?_, fun k hk => ?_, fun k k1 k2 => ?_, ?_⟩
  · simp (disch := omega) only [w_ne]; exact f1 i (by omega)
  · simp (disch := omega) only [w_ne]; exact f2 k hk
  · simp (disch := omega) only [w_ne]; exact f3 k hk
  · simp (disch := omega) only [w_ne]; exact f4 k hk
  · simp (disch := omega) only [w_ne]; exact f5 k hk
  · simp only [w_eq]
    obtain rfl | rfl | rfl | rfl | rfl | rfl | rfl | rfl | rfl : k = 4 ∨ k = 5 ∨ k = 6 ∨ k = 7 ∨ k = 8 ∨ k = 9 ∨ k = 10 ∨ k = 11 ∨ k = 12 := by omega
    all_goals simp (disch := omega) only [u_ne, u_eq]
  · simp only [w_2]; exact f6
/-- a BED copied stands for the same row -/
theorem StateR.copy {H E a0 a1 : Nat} {h h' : Mm} {rows w rows' w' : Nat → Int32} (q : StateR H E h a1 rows w) (hH : H ≤ 6) (c1 : ∀ k, k < 4 → h'.1 (a0 + 1) k = h.1 (a1 + 1) k) (c2 : ∀ k, k < 6 → h'.1 (a0 + 2) k = h.1 (a1 + 2) k) (c3 : ∀ k, k < 6 → h'.1 (a0 + 3) k = h.1 (a1 + 3) k) (c4 : ∀ k, k < 6 → h'.1 (a0 + 4) k = h.1 (a1 + 4) k) (c5 : ∀ k, 4 ≤ k → k ≤ 12 → h'.1 a0 k = h.1 a1 k) (e1 : ∀ k, k < 300 → rows' k = rows k) (e2 : ∀ k, k < 211 → w' k = w k) : StateR H E h' a0 rows' w' := by
  obtain ⟨be, q1, q2, q3, q4⟩ := q
  exact ⟨be, q1.cg hH c1 c2 c3 c4 c5 (fun k hk => e2 k (by omega)), q2, by rw [c5 10 (by decide) (by decide)]; exact q3, q4.cg e1 e2⟩
theorem StateR.bit {H E a : Nat} {h : Mm} {rows w : Nat → Int32} (q : StateR H E h a rows w) : (h.1 a 11 = 0 ∨ h.1 a 11 = 1) ∧ (h.1 a 12 = 0 ∨ h.1 a 12 = 1) := by
  obtain ⟨be, ⟨-, -, -, -, -, -, b7, b8⟩, -, -, -⟩ := q
  constructor
  · obtain e | e : be 25 = 0 ∨ be 25 = 1 := by omega
    · left; rw [b7.1, e]; rfl
    · right; rw [b7.1, e]; rfl
  · obtain e | e : be 26 = 0 ∨ be 26 = 1 := by omega
    · left; rw [b8.1, e]; rfl
    · right; rw [b8.1, e]; rfl
/-! the model's loops over a row -/
theorem m_rem52 {n : Nat} : ∀ (d f k A : Nat) (g : Mm), k + d = 211 → d < f → A < 40 → g.1 251 39 = zN A → ∃ g', X12_remember_52 n f (zN k) g = some ((), g') ∧ (∀ i, i ≠ 251 → i ≠ 268 → g'.1 i = g.1 i) ∧ (∀ j, j ≠ 39 → g'.1 251 j = g.1 251 j) ∧ g'.1 251 39 = zN (A + 1) ∧ (∀ j, (j < 211 * A + k ∨ 211 * A + 211 ≤ j) → g'.1 268 j = g.1 268 j) ∧ (∀ j, k ≤ j → j < 211 → g'.1 268 (211 * A + j) = g.1 264 j) ∧ g'.2 = g.2 := by
  intro d
  induction d with
  | zero =>
    intro f k A g hk hf hA e
    obtain ⟨f, rfl⟩ : ∃ m, f = m + 1 := ⟨f - 1, by omega⟩
    unfold X12_remember_52
    simp (disch := omega) only [zN_lit, zN_add, zN_mul, bp_some, bd_some, w_eq, w_2, wl_1, u_eq, wr_eq, wr_2, Nat.reduceAdd, Nat.reduceMul, Nat.reduceSub, zN_le, e, if_pos (show 211 ≤ k by omega)]
    exact ⟨_, rfl, fun i h1 h2 => w_ne h1, fun j hj => by rw [w_eq, u_ne hj], by rw [w_eq, u_eq], fun j hj => by rw [w_ne (by decide)], fun j h1 h2 => by omega, rfl⟩
  | succ d ih =>
    intro f k A g hk hf hA e
    obtain ⟨f, rfl⟩ : ∃ m, f = m + 1 := ⟨f - 1, by omega⟩
    unfold X12_remember_52
    simp (disch := omega) only [zN_lit, zN_add, zN_mul, bp_some, bd_some, w_eq, w_2, wl_1, u_eq, wr_eq, wr_2, Nat.reduceAdd, Nat.reduceMul, Nat.reduceSub, al_2, al_5, al_6, al_8, al_10, al_11, al_12, al_14, al_15, al_18, al_19, al_20, al_21, al_22, al_23, al_24, al_25, al_28, al_29, al_30, al_31, al_33, al_34, al_35, al_36, al_39, al_41, al_42, al_43, al_44, al_45, al_247, al_248, al_250, al_252, al_253, al_254, al_255, al_256, al_257, al_258, al_259, al_260, al_261, al_262, al_263, al_264, al_265, al_266, al_267, al_268, al_269, al_270, al_271, al_272, al_273, al_1001, al_1002, al_1003, al_1004, al_1005, al_1006, al_1007, zN_le, e, zN_inB, zN_ix]
    rw [if_neg (by omega), if_pos (by omega), if_pos (by omega)]
    obtain ⟨g', r1, r2, r3, r4, r5, r6, r7⟩ := ih f (k + 1) A (wI g 268 (211 * A + k) (g.1 264 k)) (by omega) (by omega) hA (by rw [w_ne (by decide)]; exact e)
    refine ⟨g', r1, fun i h1 h2 => by rw [r2 i h1 h2, w_ne h2], fun j hj => by rw [r3 j hj, w_ne (by decide)], r4, fun j hj => by rw [r5 j (by omega), w_eq, u_ne (by omega)], fun j h1 h2 => ?_, by rw [r7]; rfl⟩
    by_cases c : j = k
    · subst c; rw [r5 _ (by omega), w_eq, u_eq]
    · rw [r6 j (by omega) h2, w_ne (by decide)]
theorem m_rem11 {n : Nat} : ∀ (d f k : Nat) (g : Mm), k + d = 8229 → d < f → g.1 251 39 = zN 40 → ∃ g1, X12_remember_11 n f (zN k) g = X12_remember_50 n g1 ∧ (∀ i, i ≠ 251 → i ≠ 268 → g1.1 i = g.1 i) ∧ (∀ j, j ≠ 39 → g1.1 251 j = g.1 251 j) ∧ g1.1 251 39 = zN 39 ∧ (∀ j, k ≤ j → j < 8229 → g1.1 268 j = g.1 268 (j + 211)) ∧ (∀ j, j < k → g1.1 268 j = g.1 268 j) ∧ (∀ j, 8229 ≤ j → g1.1 268 j = g.1 268 j) ∧ g1.2 = g.2 := by
  intro d
  induction d with
  | zero =>
    intro f k g hk hf e
    obtain ⟨f, rfl⟩ : ∃ m, f = m + 1 := ⟨f - 1, by omega⟩
    unfold X12_remember_11
    simp (disch := omega) only [zN_lit, zN_add, zN_mul, bp_some, bd_some, w_eq, w_2, wl_1, u_eq, wr_eq, wr_2, Nat.reduceAdd, Nat.reduceMul, Nat.reduceSub, zN_le, e, if_pos (show 8229 ≤ k by omega)]
    exact ⟨_, rfl, fun i h1 h2 => w_ne h1, fun j hj => by rw [w_eq, u_ne hj], by rw [w_eq, u_eq, zN_sub (by decide)], fun j h1 h2 => by omega, fun j hj => by rw [w_ne (by decide)], fun j hj => by rw [w_ne (by decide)], rfl⟩
  | succ d ih =>
    intro f k g hk hf e
    obtain ⟨f, rfl⟩ : ∃ m, f = m + 1 := ⟨f - 1, by omega⟩
    unfold X12_remember_11
    simp (disch := omega) only [zN_lit, zN_add, zN_mul, bp_some, bd_some, w_eq, w_2, wl_1, u_eq, wr_eq, wr_2, Nat.reduceAdd, Nat.reduceMul, Nat.reduceSub, al_2, al_5, al_6, al_8, al_10, al_11, al_12, al_14, al_15, al_18, al_19, al_20, al_21, al_22, al_23, al_24, al_25, al_28, al_29, al_30, al_31, al_33, al_34, al_35, al_36, al_39, al_41, al_42, al_43, al_44, al_45, al_247, al_248, al_250, al_252, al_253, al_254, al_255, al_256, al_257, al_258, al_259, al_260, al_261, al_262, al_263, al_264, al_265, al_266, al_267, al_268, al_269, al_270, al_271, al_272, al_273, al_1001, al_1002, al_1003, al_1004, al_1005, al_1006, al_1007, zN_le, zN_inB, zN_ix]
    rw [if_neg (by omega), if_pos (by omega), if_pos (by omega)]
    obtain ⟨g', r1, r2, r3, r4, r5, r6, r8, r7⟩ := ih f (k + 1) (wI g 268 k (g.1 268 (k + 211))) (by omega) (by omega) (by rw [w_ne (by decide)]; exact e)
    refine ⟨g', r1, fun i h1 h2 => by rw [r2 i h1 h2, w_ne h2], fun j hj => by rw [r3 j hj, w_ne (by decide)], r4, fun j h1 h2 => ?_, fun j hj => by rw [r6 j (by omega), w_eq, u_ne (by omega)], fun j hj => by rw [r8 j hj, w_eq, u_ne (by omega)], by rw [r7]; rfl⟩
    by_cases c : j = k
    · subst c; rw [r6 j (by omega), w_eq, u_eq]
    · rw [r5 j (by omega) h2, w_eq, u_ne (by omega)]
theorem m_undo26 {n : Nat} : ∀ (d f k A : Nat) (g : Mm), k + d = 211 → d < f → A < 40 → g.1 251 39 = zN A → ∃ g', X12_undo_26 n f (zN k) g = some (zN A, g') ∧ (∀ i, i ≠ 264 → g'.1 i = g.1 i) ∧ (∀ j, j < k → g'.1 264 j = g.1 264 j) ∧ (∀ j, k ≤ j → j < 211 → g'.1 264 j = g.1 268 (211 * A + j)) ∧ g'.2 = g.2 := by
  intro d
  induction d with
  | zero =>
    intro f k A g hk hf hA e
    obtain ⟨f, rfl⟩ : ∃ m, f = m + 1 := ⟨f - 1, by omega⟩
    unfold X12_undo_26
    simp (disch := omega) only [zN_lit, zN_add, zN_mul, bp_some, bd_some, w_eq, w_2, wl_1, u_eq, wr_eq, wr_2, Nat.reduceAdd, Nat.reduceMul, Nat.reduceSub, zN_le, e, if_pos (show 211 ≤ k by omega)]
    exact ⟨_, rfl, fun i h1 => rfl, fun j hj => rfl, fun j h1 h2 => by omega, rfl⟩
  | succ d ih =>
    intro f k A g hk hf hA e
    obtain ⟨f, rfl⟩ : ∃ m, f = m + 1 := ⟨f - 1, by omega⟩
    unfold X12_undo_26
    simp (disch := omega) only [zN_lit, zN_add, zN_mul, bp_some, bd_some, w_eq, w_2, wl_1, u_eq, wr_eq, wr_2, Nat.reduceAdd, Nat.reduceMul, Nat.reduceSub, al_2, al_5, al_6, al_8, al_10, al_11, al_12, al_14, al_15, al_18, al_19, al_20, al_21, al_22, al_23, al_24, al_25, al_28, al_29, al_30, al_31, al_33, al_34, al_35, al_36, al_39, al_41, al_42, al_43, al_44, al_45, al_247, al_248, al_250, al_252, al_253, al_254, al_255, al_256, al_257, al_258, al_259, al_260, al_261, al_262, al_263, al_264, al_265, al_266, al_267, al_268, al_269, al_270, al_271, al_272, al_273, al_1001, al_1002, al_1003, al_1004, al_1005, al_1006, al_1007, zN_le, e, zN_inB, zN_ix]
    rw [if_neg (by omega), if_pos (by omega), if_pos (by omega)]
    obtain ⟨g', r1, r2, r3, r4, r5⟩ := ih f (k + 1) A (wI g 264 k (g.1 268 (211 * A + k))) (by omega) (by omega) hA (by rw [w_ne (by decide)]; exact e)
    refine ⟨g', r1, fun i h1 => by rw [r2 i h1, w_ne h1], fun j hj => by rw [r3 j (by omega), w_eq, u_ne (by omega)], fun j h1 h2 => ?_, by rw [r5]; rfl⟩
    by_cases c : j = k
    · subst c; rw [r3 j (by omega), w_eq, u_eq]
    · rw [r4 j (by omega) h2, w_ne (by decide)]
theorem m_image16 {n : Nat} : ∀ (d f k : Nat) (g : Mm), k + d = 211 → d < f → ∃ g', X12_image_16 n f (zN k) g = some (g.1 264 29, g') ∧ (∀ i, i ≠ 272 → i ≠ 251 → g'.1 i = g.1 i) ∧ (∀ j, j ≠ 50 → g'.1 251 j = g.1 251 j) ∧ g'.1 251 50 = zN 1 ∧ (∀ j, j < k → g'.1 272 j = g.1 272 j) ∧ (∀ j, k ≤ j → j < 211 → g'.1 272 j = g.1 264 j) ∧ g'.2 = g.2 := by
  intro d
  induction d with
  | zero =>
    intro f k g hk hf
    obtain ⟨f, rfl⟩ : ∃ m, f = m + 1 := ⟨f - 1, by omega⟩
    unfold X12_image_16
    simp (disch := omega) only [zN_lit, zN_add, zN_mul, bp_some, bd_some, w_eq, w_2, wl_1, u_eq, wr_eq, wr_2, Nat.reduceAdd, Nat.reduceMul, Nat.reduceSub, al_2, al_5, al_6, al_8, al_10, al_11, al_12, al_14, al_15, al_18, al_19, al_20, al_21, al_22, al_23, al_24, al_25, al_28, al_29, al_30, al_31, al_33, al_34, al_35, al_36, al_39, al_41, al_42, al_43, al_44, al_45, al_247, al_248, al_250, al_252, al_253, al_254, al_255, al_256, al_257, al_258, al_259, al_260, al_261, al_262, al_263, al_264, al_265, al_266, al_267, al_268, al_269, al_270, al_271, al_272, al_273, al_1001, al_1002, al_1003, al_1004, al_1005, al_1006, al_1007, zN_le, zN_inB, zN_ix, w_ne, if_pos (show 211 ≤ k by omega), if_pos (show 29 < 211 by decide)]
    exact ⟨_, rfl, fun i h1 h2 => w_ne h2, fun j hj => by rw [w_eq, u_ne hj], by rw [w_eq, u_eq], fun j hj => by rw [w_ne (by decide)], fun j h1 h2 => by omega, rfl⟩
  | succ d ih =>
    intro f k g hk hf
    obtain ⟨f, rfl⟩ : ∃ m, f = m + 1 := ⟨f - 1, by omega⟩
    unfold X12_image_16
    simp (disch := omega) only [zN_lit, zN_add, zN_mul, bp_some, bd_some, w_eq, w_2, wl_1, u_eq, wr_eq, wr_2, Nat.reduceAdd, Nat.reduceMul, Nat.reduceSub, al_2, al_5, al_6, al_8, al_10, al_11, al_12, al_14, al_15, al_18, al_19, al_20, al_21, al_22, al_23, al_24, al_25, al_28, al_29, al_30, al_31, al_33, al_34, al_35, al_36, al_39, al_41, al_42, al_43, al_44, al_45, al_247, al_248, al_250, al_252, al_253, al_254, al_255, al_256, al_257, al_258, al_259, al_260, al_261, al_262, al_263, al_264, al_265, al_266, al_267, al_268, al_269, al_270, al_271, al_272, al_273, al_1001, al_1002, al_1003, al_1004, al_1005, al_1006, al_1007, zN_le, zN_inB, zN_ix]
    rw [if_neg (by omega), if_pos (by omega), if_pos (by omega)]
    obtain ⟨g', r1, r2, r3, r4, r5, r6, r7⟩ := ih f (k + 1) (wI g 272 k (g.1 264 k)) (by omega) (by omega)
    rw [w_ne (by decide)] at r1
    refine ⟨g', r1, fun i h1 h2 => by rw [r2 i h1 h2, w_ne h1], fun j hj => by rw [r3 j hj, w_ne (by decide)], r4, fun j hj => by rw [r5 j (by omega), w_eq, u_ne (by omega)], fun j h1 h2 => ?_, by rw [r7]; rfl⟩
    by_cases c : j = k
    · subst c; rw [r5 j (by omega), w_eq, u_eq]
    · rw [r6 j (by omega) h2, w_ne (by decide)]
theorem m_back16 {n : Nat} : ∀ (d f k : Nat) (g : Mm), k + d = 211 → d < f → ∃ g', X12_back_16 n f (zN k) g = some (if k ≤ 29 then g.1 272 29 else g.1 264 29, g') ∧ (∀ i, i ≠ 264 → i ≠ 251 → g'.1 i = g.1 i) ∧ (∀ j, j ≠ 39 → g'.1 251 j = g.1 251 j) ∧ g'.1 251 39 = zN 0 ∧ (∀ j, j < k → g'.1 264 j = g.1 264 j) ∧ (∀ j, k ≤ j → j < 211 → g'.1 264 j = g.1 272 j) ∧ g'.2 = g.2 := by
  intro d
  induction d with
  | zero =>
    intro f k g hk hf
    obtain ⟨f, rfl⟩ : ∃ m, f = m + 1 := ⟨f - 1, by omega⟩
    unfold X12_back_16
    simp (disch := omega) only [zN_lit, zN_add, zN_mul, bp_some, bd_some, w_eq, w_2, wl_1, u_eq, wr_eq, wr_2, Nat.reduceAdd, Nat.reduceMul, Nat.reduceSub, al_2, al_5, al_6, al_8, al_10, al_11, al_12, al_14, al_15, al_18, al_19, al_20, al_21, al_22, al_23, al_24, al_25, al_28, al_29, al_30, al_31, al_33, al_34, al_35, al_36, al_39, al_41, al_42, al_43, al_44, al_45, al_247, al_248, al_250, al_252, al_253, al_254, al_255, al_256, al_257, al_258, al_259, al_260, al_261, al_262, al_263, al_264, al_265, al_266, al_267, al_268, al_269, al_270, al_271, al_272, al_273, al_1001, al_1002, al_1003, al_1004, al_1005, al_1006, al_1007, zN_le, zN_inB, zN_ix, w_ne, if_pos (show 211 ≤ k by omega), if_pos (show 29 < 211 by decide), if_neg (show ¬ k ≤ 29 by omega)]
    exact ⟨_, rfl, fun i h1 h2 => w_ne h2, fun j hj => by rw [w_eq, u_ne hj], by rw [w_eq, u_eq], fun j hj => by rw [w_ne (by decide)], fun j h1 h2 => by omega, rfl⟩
  | succ d ih =>
    intro f k g hk hf
    obtain ⟨f, rfl⟩ : ∃ m, f = m + 1 := ⟨f - 1, by omega⟩
    unfold X12_back_16
    simp (disch := omega) only [zN_lit, zN_add, zN_mul, bp_some, bd_some, w_eq, w_2, wl_1, u_eq, wr_eq, wr_2, Nat.reduceAdd, Nat.reduceMul, Nat.reduceSub, al_2, al_5, al_6, al_8, al_10, al_11, al_12, al_14, al_15, al_18, al_19, al_20, al_21, al_22, al_23, al_24, al_25, al_28, al_29, al_30, al_31, al_33, al_34, al_35, al_36, al_39, al_41, al_42, al_43, al_44, al_45, al_247, al_248, al_250, al_252, al_253, al_254, al_255, al_256, al_257, al_258, al_259, al_260, al_261, al_262, al_263, al_264, al_265, al_266, al_267, al_268, al_269, al_270, al_271, al_272, al_273, al_1001, al_1002, al_1003, al_1004, al_1005, al_1006, al_1007, zN_le, zN_inB, zN_ix]
    rw [if_neg (by omega), if_pos (by omega), if_pos (by omega)]
    obtain ⟨g', r1, r2, r3, r4, r5, r6, r7⟩ := ih f (k + 1) (wI g 264 k (g.1 272 k)) (by omega) (by omega)
    have e : (if k + 1 ≤ 29 then (wI g 264 k (g.1 272 k)).1 272 29 else (wI g 264 k (g.1 272 k)).1 264 29) = (if k ≤ 29 then g.1 272 29 else g.1 264 29) := by
      rw [w_ne (by decide), w_eq]
      by_cases c : k = 29
      · subst c; rw [if_neg (by omega), if_pos (by omega), u_eq]
      · by_cases c2 : k + 1 ≤ 29
        · rw [if_pos c2, if_pos (by omega)]
        · rw [if_neg c2, if_neg (by omega), u_ne (by omega)]
    rw [e] at r1
    refine ⟨g', r1, fun i h1 h2 => by rw [r2 i h1 h2, w_ne h1], fun j hj => by rw [r3 j hj, w_ne (by decide)], r4, fun j hj => by rw [r5 j (by omega), w_eq, u_ne (by omega)], fun j h1 h2 => ?_, by rw [r7]; rfl⟩
    by_cases c : j = k
    · subst c; rw [r5 j (by omega), w_eq, u_eq]
    · rw [r6 j (by omega) h2, w_ne (by decide)]
