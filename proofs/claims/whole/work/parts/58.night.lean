/-! a NIGHT -/
def lessI (v : Int32) (d : Nat) : Int32 := if zN 0 < v - zN d then v - zN d else zN 0
theorem lessI_N {t d : Nat} (ht : t < 1000) (hd : d < 1000) : lessI (zN t) d = zN (t - d) := by
  unfold lessI
  rw [zN_subI]
  simp (disch := omega) only [zN_ltI]
  by_cases c : (0 : Int) < (t : Int) - d
  · rw [if_pos (by omega), zI_toN (k := t - d) (by omega)]
  · rw [if_neg (by omega), show t - d = 0 by omega]
theorem m_n201 {n r H x : Nat} (hr : aln r = 211) (hr2 : r ≠ 251) (hH : H ≤ 6) (hx : x < H) (sl : Int32) : ∀ (d f k : Nat) (g : Mm), k + d = 4 → d < f → g.1 251 27 = zN H →
    ∃ g', X12_goNight_201 n r f (zN x) sl (zN k) g = some (sl, g') ∧ (∀ i, i ≠ r → g'.1 i = g.1 i) ∧ g'.2 = g.2 ∧ (∀ j, 18 + k ≤ j → j < 22 → g'.1 r j = lessI (g.1 r j) 1) ∧
      (g'.1 r 23 = zN ((x + 1) % H) ∧ g'.1 r 24 = zN 0 ∧ g'.1 r 25 = zN 0 ∧ g'.1 r 26 = zN 0 ∧ g'.1 r 29 = g.1 r 29 + zN 1 ∧ g'.1 r (3 * x + 2) = g.1 r (3 * x + 2) + zN 1) ∧
      (∀ j, (j < 18 + k ∨ 22 ≤ j) → j ≠ 23 → j ≠ 24 → j ≠ 25 → j ≠ 26 → j ≠ 29 → j ≠ 3 * x + 2 → g'.1 r j = g.1 r j) := by
  intro d
  induction d with
  | zero =>
    intro f k g hk hf e
    obtain ⟨f, rfl⟩ : ∃ m, f = m + 1 := ⟨f - 1, by omega⟩
    unfold X12_goNight_201
    simp (disch := omega) only [zN_lit, zN_add, zN_mul, bp_some, bd_some, w_eq, w_2, wl_1, u_eq, wr_eq, wr_2, Nat.reduceAdd, Nat.reduceMul, Nat.reduceSub, hr, zN_le, zN_inB, zN_ix, w_ne, u_ne, e, zN_eq, if_pos (show 4 ≤ k by omega), if_pos (show 24 < 211 by decide), if_pos (show 25 < 211 by decide), if_pos (show 26 < 211 by decide), if_pos (show 3 * x + 2 < 211 by omega), if_pos (show ¬ H = 0 by omega), if_pos (show 23 < 211 by decide), if_pos (show 29 < 211 by decide)]
    refine ⟨_, rfl, fun i hi => by simp (disch := omega) only [w_ne], rfl, fun j h1 h2 => by omega, ⟨?_, ?_, ?_, ?_, ?_, ?_⟩, fun j _ h1 h2 h3 h4 h5 h6 => by simp (disch := omega) only [w_eq, u_ne]⟩
    · simp (disch := omega) only [w_eq, u_ne, u_eq]; exact zN_mod (by omega) (by omega)
    · simp (disch := omega) only [w_eq, u_ne, u_eq]
    · simp (disch := omega) only [w_eq, u_ne, u_eq]
    · simp (disch := omega) only [w_eq, u_ne, u_eq]
    · simp (disch := omega) only [w_eq, u_ne, u_eq]
    · simp (disch := omega) only [w_eq, u_ne, u_eq]
  | succ d ih =>
    intro f k g hk hf e
    obtain ⟨f, rfl⟩ : ∃ m, f = m + 1 := ⟨f - 1, by omega⟩
    unfold X12_goNight_201
    simp (disch := omega) only [zN_lit, zN_add, zN_mul, bp_some, bd_some, w_eq, w_2, wl_1, u_eq, wr_eq, wr_2, Nat.reduceAdd, Nat.reduceMul, Nat.reduceSub, hr, zN_le, zN_inB, zN_ix, j_max, if_neg (show ¬ 4 ≤ k by omega), if_pos (show 18 + k < 211 by omega)]
    obtain ⟨g', r1, r2, r3, r4, r5, r6⟩ := ih f (k + 1) (wI g r (18 + k) (lessI (g.1 r (18 + k)) 1)) (by omega) (by omega) (by rw [w_ne (by omega)]; exact e)
    refine ⟨g', r1, fun i hi => by rw [r2 i hi, w_ne hi], by rw [r3]; rfl, fun j h1 h2 => ?_, ?_, fun j h0 h1 h2 h3 h4 h5 h6 => by rw [r6 j (by omega) h1 h2 h3 h4 h5 h6, w_eq, u_ne (by omega)]⟩
    · by_cases c : j = 18 + k
      · subst c; rw [r6 _ (by omega) (by omega) (by omega) (by omega) (by omega) (by omega) (by omega), w_eq, u_eq]
      · rw [r4 j (by omega) h2, w_eq, u_ne c]
    · simp (disch := omega) only [w_eq, u_ne] at r5; exact r5
theorem m_n160 {n r H x : Nat} (hn : 20000 ≤ n) (hr : aln r = 211) (hr2 : r ≠ 251) (hH : H ≤ 6) (hx : x < H) (sl : Int32) : ∀ (d f k : Nat) (g : Mm), k + d = H → d < f → g.1 251 27 = zN H →
    ∃ g', X12_goNight_160 n r f (zN x) sl (zN k) g = some (sl, g') ∧ (∀ i, i ≠ r → g'.1 i = g.1 i) ∧ g'.2 = g.2 ∧ (∀ j, 18 ≤ j → j < 22 → g'.1 r j = lessI (g.1 r j) 1) ∧
      (g'.1 r 23 = zN ((x + 1) % H) ∧ g'.1 r 24 = zN 0 ∧ g'.1 r 25 = zN 0 ∧ g'.1 r 26 = zN 0 ∧ g'.1 r 29 = g.1 r 29 + zN 1 ∧ g'.1 r (3 * x + 2) = g.1 r (3 * x + 2) + zN 1) ∧ (∀ i, k ≤ i → i < H → g'.1 r (3 * i) = lessI (g.1 r (3 * i)) 6) ∧
      (∀ j, (j < 18 ∨ 22 ≤ j) → j ≠ 23 → j ≠ 24 → j ≠ 25 → j ≠ 26 → j ≠ 29 → j ≠ 3 * x + 2 → (∀ i, k ≤ i → i < H → j ≠ 3 * i) → g'.1 r j = g.1 r j) := by
  intro d
  induction d with
  | zero =>
    intro f k g hk hf e
    obtain ⟨f, rfl⟩ : ∃ m, f = m + 1 := ⟨f - 1, by omega⟩
    unfold X12_goNight_160
    simp (disch := omega) only [zN_lit, zN_add, zN_mul, bp_some, bd_some, w_eq, w_2, wl_1, u_eq, wr_eq, wr_2, Nat.reduceAdd, Nat.reduceMul, Nat.reduceSub, e, zN_le, if_pos (show H ≤ k by omega)]
    obtain ⟨g', r1, r2, r3, r4, r5, r6⟩ := m_n201 (n := n) hr hr2 hH hx sl 4 n 0 g (by omega) (by omega) e
    exact ⟨g', r1, r2, r3, fun j h1 h2 => r4 j (by omega) h2, r5, fun i h1 h2 => by omega, fun j h0 h1 h2 h3 h4 h5 h6 _ => r6 j (by omega) h1 h2 h3 h4 h5 h6⟩
  | succ d ih =>
    intro f k g hk hf e
    obtain ⟨f, rfl⟩ : ∃ m, f = m + 1 := ⟨f - 1, by omega⟩
    unfold X12_goNight_160
    simp (disch := omega) only [zN_lit, zN_add, zN_mul, bp_some, bd_some, w_eq, w_2, wl_1, u_eq, wr_eq, wr_2, Nat.reduceAdd, Nat.reduceMul, Nat.reduceSub, hr, e, zN_le, zN_inB, zN_ix, j_max, Nat.add_zero, if_neg (show ¬ H ≤ k by omega), if_pos (show 3 * k < 211 by omega)]
    obtain ⟨g', r1, r2, r3, r4, r5, r7, r6⟩ := ih f (k + 1) (wI g r (3 * k) (lessI (g.1 r (3 * k)) 6)) (by omega) (by omega) (by rw [w_ne (by omega)]; exact e)
    refine ⟨g', r1, fun i hi => by rw [r2 i hi, w_ne hi], by rw [r3]; rfl, fun j h1 h2 => by rw [r4 j h1 h2, w_eq, u_ne (by omega)], ?_, fun i h1 h2 => ?_, fun j h0 h1 h2 h3 h4 h5 h6 h7 => ?_⟩
    · simp (disch := omega) only [w_eq, u_ne] at r5; exact r5
    · by_cases c : i = k
      · subst c; rw [r6 _ (by omega) (by omega) (by omega) (by omega) (by omega) (by omega) (by omega) (fun i _ _ => by omega), w_eq, u_eq]
      · rw [r7 i (by omega) h2, w_eq, u_ne (by omega)]
    · have z := h7 k (by omega) (by omega)
      rw [r6 j h0 h1 h2 h3 h4 h5 h6 (fun i q1 q2 => h7 i (by omega) q2), w_eq, u_ne z]
set_option maxHeartbeats 4000000 in
theorem m_n79 {n r B H x c L : Nat} {nm : Nat → Nat} {h g : Mm} (hL : LandR B H nm (h.1 14) (h.1 15) (g.1 251) (g.1 256) (g.1 258) (g.1 260)) (hn : 20000 ≤ n) (hr : aln r = 211) (hr2 : 261 ≤ r) (hx : x < H) (sl : Int32) (eL : g.1 r 30 = zN L) (hl : L < 60) (ec : g.1 r 22 = zN c) (hc : c ≤ 99) :
    ∃ g', X12_goNight_79 n r (zN x) sl g = some (sl, g') ∧ (∀ i, i ≠ r → g'.1 i = g.1 i) ∧ g'.2 = g.2 ∧ (∀ j, 18 ≤ j → j < 22 → g'.1 r j = lessI (g.1 r j) 1) ∧
      (g'.1 r 22 = zN (ncalm nm c) ∧ g'.1 r 23 = zN ((x + 1) % H) ∧ g'.1 r 24 = zN 0 ∧ g'.1 r 25 = zN 0 ∧ g'.1 r 26 = zN 0 ∧ g'.1 r 27 = g.1 r 27 + sl ∧ g'.1 r 28 = g.1 r 28 + (zN (nm (21 + 3 * x)) - sl) ∧ g'.1 r 29 = g.1 r 29 + zN 1 ∧ g'.1 r 30 = zN (L + 1)) ∧
      (∀ i, i < H → g'.1 r (3 * i) = lessI (g.1 r (3 * i)) 6 ∧ g'.1 r (3 * i + 1) = g.1 r (3 * i + 1) ∧ g'.1 r (3 * i + 2) = if i = x then g.1 r (3 * i + 2) + zN 1 else g.1 r (3 * i + 2)) ∧
      (g'.1 r (31 + 3 * L) = zN x ∧ g'.1 r (31 + 3 * L + 1) = zN c ∧ g'.1 r (31 + 3 * L + 2) = sl) ∧ (∀ j, 31 ≤ j → j < 31 + 3 * L → g'.1 r j = g.1 r j) := by
  have hH := hL.2.1.2.1
  have e27 := hL.1.2.2.2
  have e60 := (hL.2.2.2.2.1 (3 * x) (by omega)).2
  unfold X12_goNight_79
  simp (disch := omega) only [zN_lit, zN_add, zN_mul, bp_some, bd_some, w_eq, w_2, wl_1, u_eq, wr_eq, wr_2, Nat.reduceAdd, Nat.reduceMul, Nat.reduceSub, al_2, al_5, al_6, al_8, al_10, al_11, al_12, al_14, al_15, al_18, al_19, al_20, al_21, al_22, al_23, al_24, al_25, al_28, al_29, al_30, al_31, al_33, al_34, al_35, al_36, al_39, al_41, al_42, al_43, al_44, al_45, al_247, al_248, al_250, al_252, al_253, al_254, al_255, al_256, al_257, al_258, al_259, al_260, al_261, al_262, al_263, al_264, al_265, al_266, al_267, al_268, al_269, al_270, al_271, al_272, al_273, al_1001, al_1002, al_1003, al_1004, al_1005, al_1006, al_1007, hr, zN_inB, zN_ix, eL, ec, e60, w_ne, u_ne, if_pos (show 30 < 211 by decide), if_pos (show 31 + 3 * L < 211 by omega), if_pos (show 22 < 211 by decide), if_pos (show 31 + 3 * L + 1 < 211 by omega), if_pos (show 31 + 3 * L + 2 < 211 by omega), if_pos (show 27 < 211 by decide), if_pos (show 28 < 211 by decide), if_pos (show 3 * x < 18 by omega)]
  generalize eW : wI (wI (wI (wI (wI (wI g r (31 + 3 * L) (zN x)) r (31 + 3 * L + 1) (zN c)) r (31 + 3 * L + 2) sl) r 30 (zN (L + 1))) r 27 (g.1 r 27 + sl)) r 28 (g.1 r 28 + (zN (nm (21 + 3 * x)) - sl)) = W
  have w1 : ∀ i, i ≠ r → W.1 i = g.1 i := fun i hi => by rw [← eW]; simp (disch := omega) only [w_ne]
  have hL' : LandR B H nm (h.1 14) (h.1 15) (W.1 251) (W.1 256) (W.1 258) (W.1 260) := hL.ag rfl rfl (by rw [w1 251 (by omega)]) (by rw [w1 251 (by omega)]) (w1 256 (by omega)) (w1 258 (by omega)) (w1 260 (by omega))
  rw [m_behind hL' hc, bp_some]
  obtain ⟨g', r1, r2, r3, r4, r5, r7, r6⟩ := m_n160 (n := n) hn hr (by omega) hH hx sl H n 0 (wI W r 22 (zN (ncalm nm c))) (by omega) (by omega) (by rw [w_ne (by omega), w1 251 (by omega)]; exact e27)
  have w2 : ∀ j, j < 27 ∨ j = 29 → W.1 r j = g.1 r j := fun j hj => by rw [← eW]; simp (disch := omega) only [w_eq, u_ne]
  have w3 : ∀ j, 31 ≤ j → j < 31 + 3 * L → W.1 r j = g.1 r j := fun j h1 h2 => by rw [← eW]; simp (disch := omega) only [w_eq, u_ne]
  refine ⟨g', r1, fun i hi => by rw [r2 i hi, w_ne hi, w1 i hi], by rw [r3, w_2, ← eW]; rfl, fun j h1 h2 => by rw [r4 j h1 h2, w_eq, u_ne (by omega), w2 j (by omega)], ⟨?_, r5.1, r5.2.1, r5.2.2.1, r5.2.2.2.1, ?_, ?_, ?_, ?_⟩, fun i hi => ⟨?_, ?_, ?_⟩, ⟨?_, ?_, ?_⟩, fun j h1 h2 => ?_⟩
  · rw [r6 22 (by omega) (by omega) (by omega) (by omega) (by omega) (by omega) (by omega) (fun i _ _ => by omega), w_eq, u_eq]
  · rw [r6 27 (by omega) (by omega) (by omega) (by omega) (by omega) (by omega) (by omega) (fun i _ _ => by omega), w_eq, u_ne (by omega), ← eW]; simp (disch := omega) only [w_eq, u_ne, u_eq]
  · rw [r6 28 (by omega) (by omega) (by omega) (by omega) (by omega) (by omega) (by omega) (fun i _ _ => by omega), w_eq, u_ne (by omega), ← eW]; simp (disch := omega) only [w_eq, u_ne, u_eq]
  · rw [r5.2.2.2.2.1, w_eq, u_ne (by omega), w2 29 (by omega)]
  · rw [r6 30 (by omega) (by omega) (by omega) (by omega) (by omega) (by omega) (by omega) (fun i _ _ => by omega), w_eq, u_ne (by omega), ← eW]; simp (disch := omega) only [w_eq, u_ne, u_eq]
  · rw [r7 i (by omega) hi, w_eq, u_ne (by omega), w2 _ (by omega)]
  · rw [r6 _ (by omega) (by omega) (by omega) (by omega) (by omega) (by omega) (by omega) (fun i _ _ => by omega), w_eq, u_ne (by omega), w2 _ (by omega)]
  · by_cases q : i = x
    · subst q; rw [if_pos rfl, r5.2.2.2.2.2, w_eq, u_ne (by omega), w2 _ (by omega)]
    · rw [if_neg q, r6 _ (by omega) (by omega) (by omega) (by omega) (by omega) (by omega) (by omega) (fun i _ _ => by omega), w_eq, u_ne (by omega), w2 _ (by omega)]
  · rw [r6 _ (by omega) (by omega) (by omega) (by omega) (by omega) (by omega) (by omega) (fun i _ _ => by omega), w_eq, u_ne (by omega), ← eW]; simp (disch := omega) only [w_eq, u_ne, u_eq]
  · rw [r6 _ (by omega) (by omega) (by omega) (by omega) (by omega) (by omega) (by omega) (fun i _ _ => by omega), w_eq, u_ne (by omega), ← eW]; simp (disch := omega) only [w_eq, u_ne, u_eq]
  · rw [r6 _ (by omega) (by omega) (by omega) (by omega) (by omega) (by omega) (by omega) (fun i _ _ => by omega), w_eq, u_ne (by omega), ← eW]; simp (disch := omega) only [w_eq, u_ne, u_eq]
  · rw [r6 j (by omega) (by omega) (by omega) (by omega) (by omega) (by omega) (by omega) (fun i _ _ => by omega), w_eq, u_ne (by omega), w3 j h1 h2]
theorem m_n41 {n r : Nat} (hr : aln r = 211) (x sl : Int32) : ∀ (d f k : Nat) (g : Mm), k + d = 178 → d < f → 1 ≤ k → g.1 r 30 = zN 60 →
    ∃ g', X12_goNight_41 n r f x sl (zN k) g = X12_goNight_79 n r x sl g' ∧ (∀ i, i ≠ r → g'.1 i = g.1 i) ∧ g'.2 = g.2 ∧ (∀ j, j < 30 → g'.1 r j = g.1 r j) ∧ g'.1 r 30 = zN 59 ∧ (∀ j, 30 + k ≤ j → j < 208 → g'.1 r j = g.1 r (j + 3)) ∧ (∀ j, 31 ≤ j → j < 30 + k → g'.1 r j = g.1 r j) := by
  intro d
  induction d with
  | zero =>
    intro f k g hk hf hk1 e
    obtain ⟨f, rfl⟩ : ∃ m, f = m + 1 := ⟨f - 1, by omega⟩
    unfold X12_goNight_41
    simp (disch := omega) only [zN_lit, zN_add, zN_mul, bp_some, bd_some, w_eq, w_2, wl_1, u_eq, wr_eq, wr_2, Nat.reduceAdd, Nat.reduceMul, Nat.reduceSub, hr, zN_lt, zN_inB, zN_ix, e, if_pos (show 177 < k by omega), if_pos (show 30 < 211 by decide)]
    exact ⟨_, rfl, fun i hi => by rw [w_ne hi], rfl, fun j hj => by rw [w_eq, u_ne (by omega)], by rw [w_eq, u_eq, zN_sub (by decide)], fun j h1 h2 => by omega, fun j h1 h2 => by rw [w_eq, u_ne (by omega)]⟩
  | succ d ih =>
    intro f k g hk hf hk1 e
    obtain ⟨f, rfl⟩ : ∃ m, f = m + 1 := ⟨f - 1, by omega⟩
    unfold X12_goNight_41
    simp (disch := omega) only [zN_lit, zN_add, zN_mul, bp_some, bd_some, w_eq, w_2, wl_1, u_eq, wr_eq, wr_2, Nat.reduceAdd, Nat.reduceMul, Nat.reduceSub, hr, zN_lt, zN_inB, zN_ix, if_neg (show ¬ 177 < k by omega), if_pos (show 30 + k + 3 < 211 by omega), if_pos (show 30 + k < 211 by omega)]
    obtain ⟨g', r1, r2, r3, r4, r5, r6, r7⟩ := ih f (k + 1) (wI g r (30 + k) (g.1 r (30 + k + 3))) (by omega) (by omega) (by omega) (by rw [w_eq, u_ne (by omega)]; exact e)
    refine ⟨g', r1, fun i hi => by rw [r2 i hi, w_ne hi], by rw [r3]; rfl, fun j hj => by rw [r4 j hj, w_eq, u_ne (by omega)], r5, fun j h1 h2 => ?_, fun j h1 h2 => by rw [r7 j h1 (by omega), w_eq, u_ne (by omega)]⟩
    by_cases c : j = 30 + k
    · subst c; rw [r7 _ (by omega) (by omega), w_eq, u_eq]
    · rw [r6 j (by omega) h2, w_eq, u_ne (by omega)]
/-- the model's NIGHT -/
theorem m_night {n r B H x c L : Nat} {nm : Nat → Nat} {h g : Mm} (hL : LandR B H nm (h.1 14) (h.1 15) (g.1 251) (g.1 256) (g.1 258) (g.1 260)) (hn : 20000 ≤ n) (hr : aln r = 211) (hr2 : 261 ≤ r) (hx : x < H) (ex : g.1 r 23 = zN x) (eL : g.1 r 30 = zN L) (hl : L ≤ 60) (ec : g.1 r 22 = zN c) (hc : c ≤ 99) :
    ∃ g' sl, sl = zN (if nm 1 ≤ c then nm (21 + 3 * x) else 0) ∧ X12_goNight n r g = some (sl, g') ∧ (∀ i, i ≠ r → g'.1 i = g.1 i) ∧ g'.2 = g.2 ∧ (∀ j, 18 ≤ j → j < 22 → g'.1 r j = lessI (g.1 r j) 1) ∧
      (g'.1 r 22 = zN (ncalm nm c) ∧ g'.1 r 23 = zN ((x + 1) % H) ∧ g'.1 r 24 = zN 0 ∧ g'.1 r 25 = zN 0 ∧ g'.1 r 26 = zN 0 ∧ g'.1 r 27 = g.1 r 27 + sl ∧ g'.1 r 28 = g.1 r 28 + (zN (nm (21 + 3 * x)) - sl) ∧ g'.1 r 29 = g.1 r 29 + zN 1) ∧
      (∀ i, i < H → g'.1 r (3 * i) = lessI (g.1 r (3 * i)) 6 ∧ g'.1 r (3 * i + 1) = g.1 r (3 * i + 1) ∧ g'.1 r (3 * i + 2) = if i = x then g.1 r (3 * i + 2) + zN 1 else g.1 r (3 * i + 2)) ∧
      (L < 60 → g'.1 r 30 = zN (L + 1) ∧ (g'.1 r (31 + 3 * L) = zN x ∧ g'.1 r (31 + 3 * L + 1) = zN c ∧ g'.1 r (31 + 3 * L + 2) = sl) ∧ ∀ j, 31 ≤ j → j < 31 + 3 * L → g'.1 r j = g.1 r j) ∧
      (L = 60 → g'.1 r 30 = zN 60 ∧ (g'.1 r 208 = zN x ∧ g'.1 r 209 = zN c ∧ g'.1 r 210 = sl) ∧ ∀ j, 31 ≤ j → j < 208 → g'.1 r j = g.1 r (j + 3)) := by
  have hH := hL.2.1.2.1
  have e60 := (hL.2.2.2.2.1 (3 * x) (by omega)).2
  have key : ∃ sl, sl = zN (if nm 1 ≤ c then nm (21 + 3 * x) else 0) ∧ X12_goNight n r g = X12_goNight_28 n r (zN x) sl g := by
    unfold X12_goNight
    simp (disch := omega) only [zN_lit, zN_add, zN_mul, bp_some, bd_some, w_eq, w_2, wl_1, u_eq, wr_eq, wr_2, Nat.reduceAdd, Nat.reduceMul, Nat.reduceSub, al_2, al_5, al_6, al_8, al_10, al_11, al_12, al_14, al_15, al_18, al_19, al_20, al_21, al_22, al_23, al_24, al_25, al_28, al_29, al_30, al_31, al_33, al_34, al_35, al_36, al_39, al_41, al_42, al_43, al_44, al_45, al_247, al_248, al_250, al_252, al_253, al_254, al_255, al_256, al_257, al_258, al_259, al_260, al_261, al_262, al_263, al_264, al_265, al_266, al_267, al_268, al_269, al_270, al_271, al_272, al_273, al_1001, al_1002, al_1003, al_1004, al_1005, al_1006, al_1007, hr, zN_inB, zN_ix, ex, ec, m_isEnough hL, e60, if_pos (show 23 < 211 by decide), if_pos (show 22 < 211 by decide), if_pos (show 3 * x < 18 by omega)]
    by_cases q : nm 1 ≤ c
    · rw [decide_eq_true q, if_pos rfl, if_pos q]; exact ⟨_, rfl, rfl⟩
    · rw [decide_eq_false q, if_neg q, if_neg (by decide)]; exact ⟨_, rfl, rfl⟩
  obtain ⟨sl, e1, e2⟩ := key
  refine Exists.elim (?_ : ∃ g', X12_goNight_28 n r (zN x) sl g = some (sl, g') ∧ _) (fun g' q => ⟨g', sl, e1, e2.trans q.1, q.2⟩)
  unfold X12_goNight_28
  simp (disch := omega) only [zN_lit, zN_add, zN_mul, bp_some, bd_some, w_eq, w_2, wl_1, u_eq, wr_eq, wr_2, Nat.reduceAdd, Nat.reduceMul, Nat.reduceSub, hr, zN_inB, zN_ix, eL, zN_eq, if_pos (show 30 < 211 by decide)]
  by_cases q : L = 60
  · subst q
    rw [if_pos rfl]
    obtain ⟨g1, r1, r2, r3, r4, r5, r6, r7⟩ := m_n41 (n := n) hr (zN x) sl 177 n 1 g (by omega) (by omega) (by omega) eL
    rw [r1]
    have hL' : LandR B H nm (h.1 14) (h.1 15) (g1.1 251) (g1.1 256) (g1.1 258) (g1.1 260) := hL.ag rfl rfl (by rw [r2 251 (by omega)]) (by rw [r2 251 (by omega)]) (r2 256 (by omega)) (r2 258 (by omega)) (r2 260 (by omega))
    obtain ⟨g', s1, s2, s3, s4, ⟨t1, t2, t3, t4, t5, t6, t7, t8, t9⟩, s6, s7, s8⟩ := m_n79 (n := n) (c := c) hL' hn hr hr2 hx sl r5 (by decide) (by rw [r4 22 (by omega)]; exact ec) hc
    refine ⟨g', s1, fun i hi => by rw [s2 i hi, r2 i hi], by rw [s3, r3], fun j h1 h2 => by rw [s4 j h1 h2, r4 j (by omega)], ⟨t1, t2, t3, t4, t5, by rw [t6, r4 27 (by omega)], by rw [t7, r4 28 (by omega)], by rw [t8, r4 29 (by omega)]⟩, fun i hi => ?_, fun z => absurd z (by decide), fun _ => ⟨t9, s7, fun j h1 h2 => by rw [s8 j h1 (by omega), r6 j (by omega) h2]⟩⟩
    have z := s6 i hi
    rw [r4 _ (by omega), r4 _ (by omega), r4 _ (by omega)] at z
    exact z
  · rw [if_neg q]
    obtain ⟨g', s1, s2, s3, s4, ⟨t1, t2, t3, t4, t5, t6, t7, t8, t9⟩, s6, s7, s8⟩ := m_n79 (n := n) (c := c) hL hn hr hr2 hx sl eL (by omega) ec hc
    exact ⟨g', s1, s2, s3, s4, ⟨t1, t2, t3, t4, t5, t6, t7, t8⟩, s6, fun _ => ⟨t9, s7, s8⟩, fun z => absurd z q⟩
