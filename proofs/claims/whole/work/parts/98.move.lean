/-! a LANDING is moved into -/
theorem gen_loop {α : Type} (F : Nat → Int32 → Mm → α) (K : Mm → α) (a N : Nat) (v : Mm → Nat → Int32) (hv : ∀ g f k, v (wR g a f) k = v g k) (st : ∀ q x g, x < N → F (q + 1) (zN x) g = F q (zN (x + 1)) (wI g a x (v g x))) (en : ∀ q g, F (q + 1) (zN N) g = K g) : ∀ (d q x : Nat) (g : Mm), x + d = N → d < q → F q (zN x) g = K (wR g a (fun k => if x ≤ k ∧ k < N then v g k else g.1 a k)) := by
  intro d
  induction d with
  | zero =>
    intro q x g hx hq
    obtain ⟨q, rfl⟩ : ∃ m, q = m + 1 := ⟨q - 1, by omega⟩
    have : x = N := by omega
    subst this
    rw [en, wR_id (fun k => by show (if x ≤ k ∧ k < x then v g k else g.1 a k) = g.1 a k; rw [if_neg (by omega)])]
  | succ d ih =>
    intro q x g hx hq
    obtain ⟨q, rfl⟩ : ∃ m, q = m + 1 := ⟨q - 1, by omega⟩
    have e : wI g a x (v g x) = wR g a (upd (g.1 a) x (v g x)) := rfl
    rw [st q x g (by omega), ih q (x + 1) _ (by omega) (by omega), w_eq]
    congr 1
    rw [e, wR_wR]
    congr 1
    funext k
    rw [hv]
    by_cases c : k = x
    · subst c; rw [if_neg (by omega), u_eq, if_pos (by omega)]
    · rw [u_ne c]
      by_cases c2 : x + 1 ≤ k ∧ k < N
      · rw [if_pos c2, if_pos (by omega)]
      · rw [if_neg c2, if_neg (by omega)]
theorem c_begin {n : Nat} {h : Mm} (hn : 20000 ≤ n) : ∃ h', X0_begin n 27 13 h = some ((), h') ∧ (∀ i, i < 27 ∨ 31 < i → h'.1 i = h.1 i) ∧ (∀ x, x < 6 → h'.1 30 x = h.1 15 (21 + (3 * x + 2)) ∧ h'.1 29 x = 0 ∧ h'.1 31 x = 0) ∧ (∀ k, k < 4 → h'.1 28 k = 0) ∧ h'.1 27 4 = h.1 15 0 ∧ (∀ k, 5 ≤ k → k ≤ 12 → h'.1 27 k = 0) ∧ h'.2 = h.2 := by
  unfold X0_begin
  have ee := gen_loop (X0_begin_2 n 27 13) (fun h => (bd (J7_fill_53178 n 29 (0 : Int32) h) (fun _ h41 => (bd (J7_fill_53178 n 31 (0 : Int32) h41) (fun _ h44 => (bd (J7_fill_53178 n 28 (0 : Int32) h44) (fun _ h47 => (bp (X1_calmAtFirst 13 h47) (fun r48 => (bd (X0_forgetEvening 27 (wI (wI (wI (wI (wI (wI h47 27 4 r48) 27 5 (0 : Int32)) 27 6 (0 : Int32)) 27 7 (0 : Int32)) 27 8 (0 : Int32)) 27 10 (0 : Int32))) (fun _ h52 => (some ((), h52))))))))))))) 30 6 (fun h x => h.1 15 (21 + (3 * x + 2))) (fun g f k => by show (wR g 30 f).1 15 _ = _; rw [wr_ne (by decide)]) (fun q x g hx => by
      rw [X0_begin_2, if_neg (show ¬ (6 : Int32) ≤ zN x by rw [zN_lit, zN_le (by decide) (by omega)]; omega)]
      unfold X1_firstVoiceOf
      rw [show X1_told 13 2 (zN x) 2 g = some (g.1 15 (21 + (3 * x + 2))) from c_told2 (k := 2) (by omega), bp_some, bp_some, show (27 : Nat) + 3 = 30 from rfl, pu_30 hx, bd_some, sN1]) (fun q g => by
      rw [X0_begin_2, if_pos (show (6 : Int32) ≤ zN 6 by decide)]) 6 n 0 h (by omega) (by omega)
  rw [show (0 : Int32) = zN 0 from rfl, ee]
  unfold X1_calmAtFirst X0_forgetEvening
  simp only [c_fill hn al_29 (by decide), c_fill hn al_31 (by decide), c_fill hn al_28 (by decide), bd_some]
  rw [show ∀ g : Mm, X1_told 13 0 0 0 g = some (g.1 15 0) from fun g => c_told0 (k := 0) (by omega), bp_some, bp_some]
  refine ⟨_, rfl, fun i hi => ?_, fun x hx => ⟨?_, ?_, ?_⟩, fun k hk => ?_, ?_, fun k k1 k2 => ?_, rfl⟩
  · simp (disch := omega) only [w_ne, wr_ne]
  · simp (disch := omega) only [w_ne, wr_ne, wr_eq]
    rw [if_pos (by omega)]
  · simp (disch := omega) only [w_ne, wr_ne, wr_eq]
    rw [if_pos (by omega)]; rfl
  · simp (disch := omega) only [w_ne, wr_ne, wr_eq]
    rw [if_pos (by omega)]; rfl
  · simp (disch := omega) only [w_ne, wr_ne, wr_eq]
    rw [if_pos (by omega)]; rfl
  · simp (disch := omega) only [w_eq, u_ne, u_eq, wr_ne]
  · rcases (show k = 5 ∨ k = 6 ∨ k = 7 ∨ k = 8 ∨ k = 9 ∨ k = 10 ∨ k = 11 ∨ k = 12 by omega) with rfl | rfl | rfl | rfl | rfl | rfl | rfl | rfl <;> (simp (disch := omega) only [w_eq, u_ne, u_eq]; rfl)
theorem c_move {n H : Nat} {h : Mm} (hn : 20000 ≤ n) (h5 : h.1 5 2 = zN H) : ∃ h', X11_moveIn n h = some (zN H, h') ∧ (∀ i, i ≠ 14 → i ≠ 15 → i ≠ 37 → i ≠ 249 → (i < 27 ∨ 31 < i) → h'.1 i = h.1 i) ∧ (∀ k, k < 3 → h'.1 14 k = h.1 5 k) ∧ (∀ k, k < 39 → h'.1 15 k = h.1 6 k) ∧ (∀ x, x < 6 → h'.1 30 x = h.1 6 (21 + (3 * x + 2)) ∧ h'.1 29 x = 0 ∧ h'.1 31 x = 0) ∧ (∀ k, k < 4 → h'.1 28 k = 0) ∧ h'.1 27 4 = h.1 6 0 ∧ (∀ k, 5 ≤ k → k ≤ 12 → h'.1 27 k = 0) ∧ (h'.1 37 5 = 0 ∧ h'.1 37 4 = 0 ∧ h'.1 37 6 = h.1 37 6 ∧ h'.1 249 4 = 0) ∧ h'.2 = h.2 := by
  unfold X11_moveIn X1_copyFrom X5_forget X1_houses
  rw [show (4 : Nat) + 1 = 5 from rfl, show (13 : Nat) + 1 = 14 from rfl, show (4 : Nat) + 2 = 6 from rfl, show (13 : Nat) + 2 = 15 from rfl, c_copy al_5 al_14 (by decide), bd_some, c_copy al_6 al_15 (by decide), bd_some, bd_some]
  obtain ⟨h1, b1, b2, b3, b4, b5, b6, b7⟩ := c_begin (n := n) (h := wR (wR h 14 (fun k => if k < 3 then h.1 5 k else h.1 14 k)) 15 (fun k => if k < 39 then (wR h 14 (fun k => if k < 3 then h.1 5 k else h.1 14 k)).1 6 k else (wR h 14 (fun k => if k < 3 then h.1 5 k else h.1 14 k)).1 15 k)) hn
  rw [b1, bd_some, bd_some, show (2 : Int32) = zN 2 from rfl, at_14 (by omega), bp_some, bp_some]
  have e14 : ∀ k, k < 3 → h1.1 14 k = h.1 5 k := fun k hk => by rw [b2 14 (by omega), wr_ne (by decide), wr_eq, if_pos hk]
  have e15 : ∀ k, k < 39 → h1.1 15 k = h.1 6 k := fun k hk => by rw [b2 15 (by omega), wr_eq, if_pos hk, wr_ne (by decide)]
  refine ⟨wI (wI (wI h1 37 5 0) 37 4 0) 249 4 0, ?_, fun i i1 i2 i3 i4 i5 => ?_, fun k hk => ?_, fun k hk => ?_, fun x hx => ?_, fun k hk => ?_, ?_, fun k k1 k2 => ?_, ⟨?_, ?_, ?_, ?_⟩, b7⟩
  · rw [w_ne (by decide), w_ne (by decide), w_ne (by decide), e14 2 (by omega), h5]
  · rw [w_ne i4, w_ne i3, w_ne i3, b2 i i5, wr_ne i2, wr_ne i1]
  · rw [w_ne (by decide), w_ne (by decide), w_ne (by decide)]; exact e14 k hk
  · rw [w_ne (by decide), w_ne (by decide), w_ne (by decide)]; exact e15 k hk
  · obtain ⟨y1, y2, y3⟩ := b3 x hx
    simp (disch := omega) only [w_ne]
    refine ⟨?_, y2, y3⟩
    rw [y1, wr_eq, if_pos (by omega), wr_ne (by decide)]
  · simp (disch := omega) only [w_ne]; exact b4 k hk
  · simp (disch := omega) only [w_ne]
    rw [b5, wr_eq, if_pos (by omega), wr_ne (by decide)]
  · simp (disch := omega) only [w_ne]; exact b6 k k1 k2
  · rw [w_ne (by decide), w_eq, u_ne (by decide), w_eq, u_eq]
  · rw [w_ne (by decide), w_eq, u_eq]
  · rw [w_ne (by decide), w_eq, u_ne (by decide), w_eq, u_ne (by decide), b2 37 (by omega), wr_ne (by decide), wr_ne (by decide)]
  · rw [w_eq, u_eq]
theorem m_322 {n H : Nat} (hH : H ≤ 6) : ∀ (d q x : Nat) (g : Mm), x + d = H → d < q → g.1 251 27 = zN H → ∃ g', X12_text_322 n q (zN x) g = some (zN H, g') ∧ (∀ i, i ≠ 251 → i ≠ 264 → g'.1 i = g.1 i) ∧ (∀ k, k ≠ 47 → k ≠ 39 → k ≠ 50 → g'.1 251 k = g.1 251 k) ∧ (g'.1 251 47 = 0 ∧ g'.1 251 39 = 0 ∧ g'.1 251 50 = 0) ∧ g'.1 264 22 = g.1 256 0 ∧ (∀ y, x ≤ y → y < H → g'.1 264 (3 * y + 1) = g.1 260 (3 * y + 2)) ∧ (∀ k, k ≠ 22 → (∀ y, x ≤ y → y < H → k ≠ 3 * y + 1) → g'.1 264 k = g.1 264 k) ∧ g'.2 = g.2 := by
  intro d
  induction d with
  | zero =>
    intro q x g hx hq h7
    obtain ⟨q, rfl⟩ : ∃ m, q = m + 1 := ⟨q - 1, by omega⟩
    refine ⟨wI (wI (wI (wI g 264 22 (g.1 256 0)) 251 47 0) 251 39 0) 251 50 0, ?_, fun i h1 h2 => by rw [w_ne h1, w_ne h1, w_ne h1, w_ne h2], fun k h1 h2 h3 => by rw [w_eq, u_ne h3, w_eq, u_ne h2, w_eq, u_ne h1, w_ne (by decide)], ⟨by rw [w_eq, u_ne (by decide), w_eq, u_ne (by decide), w_eq, u_eq], by rw [w_eq, u_ne (by decide), w_eq, u_eq], by rw [w_eq, u_eq]⟩, by rw [w_ne (by decide), w_ne (by decide), w_ne (by decide), w_eq, u_eq], fun y h1 h2 => by omega, fun k hk _ => by rw [w_ne (by decide), w_ne (by decide), w_ne (by decide), w_eq, u_ne hk], rfl⟩
    rw [X12_text_322, h7, if_pos ((zN_le (by omega) (by omega)).mpr (by omega)), if_pos (show inB (0 : Int32) (aln 256) by rw [al_256]; decide), if_pos (show inB (22 : Int32) (aln 264) by rw [al_264]; decide), show (0 : Int32).toNatClampNeg = 0 from rfl, show (22 : Int32).toNatClampNeg = 22 from rfl]
    congr 2
  | succ d ih =>
    intro q x g hx hq h7
    obtain ⟨q, rfl⟩ : ∃ m, q = m + 1 := ⟨q - 1, by omega⟩
    obtain ⟨g', a1, a2, a3, a4, a5, a6, a7, a8⟩ := ih q (x + 1) (wI g 264 (3 * x + 1) (g.1 260 (3 * x + 2))) (by omega) (by omega) (by rw [w_ne (by decide)]; exact h7)
    refine ⟨g', ?_, fun i h1 h2 => by rw [a2 i h1 h2, w_ne h2], fun k h1 h2 h3 => by rw [a3 k h1 h2 h3, w_ne (by decide)], a4, by rw [a5, w_ne (by decide)], fun y h1 h2 => ?_, fun k hk hy => ?_, a8⟩
    · rw [X12_text_322, h7, if_neg (fun z => by rw [zN_le (by omega) (by omega)] at z; omega), show (3 : Int32) = zN 3 from rfl, show (2 : Int32) = zN 2 from rfl, show (1 : Int32) = zN 1 from rfl, zN_mul, zN_add, zN_add, if_pos (show inB (zN (3 * x + 2)) (aln 260) by rw [al_260, zN_inB (by omega)]; omega), if_pos (show inB (zN (3 * x + 1)) (aln 264) by rw [al_264, zN_inB (by omega)]; omega), zN_ix (by omega), zN_ix (by omega), zN_add]
      exact a1
    · by_cases c : y = x
      · subst c; rw [a7 _ (by omega) (fun y2 y3 y4 => by omega), w_eq, u_eq]
      · rw [a6 y (by omega) h2, w_ne (by decide)]
    · rw [a7 k hk (fun y h1 h2 => hy y (by omega) h2), w_eq, u_ne (hy x (Nat.le_refl _) (by omega))]
theorem m_move {n H : Nat} {g : Mm} (hn : 20000 ≤ n) (hH : H ≤ 6) (h7 : g.1 251 27 = zN H) : ∃ g', X12_text_223 n n 0 g = some (zN H, g') ∧ (∀ i, i ≠ 251 → i ≠ 256 → i ≠ 258 → i ≠ 260 → i ≠ 264 → g'.1 i = g.1 i) ∧ (∀ k, k ≠ 47 → k ≠ 39 → k ≠ 50 → g'.1 251 k = g.1 251 k) ∧ (g'.1 251 47 = 0 ∧ g'.1 251 39 = 0 ∧ g'.1 251 50 = 0) ∧ (∀ k, k < 3 → g'.1 256 k = g.1 257 k) ∧ (∀ k, k < 18 → g'.1 258 k = g.1 259 k) ∧ (∀ k, k < 18 → g'.1 260 k = g.1 261 k) ∧ g'.1 264 22 = g.1 257 0 ∧ (∀ y, y < H → g'.1 264 (3 * y + 1) = g.1 261 (3 * y + 2)) ∧ (∀ k, k < 211 → k ≠ 22 → (∀ y, y < H → k ≠ 3 * y + 1) → g'.1 264 k = 0) ∧ g'.2 = g.2 := by
  have e1 := gen_loop (X12_text_223 n) (fun g => X12_text_248 n n 0 g) 256 3 (fun g k => g.1 257 k) (fun g f k => by show (wR g 256 f).1 257 k = _; rw [wr_ne (by decide)]) (fun q x g hx => by
    rw [X12_text_223, if_neg (show ¬ (3 : Int32) ≤ zN x by rw [zN_lit, zN_le (by decide) (by omega)]; omega), if_pos (show inB (zN x) (aln 257) by rw [al_257, zN_inB (by omega)]; exact hx), if_pos (show inB (zN x) (aln 256) by rw [al_256, zN_inB (by omega)]; exact hx), zN_ix (by omega), sN1]) (fun q g => by rw [X12_text_223, if_pos (show (3 : Int32) ≤ zN 3 by decide)]) 3 n 0 g (by omega) (by omega)
  have e2 := fun gg => gen_loop (X12_text_248 n) (fun g => X12_text_274 n n 0 g) 258 18 (fun g k => g.1 259 k) (fun g f k => by show (wR g 258 f).1 259 k = _; rw [wr_ne (by decide)]) (fun q x g hx => by
    rw [X12_text_248, if_neg (show ¬ (18 : Int32) ≤ zN x by rw [zN_lit, zN_le (by decide) (by omega)]; omega), if_pos (show inB (zN x) (aln 259) by rw [al_259, zN_inB (by omega)]; exact hx), if_pos (show inB (zN x) (aln 258) by rw [al_258, zN_inB (by omega)]; exact hx), zN_ix (by omega), sN1]) (fun q g => by rw [X12_text_248, if_pos (show (18 : Int32) ≤ zN 18 by decide)]) 18 n 0 gg (by omega) (by omega)
  have e3 := fun gg => gen_loop (X12_text_274 n) (fun g => X12_text_300 n n 0 g) 260 18 (fun g k => g.1 261 k) (fun g f k => by show (wR g 260 f).1 261 k = _; rw [wr_ne (by decide)]) (fun q x g hx => by
    rw [X12_text_274, if_neg (show ¬ (18 : Int32) ≤ zN x by rw [zN_lit, zN_le (by decide) (by omega)]; omega), if_pos (show inB (zN x) (aln 261) by rw [al_261, zN_inB (by omega)]; exact hx), if_pos (show inB (zN x) (aln 260) by rw [al_260, zN_inB (by omega)]; exact hx), zN_ix (by omega), sN1]) (fun q g => by rw [X12_text_274, if_pos (show (18 : Int32) ≤ zN 18 by decide)]) 18 n 0 gg (by omega) (by omega)
  have e4 := fun gg => gen_loop (X12_text_300 n) (fun g => X12_text_322 n n 0 g) 264 211 (fun _ _ => 0) (fun g f k => rfl) (fun q x g hx => by
    rw [X12_text_300, if_neg (show ¬ (211 : Int32) ≤ zN x by rw [zN_lit, zN_le (by decide) (by omega)]; omega), if_pos (show inB (zN x) (aln 264) by rw [al_264, zN_inB (by omega)]; exact hx), zN_ix (by omega), sN1]) (fun q g => by rw [X12_text_300, if_pos (show (211 : Int32) ≤ zN 211 by decide)]) 211 n 0 gg (by omega) (by omega)
  have z0 : (0 : Int32) = zN 0 := rfl
  simp only [z0] at e1 e2 e3 e4 ⊢
  simp only [e1, e2, e3, e4]
  generalize eG : wR (wR (wR (wR g 256 _) 258 _) 260 _) 264 _ = G
  obtain ⟨g', a1, a2, a3, a4, a5, a6, a7, a8⟩ := m_322 (n := n) hH H n 0 G (by omega) (by omega) (by rw [← eG]; simp (disch := omega) only [wr_ne]; exact h7)
  refine ⟨g', a1, fun i i1 i2 i3 i4 i5 => ?_, fun k k1 k2 k3 => ?_, a4, fun k hk => ?_, fun k hk => ?_, fun k hk => ?_, ?_, fun y hy => ?_, fun k hk k1 k2 => ?_, ?_⟩
  · rw [a2 i i1 i5, ← eG]; simp (disch := omega) only [wr_ne]
  · rw [a3 k k1 k2 k3, ← eG]; simp (disch := omega) only [wr_ne]
  · rw [a2 256 (by decide) (by decide), ← eG]; simp (disch := omega) only [wr_ne, wr_eq]; rw [if_pos (by omega)]
  · rw [a2 258 (by decide) (by decide), ← eG]; simp (disch := omega) only [wr_ne, wr_eq]; rw [if_pos (by omega)]
  · rw [a2 260 (by decide) (by decide), ← eG]; simp (disch := omega) only [wr_ne, wr_eq]; rw [if_pos (by omega)]
  · rw [a5, ← eG]; simp (disch := omega) only [wr_ne, wr_eq]; rw [if_pos (by omega)]
  · rw [a6 y (by omega) hy, ← eG]; simp (disch := omega) only [wr_ne, wr_eq]; rw [if_pos (by omega)]
  · rw [a7 k k1 (fun y _ h2 => k2 y h2), ← eG, wr_eq, if_pos (by omega)]
  · rw [a8, ← eG]; rfl
