/-! a WEEK is kept -/
theorem m_t137 {n nw : Nat} {z4 : Int32} (hl : nw < 4) : ∀ (d q x : Nat) (g : Mm), x + d = 48 → d < q → g.1 251 30 = zN nw → g.1 263 4 = z4 → ∃ g', X12_text_137 n q (zN x) g = some (zN nw, g') ∧ (∀ i, i ≠ 251 → i ≠ 262 → i ≠ 263 → g'.1 i = g.1 i) ∧ (∀ k, k ≠ 30 → g'.1 251 k = g.1 251 k) ∧ g'.1 251 30 = zN (nw + 1) ∧ (∀ k, k < 48 * nw + x → g'.1 262 k = g.1 262 k) ∧ (∀ k, x ≤ k → k < 48 → g'.1 262 (48 * nw + k) = g.1 262 (192 + k)) ∧ (∀ j, j ≠ nw → g'.1 263 j = g.1 263 j) ∧ g'.1 263 nw = z4 ∧ g'.2 = g.2 := by
  intro d
  induction d with
  | zero =>
    intro q x g hx hq h7 hb
    obtain ⟨q, rfl⟩ : ∃ m, q = m + 1 := ⟨q - 1, by omega⟩
    refine ⟨wI (wI g 263 nw z4) 251 30 (zN (nw + 1)), ?_, fun i h1 _ h3 => by rw [w_ne h1, w_ne h3], fun k hk => by rw [w_eq, u_ne hk, w_ne (by decide)], by rw [w_eq, u_eq], fun k _ => by rw [w_ne (by decide), w_ne (by decide)], fun k h1 h2 => by omega, fun j hj => by rw [w_ne (by decide), w_eq, u_ne hj], by rw [w_ne (by decide), w_eq, u_eq], rfl⟩
    rw [X12_text_137, if_pos (show (48 : Int32) ≤ zN x by rw [zN_lit, zN_le (by decide) (by omega)]; omega), if_pos (show inB (4 : Int32) (aln 263) by rw [al_263]; decide), h7, if_pos (show inB (zN nw) (aln 263) by rw [al_263, zN_inB (by omega)]; omega), zN_ix (by omega), show (4 : Int32).toNatClampNeg = 4 from rfl, hb, w_ne (show (251 : Nat) ≠ 263 by decide), h7, sN1, w_eq, u_eq, show zN (nw + 1) - (1 : Int32) = zN nw from zN_sub (show 1 ≤ nw + 1 by omega)]
  | succ d ih =>
    intro q x g hx hq h7 hb
    obtain ⟨q, rfl⟩ : ∃ m, q = m + 1 := ⟨q - 1, by omega⟩
    obtain ⟨g', a1, a2, a3, a4, a5, a6, a7, a8, a9⟩ := ih q (x + 1) (wI g 262 (48 * nw + x) (g.1 262 (192 + x))) (by omega) (by omega) (by rw [w_ne (by decide)]; exact h7) (by rw [w_ne (by decide)]; exact hb)
    refine ⟨g', ?_, fun i h1 h2 h3 => by rw [a2 i h1 h2 h3, w_ne h2], fun k hk => by rw [a3 k hk, w_ne (by decide)], a4, fun k hk => by rw [a5 k (by omega), w_eq, u_ne (by omega)], fun k h1 h2 => ?_, fun j hj => by rw [a7 j hj, w_ne (by decide)], a8, a9⟩
    · rw [X12_text_137, if_neg (show ¬ (48 : Int32) ≤ zN x by rw [zN_lit, zN_le (by decide) (by omega)]; omega), h7, show (192 : Int32) = zN 192 from rfl, show (48 : Int32) = zN 48 from rfl, zN_mul, zN_add, zN_add, if_pos (show inB (zN (192 + x)) (aln 262) by rw [al_262, zN_inB (by omega)]; omega), if_pos (show inB (zN (48 * nw + x)) (aln 262) by rw [al_262, zN_inB (by omega)]; omega), zN_ix (by omega), zN_ix (by omega), sN1]
      exact a1
    · by_cases c : k = x
      · subst c; rw [a5 _ (by omega), w_eq, u_eq]
      · rw [a6 k (by omega) h2, w_eq, u_ne (by omega)]
theorem c_kd {n nw z : Nat} (hl : nw < 4) (hz : z ≤ 16) : ∀ (d q x : Nat) (h : Mm), x + d = z → d < q → h.1 9 5 = zN nw → h.1 9 4 = zN z → ∃ h', X10_keepDraft_19 n q (zN x) h = some (zN nw, h') ∧ (∀ i, i ≠ 9 → i ≠ 11 → i ≠ 12 → h'.1 i = h.1 i) ∧ (∀ k, k ≠ 5 → h'.1 9 k = h.1 9 k) ∧ h'.1 9 5 = zN (nw + 1) ∧ (∀ k, k < 16 * nw + x → h'.1 11 k = h.1 11 k) ∧ (∀ k, x ≤ k → k < z → h'.1 11 (16 * nw + k) = h.1 10 k) ∧ (∀ j, j ≠ nw → h'.1 12 j = h.1 12 j) ∧ h'.1 12 nw = zN z ∧ h'.2 = h.2 := by
  intro d
  induction d with
  | zero =>
    intro q x g hx hq h7 hb
    obtain ⟨q, rfl⟩ : ∃ m, q = m + 1 := ⟨q - 1, by omega⟩
    refine ⟨wI (wI g 12 nw (zN z)) 9 5 (zN (nw + 1)), ?_, fun i h1 _ h3 => by rw [w_ne h1, w_ne h3], fun k hk => by rw [w_eq, u_ne hk, w_ne (by decide)], by rw [w_eq, u_eq], fun k _ => by rw [w_ne (by decide), w_ne (by decide)], fun k h1 h2 => by omega, fun j hj => by rw [w_ne (by decide), w_eq, u_ne hj], by rw [w_ne (by decide), w_eq, u_eq], rfl⟩
    rw [X10_keepDraft_19, hb, if_pos ((zN_le (by omega) (by omega)).mpr (by omega)), h7, pu_12 hl, bd_some, w_ne (show (9 : Nat) ≠ 12 by decide), h7, sN1, w_eq, u_eq, show zN (nw + 1) - (1 : Int32) = zN nw from zN_sub (show 1 ≤ nw + 1 by omega)]
  | succ d ih =>
    intro q x g hx hq h7 hb
    obtain ⟨q, rfl⟩ : ∃ m, q = m + 1 := ⟨q - 1, by omega⟩
    obtain ⟨g', a1, a2, a3, a4, a5, a6, a7, a8, a9⟩ := ih q (x + 1) (wI g 11 (16 * nw + x) (g.1 10 x)) (by omega) (by omega) (by rw [w_ne (by decide)]; exact h7) (by rw [w_ne (by decide)]; exact hb)
    refine ⟨g', ?_, fun i h1 h2 h3 => by rw [a2 i h1 h2 h3, w_ne h2], fun k hk => by rw [a3 k hk, w_ne (by decide)], a4, fun k hk => by rw [a5 k (by omega), w_eq, u_ne (by omega)], fun k h1 h2 => ?_, fun j hj => by rw [a7 j hj, w_ne (by decide)], a8, a9⟩
    · rw [X10_keepDraft_19, hb, if_neg (fun z => by rw [zN_le (by omega) (by omega)] at z; omega), at_10 (by omega), bp_some, h7, show (16 : Int32) = zN 16 from rfl, zN_mul, zN_add, Nat.mul_comm nw 16, pu_11 (by omega), bd_some, sN1]
      exact a1
    · by_cases c : k = x
      · subst c; rw [a5 _ (by omega), w_eq, u_eq]
      · rw [a6 k (by omega) h2, w_ne (by decide)]
theorem m_tx2 {n : Nat} {g : Mm} : X12_text n (zN 2) g = if (wI g 251 0 0).1 251 30 = 4 then some (-1, wI g 251 0 0) else X12_text_43 n (zN 2) (wI g 251 0 0) := by
  unfold X12_text X12_text_30
  rw [m_in02, bp_some, decide_eq_true (show zN 0 ≤ zN 2 ∧ zN 2 ≤ zN 2 by decide), if_pos rfl, if_neg (show ¬ zN 2 = 1 by decide), if_pos (show zN 2 = 2 from rfl)]
theorem txt_week {n B H : Nat} {nm : Nat → Nat} {A nx : Nat} {E : Nat → Nat} {nw sn s : Nat} {tp : Nat → Nat} {nl : Nat} {hd : Int32} {f : Nat → F6} {h g : Mm} (hn : 20000 ≤ n) (hQ : RW n B H nm A nx E nw sn s tp nl hd f h g) : ∃ r h2 g2, X11_text n (zN 2) h = some (r, h2) ∧ (if g.1 251 30 = 4 then some ((-1 : Int32), g) else X12_text_43 n (zN 2) g) = some (r, g2) ∧ R n h2 g2 := by
  have hQ0 : RW n B H nm A nx E nw sn s tp nl hd f h (wI g 251 0 0) := hQ.pr AgC.rf (AgM.w rfl).pr
  have ht := hQ0.2.2.2.2.2.1
  have t1 := ht.1.1
  have l4 : nw ≤ 4 := hQ.2.2.2.1.1.1
  have g7 : g.1 251 30 = zN nw := hQ.2.2.2.1.1.2.2
  have h5 : h.1 9 5 = zN nw := hQ.2.2.2.1.1.2.1
  by_cases full : nw = 4
  · have em : (if g.1 251 30 = 4 then some ((-1 : Int32), g) else X12_text_43 n (zN 2) g) = some (-1, g) := by rw [g7, full, if_pos (show zN 4 = 4 from rfl)]
    rcases ent_week hn ht with ⟨h', g', Q, u1, u2, u3, u4, u5, u6, u7⟩ | ⟨h', g', z, u1, u2, u3, u4, u5, -⟩
    · exact ⟨-1, h', g, c_txf (by omega) (c_r2 u2), em, (hQ.pr u6 AgM.rf.pr).r⟩
    · refine ⟨-1, h', g, ?_, em, (hQ.pr u4 AgM.rf.pr).r⟩
      have e5 : h'.1 9 5 = zN 4 := by rw [u4.1 9 5 rfl, h5, full]
      unfold X11_text
      rw [if_neg (show ¬ zN 2 < 0 by decide), if_neg (show ¬ (2 : Int32) < zN 2 by decide), c_r2 u1, bd_some, if_pos rfl, if_neg (show ¬ zN 2 = 0 by decide), if_neg (show ¬ zN 2 = 1 by decide)]
      unfold X10_keepDraft
      rw [e5, if_neg (show ¬ zN 4 < 0 by decide), if_neg (show ¬ zN 4 < (4 : Int32) by decide), bd_some]
      rfl
  · have em : (if g.1 251 30 = 4 then some ((-1 : Int32), g) else X12_text_43 n (zN 2) g) = bd (X12_fault n (zN 2) g) (fun r38 h40 => (if r38 = (-1 : Int32) then X12_text_137 n n (0 : Int32) (wI h40 251 6 (0 : Int32)) else some (-1, h40))) := by
      rw [g7, if_neg (show ¬ zN nw = 4 by rw [zN_lit, zN_eq (by omega) (by decide)]; exact full)]
      unfold X12_text_43
      congr 1
    rw [em, m_fl2]
    rcases ent_week hn ht with ⟨h', g', Q, u1, u2, u3, u4, u5, u6, u7⟩ | ⟨h', g', z, u1, u2, u3, u4, u5, z1, z2, z3, z4, z5⟩
    · exact ⟨-1, h', g', c_txf (by omega) (c_r2 u2), by rw [u3, bd_some, bd_some, u5, if_neg (zN_nm1 (by omega))], (hQ0.pr u6 u7).r⟩
    · have hQ' := hQ0.pr u4 u5
      have nw4 : nw < 4 := by omega
      obtain ⟨hL', hP', hI', hW', hS', hT', hC', hM', hu'⟩ := id hQ'
      obtain ⟨⟨b1, b2, b3⟩, b4⟩ := id hW'
      obtain ⟨g2, a1, a2, a3, a4, a5, a6, a7, a8, a9⟩ := m_t137 (n := n) (z4 := zN z) nw4 48 n 0 (wI g' 251 6 0) (by omega) (by omega) (by rw [w_eq, u_ne (by decide)]; exact b3) (by rw [w_ne (by decide)]; exact z4)
      obtain ⟨h3, d1, d2, d3, d4, d5, d6, d7, d8, d9⟩ := c_kd (n := n) nw4 z2 z n 0 h' (by omega) (by omega) b2 z3
      have ek : X11_text n (zN 2) h = some (zN nw, wI h3 1 1 0) := by
        unfold X11_text
        rw [if_neg (show ¬ zN 2 < 0 by decide), if_neg (show ¬ (2 : Int32) < zN 2 by decide), c_r2 u1, bd_some, if_pos rfl, if_neg (show ¬ zN 2 = 0 by decide), if_neg (show ¬ zN 2 = 1 by decide)]
        unfold X10_keepDraft
        rw [b2, if_neg (show ¬ zN nw < 0 from zN_neg0 (by omega)), if_pos (show zN nw < 4 by rw [zN_lit, zN_lt (by omega) (by decide)]; exact nw4), show (0 : Int32) = zN 0 from rfl, d1, bd_some]
        refine c_cut (by omega) t1 ?_
        rw [d2 1 (by decide) (by decide) (by decide)]; exact hT'.1.2.1
      have e137 : X12_text_137 n n 0 (wI g' 251 6 0) = some (zN nw, g2) := a1
      refine ⟨zN nw, _, g2, ek, by rw [u2, bd_some, bd_some, u3, if_pos rfl]; exact e137, ?_⟩
      have nT : TapeR 0 tp ((wI h3 1 1 0).1 1) ((wI h3 1 1 0).1 2) (g2.1 251) (g2.1 252) :=
        ⟨⟨Nat.zero_le _, by rw [w_eq, u_eq]; rfl, by rw [a3 6 (by decide), w_eq, u_eq]; rfl⟩, fun k hk => absurd hk (Nat.not_lt_zero k)⟩
      refine (hQ'.tx (nw' := nw + 1) (s' := 0) (tp' := tp) (nl' := nl) (f' := f) (fun i y1 y2 y3 y4 _ _ => by rw [w_ne y1, d2 i y2 y3 y4]) (fun i y1 _ _ y2 y3 => by rw [a2 i y1 y2 y3, w_ne y1]) (fun k y1 _ y2 => by rw [a3 k y2, w_eq, u_ne y1]) ?_ nT ?_ ?_).r
      · refine ⟨⟨by omega, by rw [w_ne (by decide)]; exact d4, a4⟩, fun j hj => ?_⟩
        rw [w_ne (by decide), w_ne (by decide)]
        by_cases cj : j = nw
        · subst cj
          refine ⟨z, z1, z2, d8, a8, fun i hi => ?_⟩
          rw [d6 i (by omega) hi, show 3 * (16 * j + i) = 48 * j + 3 * i by omega, a6 (3 * i) (by omega) (by omega), show 48 * j + 3 * i + 1 = 48 * j + (3 * i + 1) by omega, a6 (3 * i + 1) (by omega) (by omega), show 48 * j + 3 * i + 2 = 48 * j + (3 * i + 2) by omega, a6 (3 * i + 2) (by omega) (by omega), w_ne (by decide)]
          exact z5 i hi
        · obtain ⟨y, y1, y2, y3, y4, y5⟩ := b4 j (by omega)
          refine ⟨y, y1, y2, by rw [d7 j cj]; exact y3, by rw [a7 j cj, w_ne (by decide)]; exact y4, fun i hi => ?_⟩
          rw [d5 _ (by omega), a5 _ (by omega), a5 _ (by omega), a5 _ (by omega), w_ne (by decide)]
          exact y5 i hi
      · exact hC'.cg (by rw [w_ne (by decide), d2 16 (by decide) (by decide) (by decide)]) (by rw [w_ne (by decide), d2 16 (by decide) (by decide) (by decide)]) (fun i h1 h2 => by rw [w_ne (by omega), d2 i (by omega) (by omega) (by omega)]) (by show h3.2 25 = _; rw [d9])
      · exact hM'.cg (by rw [a3 7 (by decide), w_eq, u_ne (by decide)]) (by rw [a3 34 (by decide), w_eq, u_ne (by decide)]) (by rw [a2 253 (by decide) (by decide) (by decide), w_ne (by decide)]) (by rw [a2 254 (by decide) (by decide) (by decide), w_ne (by decide)]) (by rw [a9]; rfl) (by rw [a2 267 (by decide) (by decide) (by decide), w_ne (by decide)])
