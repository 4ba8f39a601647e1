/-! a text is kept: a LAW, a WEEK -/
theorem EvC.cg {n j : Nat} {row row' : Nat → Int32} {sz : Int32} {f : F6} (q : EvC n j row sz f) (e : ∀ k, k < 240 → row' k = row k) : EvC n j row' sz f := fun h h1 h2 h3 h4 => q h (fun k hk => (h1 k hk).trans (e k hk)) h2 h3 h4
theorem EvM.cg {n j : Nat} {tx tx' : Nat → Int32} {ln : Int32} {f : F6} (q : EvM n j tx ln f) (e : ∀ k, k < 240 → tx' k = tx k) : EvM n j tx' ln f := fun g g1 g2 => q g (fun k hk => (g1 k hk).trans (e k hk)) g2
theorem AgM.pr {g g' : Mm} (z : AgM g g') : PrM g g' := ⟨fun i k q _ _ => z.1 i k q, fun k _ => z.1 262 k rfl, fun k _ => z.1 263 k rfl, z.2⟩
theorem RW.tx {n B H : Nat} {nm : Nat → Nat} {A nx : Nat} {E : Nat → Nat} {nw sn s nw' s' nl' : Nat} {tp tp' : Nat → Nat} {nl : Nat} {hd : Int32} {f f' : Nat → F6} {h g h' g' : Mm} (q : RW n B H nm A nx E nw sn s tp nl hd f h g) (c1 : ∀ i, i ≠ 1 → i ≠ 9 → i ≠ 11 → i ≠ 12 → i ≠ 16 → (i < 18 ∨ 22 < i) → h'.1 i = h.1 i) (m1 : ∀ i, i ≠ 251 → i ≠ 253 → i ≠ 254 → i ≠ 262 → i ≠ 263 → g'.1 i = g.1 i) (m2 : ∀ k, k ≠ 6 → k ≠ 7 → k ≠ 30 → g'.1 251 k = g.1 251 k) (hW' : WeekR nw' (h'.1 9) (h'.1 11) (h'.1 12) (g'.1 251) (g'.1 262) (g'.1 263)) (hT' : TapeR s' tp' (h'.1 1) (h'.1 2) (g'.1 251) (g'.1 252)) (hC' : LawC n nl' hd f' h') (hM' : LawM n nl' hd f' g') : RW n B H nm A nx E nw' sn s' tp' nl' hd f' h' g' := by
  obtain ⟨hL, hP, hI, hW, hS, hT, hC, hM, hu⟩ := q
  have ci : ∀ i, i ≠ 1 ∧ i ≠ 9 ∧ i ≠ 11 ∧ i ≠ 12 ∧ i ≠ 16 ∧ (i < 18 ∨ 22 < i) → h'.1 i = h.1 i := fun i z => c1 i z.1 z.2.1 z.2.2.1 z.2.2.2.1 z.2.2.2.2.1 z.2.2.2.2.2
  have mi : ∀ i, i ≠ 251 ∧ i ≠ 253 ∧ i ≠ 254 ∧ i ≠ 262 ∧ i ≠ 263 → g'.1 i = g.1 i := fun i z => m1 i z.1 z.2.1 z.2.2.1 z.2.2.2.1 z.2.2.2.2
  have mk' : ∀ k, k ≠ 6 ∧ k ≠ 7 ∧ k ≠ 30 → g'.1 251 k = g.1 251 k := fun k z => m2 k z.1 z.2.1 z.2.2
  refine ⟨hL.ag (ci 14 (by decide)) (ci 15 (by decide)) (mk' 26 (by decide)) (mk' 27 (by decide)) (mi 256 (by decide)) (mi 258 (by decide)) (mi 260 (by decide)), hP.ag (fun i h1 h2 => ci i (by omega)) (fun i h1 h2 => ci i (by omega)) (ci 39 (by decide)) (by rw [ci 37 (by decide)]) (by rw [ci 37 (by decide)]) (mk' 39 (by decide)) (mi 264 (by decide)) (mi 268 (by decide)), hI.ag (fun i h1 h2 => ci i (by omega)) (by rw [ci 37 (by decide)]) (mk' 50 (by decide)) (mi 272 (by decide)), hW', hS.ag (by rw [ci 249 (by decide)]) (ci 250 (by decide)) (mk' 47 (by decide)) (mi 270 (by decide)), hT', hC', hM', ?_⟩
  rw [ci 0 (by decide), mk' 35 (by decide)]; exact hu
theorem m_t71 {n s nl : Nat} (hs : s ≤ 240) (hl : nl < 4) : ∀ (d q x : Nat) (g : Mm), x + d = s → d < q → g.1 251 7 = zN nl → (∀ k, k < s → vp_nar .byte (g.1 252 k) = g.1 252 k) → ∃ g', X12_text_71 n q (zN s) (zN x) g = some (zN nl, g') ∧ (∀ i, i ≠ 251 → i ≠ 253 → i ≠ 254 → g'.1 i = g.1 i) ∧ (∀ k, k ≠ 7 → g'.1 251 k = g.1 251 k) ∧ g'.1 251 7 = zN (nl + 1) ∧ (∀ k, k < 240 * nl + x → g'.1 253 k = g.1 253 k) ∧ (∀ k, x ≤ k → k < s → g'.1 253 (240 * nl + k) = g.1 252 k) ∧ (∀ j, j ≠ nl → g'.1 254 j = g.1 254 j) ∧ g'.1 254 nl = zN s ∧ g'.2 = g.2 := by
  intro d
  induction d with
  | zero =>
    intro q x g hx hq h7 hb
    obtain ⟨q, rfl⟩ : ∃ m, q = m + 1 := ⟨q - 1, by omega⟩
    refine ⟨wI (wI g 254 nl (zN s)) 251 7 (zN (nl + 1)), ?_, fun i h1 _ h3 => by rw [w_ne h1, w_ne h3], fun k hk => by rw [w_eq, u_ne hk, w_ne (by decide)], by rw [w_eq, u_eq], fun k _ => by rw [w_ne (by decide), w_ne (by decide)], fun k h1 h2 => by omega, fun j hj => by rw [w_ne (by decide), w_eq, u_ne hj], by rw [w_ne (by decide), w_eq, u_eq], rfl⟩
    rw [X12_text_71, if_pos ((zN_le (by omega) (by omega)).mpr (by omega)), h7, if_pos (show inB (zN nl) (aln 254) by rw [al_254, zN_inB (by omega)]; exact hl), zN_ix (by omega), w_ne (show (251 : Nat) ≠ 254 by decide), h7, sN1, w_eq, u_eq, show zN (nl + 1) - (1 : Int32) = zN nl from zN_sub (show 1 ≤ nl + 1 by omega)]
  | succ d ih =>
    intro q x g hx hq h7 hb
    obtain ⟨q, rfl⟩ : ∃ m, q = m + 1 := ⟨q - 1, by omega⟩
    obtain ⟨g', a1, a2, a3, a4, a5, a6, a7, a8, a9⟩ := ih q (x + 1) (wI g 253 (240 * nl + x) (g.1 252 x)) (by omega) (by omega) (by rw [w_ne (by decide)]; exact h7) (fun k hk => by rw [w_ne (by decide)]; exact hb k hk)
    refine ⟨g', ?_, fun i h1 h2 h3 => by rw [a2 i h1 h2 h3, w_ne h2], fun k hk => by rw [a3 k hk, w_ne (by decide)], a4, fun k hk => by rw [a5 k (by omega), w_eq, u_ne (by omega)], fun k h1 h2 => ?_, fun j hj => by rw [a7 j hj, w_ne (by decide)], a8, a9⟩
    · rw [X12_text_71, if_neg (fun z => by rw [zN_le (by omega) (by omega)] at z; omega), if_pos (show inB (zN x) (aln 252) by rw [al_252, zN_inB (by omega)]; omega), h7, show (240 : Int32) = zN 240 from rfl, zN_mul, zN_add, if_pos (show inB (zN (240 * nl + x)) (aln 253) by rw [al_253, zN_inB (by omega)]; omega), zN_ix (by omega), zN_ix (by omega), hb x (by omega), sN1]
      exact a1
    · by_cases c : k = x
      · subst c; rw [a5 _ (by omega), w_eq, u_eq]
      · rw [a6 k (by omega) h2, w_ne (by decide)]
theorem m_tx1 {n : Nat} {g : Mm} : X12_text n (zN 1) g = if (wI g 251 0 0).1 251 7 = 4 then some (-1, wI g 251 0 0) else X12_text_43 n (zN 1) (wI g 251 0 0) := by
  unfold X12_text X12_text_30
  rw [m_in02, bp_some, decide_eq_true (show zN 0 ≤ zN 1 ∧ zN 1 ≤ zN 2 by decide), if_pos rfl, if_pos (show zN 1 = 1 from rfl), if_neg (show ¬ zN 1 = 2 by decide)]
theorem c_txf {n k : Nat} {h h' : Mm} (hk : k ≤ 2) (e : X11_isRight n (zN k) h = some (false, h')) : X11_text n (zN k) h = some (-1, h') := by
  unfold X11_text
  rw [if_neg (show ¬ zN k < 0 from zN_neg0 (by omega)), if_neg (show ¬ (2 : Int32) < zN k by rw [zN_lit, zN_lt (by decide) (by omega)]; omega), e, bd_some, if_neg (show ¬ (false = true) by decide)]
theorem c_cut {n k s : Nat} {h : Mm} (hk : k < 1000) (hs : s ≤ 240) (h1 : h.1 1 1 = zN s) : X11_text_56 n (zN k) h = some (zN k, wI h 1 1 0) := by
  unfold X11_text_56 X11_text_71 X7_cutTo
  rw [if_neg (zN_nm1 (by omega)), if_neg (show ¬ (0 : Int32) < 0 by decide), h1, if_pos (show (0 : Int32) ≤ zN s by rw [show (0 : Int32) = zN 0 from rfl, zN_le (by decide) (by omega)]; omega), bd_some]
theorem txt_law {n B H : Nat} {nm : Nat → Nat} {A nx : Nat} {E : Nat → Nat} {nw sn s : Nat} {tp : Nat → Nat} {nl : Nat} {hd : Int32} {f : Nat → F6} {h g : Mm} (hn : 20000 ≤ n) (hQ : RW n B H nm A nx E nw sn s tp nl hd f h g) : ∃ r h2 g2, X11_text n (zN 1) h = some (r, h2) ∧ (if g.1 251 7 = 4 then some ((-1 : Int32), g) else X12_text_43 n (zN 1) g) = some (r, g2) ∧ R n h2 g2 := by
  have hQ0 : RW n B H nm A nx E nw sn s tp nl hd f h (wI g 251 0 0) := hQ.pr AgC.rf (AgM.w rfl).pr
  have ht := hQ0.2.2.2.2.2.1
  have t1 := ht.1.1
  have l4 : nl ≤ 4 := hQ.2.2.2.2.2.2.1.1.1
  have g7 : g.1 251 7 = zN nl := hQ.2.2.2.2.2.2.2.1.1.2.1
  have h5 : h.1 16 5 = zN nl := hQ.2.2.2.2.2.2.1.1.2.1
  by_cases full : nl = 4
  · have em : (if g.1 251 7 = 4 then some ((-1 : Int32), g) else X12_text_43 n (zN 1) g) = some (-1, g) := by rw [g7, full, if_pos (show zN 4 = 4 from rfl)]
    rcases ent_law hn ht with ⟨h', g', Q, u1, u2, u3, u4, u5, u6, u7⟩ | ⟨h', g', c, ff, u1, u2, u3, u4, u5, -⟩
    · exact ⟨-1, h', g, c_txf (by omega) (c_r1 u2), em, (hQ.pr u6 AgM.rf.pr).r⟩
    · refine ⟨-1, h', g, ?_, em, (hQ.pr u4 AgM.rf.pr).r⟩
      have e5 : h'.1 16 5 = zN 4 := by rw [u4.1 16 5 rfl, h5, full]
      unfold X11_text
      rw [if_neg (show ¬ zN 1 < 0 by decide), if_neg (show ¬ (2 : Int32) < zN 1 by decide), c_r1 u1, bd_some, if_pos rfl, if_neg (show ¬ zN 1 = 0 by decide), if_pos (show zN 1 = 1 from rfl)]
      unfold X4_keep
      rw [e5, if_neg (show ¬ zN 4 < 0 by decide), if_pos (show (4 : Int32) ≤ zN 4 by decide), bd_some]
      rfl
  · have em : (if g.1 251 7 = 4 then some ((-1 : Int32), g) else X12_text_43 n (zN 1) g) = bd (X12_fault n (zN 1) g) (fun r38 h40 => (if r38 = (-1 : Int32) then X12_text_71 n n (h40.1 251 6) (0 : Int32) (wI h40 251 6 (0 : Int32)) else some (-1, h40))) := by
      rw [g7, if_neg (show ¬ zN nl = 4 by rw [zN_lit, zN_eq (by omega) (by decide)]; exact full)]
      unfold X12_text_43
      congr 1
    rw [em, m_fl1]
    rcases ent_law hn ht with ⟨h', g', Q, u1, u2, u3, u4, u5, u6, u7⟩ | ⟨h', g', c, ff, u1, u2, u3, u4, u5, u6, u7, u8⟩
    · exact ⟨-1, h', g', c_txf (by omega) (c_r1 u2), by rw [u3, bd_some, bd_some, u5, if_neg (zN_nm1 (by omega))], (hQ0.pr u6 u7).r⟩
    · have hQ' := hQ0.pr u4 u5
      have nl4 : nl < 4 := by omega
      obtain ⟨hL', hP', hI', hW', hS', hT', hC', hM', hu'⟩ := id hQ'
      have e5 : h'.1 16 5 = zN nl := hC'.1.2.1
      have e7 : g'.1 251 7 = zN nl := hM'.1.2.1
      have e6 : g'.1 251 6 = zN s := hT'.1.2.2
      have hb : ∀ k, k < s → vp_nar .byte ((wI g' 251 6 0).1 252 k) = (wI g' 251 6 0).1 252 k := fun k hk => by
        rw [w_ne (by decide), (hT'.2 k hk).2.2.2]
        exact narb_k _ (by have := (hT'.2 k hk).2.1; omega)
      obtain ⟨g2, a1, a2, a3, a4, a5, a6, a7, a8, a9⟩ := m_t71 (n := n) t1 nl4 s n 0 (wI g' 251 6 0) (by omega) (by omega) (by rw [w_eq, u_ne (by decide)]; exact e7) hb
      have ar : aln (18 + nl) = 240 := aln_row (by omega) (by omega)
      have ek : X11_text n (zN 1) h = some (zN nl, wI (wI (wI (wR h' (18 + nl) (fun k => if k < 240 then h'.1 8 k else h'.1 (18 + nl) k)) 22 nl (zN c)) 16 5 (zN (nl + 1))) 1 1 0) := by
        unfold X11_text
        rw [if_neg (show ¬ zN 1 < 0 by decide), if_neg (show ¬ (2 : Int32) < zN 1 by decide), c_r1 u1, bd_some, if_pos rfl, if_neg (show ¬ zN 1 = 0 by decide), if_pos (show zN 1 = 1 from rfl)]
        unfold X4_keep
        rw [e5, if_neg (show ¬ zN nl < 0 from zN_neg0 (by omega)), if_neg (show ¬ (4 : Int32) ≤ zN nl by rw [zN_lit, zN_le (by decide) (by omega)]; omega), if_pos (show zN nl < 4 by rw [zN_lit, zN_lt (by omega) (by decide)]; exact nl4), if_pos (show inB (zN nl) 4 from (zN_inB (by omega)).mpr nl4), zN_ix (by omega), c_copy al_8 ar (by decide), bd_some, wr_ne (show (16 : Nat) ≠ 18 + nl by omega), e5, wr_ne (show (7 : Nat) ≠ 18 + nl by omega), u6, pu_22 nl4, bd_some, bd_some, w_ne (show (16 : Nat) ≠ 22 by decide), wr_ne (show (16 : Nat) ≠ 18 + nl by omega), e5, sN1, w_eq, u_eq, show zN (nl + 1) - (1 : Int32) = zN nl from zN_sub (show 1 ≤ nl + 1 by omega)]
        refine c_cut (by omega) t1 ?_
        rw [w_ne (by decide), w_ne (by decide), wr_ne (by omega)]; exact hT'.1.2.1
      have e71 : X12_text_71 n n (g'.1 251 6) 0 (wI g' 251 6 0) = some (zN nl, g2) := by rw [e6]; exact a1
      refine ⟨zN nl, _, g2, ek, by rw [u2, bd_some, bd_some, u3, if_pos rfl]; exact e71, ?_⟩
      have nT : TapeR 0 tp ((wI (wI (wI (wR h' (18 + nl) (fun k => if k < 240 then h'.1 8 k else h'.1 (18 + nl) k)) 22 nl (zN c)) 16 5 (zN (nl + 1))) 1 1 0).1 1) ((wI (wI (wI (wR h' (18 + nl) (fun k => if k < 240 then h'.1 8 k else h'.1 (18 + nl) k)) 22 nl (zN c)) 16 5 (zN (nl + 1))) 1 1 0).1 2) (g2.1 251) (g2.1 252) :=
        ⟨⟨Nat.zero_le _, by rw [w_eq, u_eq]; rfl, by rw [a3 6 (by decide), w_eq, u_eq]; rfl⟩, fun k hk => absurd hk (Nat.not_lt_zero k)⟩
      refine (hQ'.tx (nw' := nw) (s' := 0) (tp' := tp) (nl' := nl + 1) (f' := fun j => if j = nl then ff else f j) (fun i z1 _ _ _ z5 z6 => ?_) (fun i z1 z2 z3 _ _ => by rw [a2 i z1 z2 z3, w_ne z1]) (fun k z1 z2 _ => by rw [a3 k z2, w_eq, u_ne z1]) ?_ nT ?_ ?_).r
      · rw [w_ne z1, w_ne z5, w_ne (by omega), wr_ne (by omega)]
      · refine hW'.ag ?_ ?_ ?_ ?_ ?_ ?_
        · rw [w_ne (by decide), w_ne (by decide), w_ne (by decide), wr_ne (by omega)]
        · rw [w_ne (by decide), w_ne (by decide), w_ne (by decide), wr_ne (by omega)]
        · rw [w_ne (by decide), w_ne (by decide), w_ne (by decide), wr_ne (by omega)]
        · rw [a3 30 (by decide), w_eq, u_ne (by decide)]
        · rw [a2 262 (by decide) (by decide) (by decide), w_ne (by decide)]
        · rw [a2 263 (by decide) (by decide) (by decide), w_ne (by decide)]
      · obtain ⟨⟨b1, b2, b3, b4⟩, b5, b6⟩ := hC'
        refine ⟨⟨by omega, by rw [w_ne (by decide), w_eq, u_eq], by rw [w_ne (by decide), w_eq, u_ne (by decide), w_ne (by decide), wr_ne (by omega)]; exact b3, b4.imp id (fun ⟨j, j1, j2⟩ => ⟨j, by omega, j2⟩)⟩, fun j hj => ?_, fun k hk => ?_⟩
        · by_cases cj : j = nl
          · subst cj
            rw [w_ne (by omega), w_ne (by omega), w_ne (by omega), wr_eq, w_ne (by decide), w_ne (by decide), w_eq, u_eq]
            simp only [if_true]
            exact (u7 j nl4).cg (fun k hk => by rw [if_pos hk])
          · rw [w_ne (by omega), w_ne (by omega), w_ne (by omega), wr_ne (by omega), w_ne (by decide), w_ne (by decide), w_eq, u_ne cj, wr_ne (by omega)]
            simp only [if_neg cj]
            exact b5 j (by omega)
        · rcases b6 k hk with z | ⟨j, c', v, b, p, nn, t, j1, y1, y2, y3, y4, y5, y6, y7⟩
          · exact Or.inl z
          · refine Or.inr ⟨j, c', v, b, p, nn, t, by omega, y1, y2, y3, y4, y5, y6, ?_⟩
            simp only [if_neg (show ¬ j = nl by omega)]
            exact y7
      · obtain ⟨⟨b1, b2, b3, b4⟩, b5, b6⟩ := hM'
        have e2 : g2.2 266 = g'.2 266 := by rw [a9]; rfl
        refine ⟨⟨by omega, a4, by rw [a3 34 (by decide), w_eq, u_ne (by decide)]; exact b3, b4.imp id (fun ⟨j, j1, j2⟩ => ⟨j, by omega, j2⟩)⟩, fun j hj => ?_, fun k hk => ?_⟩
        · by_cases cj : j = nl
          · subst cj
            rw [a8]
            simp only [if_true]
            refine u8 j _ nl4 (fun k hk => ?_)
            rw [a6 k (by omega) hk, w_ne (by decide), u5.1 252 k rfl (by decide) (by decide)]
          · rw [a7 j cj, w_ne (by decide)]
            simp only [if_neg cj]
            refine (b5 j (by omega)).cg (fun k hk => ?_)
            rw [a5 _ (by omega), w_ne (by decide)]
        · rw [e2, a2 267 (by decide) (by decide) (by decide), w_ne (by decide)]
          rcases b6 k hk with z | ⟨j, c', v, b, p, nn, t, j1, y1, y2, y3, y4, y5, y6, y7, y8⟩
          · exact Or.inl z
          · refine Or.inr ⟨j, c', v, b, p, nn, t, by omega, y1, y2, y3, y4, y5, y6, y7, ?_⟩
            simp only [if_neg (show ¬ j = nl by omega)]
            exact y8
