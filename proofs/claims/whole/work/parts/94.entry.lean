/-! the three readings, from their beginnings -/
theorem wR_id {h : Mm} {a : Nat} {f : Nat → Int32} (q : ∀ k, f k = h.1 a k) : wR h a f = h := by
  apply Prod.ext
  · funext i
    by_cases c : i = a
    · subst c; rw [wr_eq]; exact funext q
    · rw [wr_ne c]
  · rfl
theorem mk_wR {h : Mm} {a p : Nat} {f : Nat → Int32} (ha : a ≠ 1) : wR (mk h p) a f = mk (wR h a f) p := by
  unfold mk
  apply Prod.ext
  · funext i
    by_cases c : i = a
    · subst c; rw [wr_eq, w_ne ha, wr_eq]
    · rw [wr_ne c]
      by_cases d : i = 1
      · subst d; rw [w_eq, w_eq, wr_ne c]
      · rw [w_ne d, w_ne d, wr_ne c]
  · rfl
theorem c_fill5 {n a N : Nat} {v : Int32} (hN : aln a = N) (h1 : N < 1000) : ∀ (d q j : Nat) (h : Mm), j + d = N → d < q → J7_fill_53178_5 n a q v (zN j) (zN N) h = some ((), wR h a (fun k => if j ≤ k ∧ k < N then v else h.1 a k)) := by
  intro d
  induction d with
  | zero =>
    intro q j h hj hq
    obtain ⟨q, rfl⟩ : ∃ m, q = m + 1 := ⟨q - 1, by omega⟩
    rw [J7_fill_53178_5, if_pos ((zN_le (by omega) (by omega)).mpr (by omega)), wR_id (fun k => by show (if j ≤ k ∧ k < N then v else h.1 a k) = h.1 a k; rw [if_neg (by omega)])]
  | succ d ih =>
    intro q j h hj hq
    obtain ⟨q, rfl⟩ : ∃ m, q = m + 1 := ⟨q - 1, by omega⟩
    rw [J7_fill_53178_5, if_neg (fun z => by rw [zN_le (by omega) (by omega)] at z; omega), if_pos (show inB (zN j) (aln a) by rw [hN, zN_inB (by omega)]; omega), zN_ix (by omega), sN1, ih q (j + 1) _ (by omega) (by omega)]
    have e : wI h a j v = wR h a (upd (h.1 a) j v) := rfl
    rw [w_eq, e, wR_wR]
    congr 3
    funext k
    by_cases c : k = j
    · subst c; rw [if_neg (by omega), u_eq, if_pos (by omega)]
    · rw [u_ne c]
      by_cases c2 : j + 1 ≤ k ∧ k < N
      · rw [if_pos c2, if_pos (by omega)]
      · rw [if_neg c2, if_neg (by omega)]
theorem c_fill {n a N : Nat} {v : Int32} {h : Mm} (hn : 20000 ≤ n) (hN : aln a = N) (h1 : N < 1000) : J7_fill_53178 n a v h = some ((), wR h a (fun k => if k < N then v else h.1 a k)) := by
  unfold J7_fill_53178
  rw [hN, show Int32.ofNat N = zN N from rfl, show (0 : Int32) = zN 0 from rfl, c_fill5 hN h1 N n 0 h (by omega) (by omega)]
  congr 3
  funext k
  by_cases c : k < N
  · rw [if_pos c, if_pos ⟨by omega, c⟩]
  · rw [if_neg c, if_neg (fun z => c z.2)]
theorem TapeR.ct {s : Nat} {tp : Nat → Nat} {h g : Mm} (q : TapeR s tp (h.1 1) (h.1 2) (g.1 251) (g.1 252)) : CT tp s h := ⟨q.1.1, q.1.2.1, fun k hk => ⟨(q.2 k hk).2.2.1, (q.2 k hk).1, (q.2 k hk).2.1⟩⟩
theorem TapeR.tx {s : Nat} {tp : Nat → Nat} {h g : Mm} (q : TapeR s tp (h.1 1) (h.1 2) (g.1 251) (g.1 252)) : ∀ k, k < s → g.1 252 k = (zN (tp k)).toInt8.toInt32 ∧ 1 ≤ tp k ∧ tp k ≤ 255 := fun k hk => ⟨(q.2 k hk).2.2.2, (q.2 k hk).1, (q.2 k hk).2.1⟩
theorem kp251_n {k : Nat} (z : kp251 k = true) : k = 6 ∨ k = 7 ∨ k = 26 ∨ k = 27 ∨ k = 30 ∨ k = 34 ∨ k = 35 ∨ k = 39 ∨ k = 47 ∨ k = 50 := by
  unfold kp251 at z
  simp only [Bool.or_eq_true, beq_iff_eq] at z
  omega
theorem FlC.ag {h h' : Mm} {Q : Nat} (q : FlC h h') : AgC h (mk h' Q) := by
  refine ⟨fun i k z => ?_, by show h'.2 25 = h.2 25; rw [q.2]⟩
  by_cases c : i = 1
  · subst c
    by_cases d : k = 2
    · subst d; cases z
    · rw [mk_k d, q.1 1 (by decide) (by decide)]
  · rw [mk_i c]
    by_cases c5 : i = 5
    · subst c5; cases (show kpC 5 k = false from rfl).symm.trans z
    by_cases c6 : i = 6
    · subst c6; cases (show kpC 6 k = false from rfl).symm.trans z
    rw [q.1 i c5 c6]
theorem FkC.ag {h h' : Mm} {Q : Nat} (q : FkC h h') : AgC h (mk h' Q) := by
  refine ⟨fun i k z => ?_, by show h'.2 25 = h.2 25; rw [q.2.2]⟩
  by_cases c : i = 1
  · subst c
    by_cases d : k = 2
    · subst d; cases z
    · rw [mk_k d, q.1 1 (by decide) (by decide)]
  · rw [mk_i c]
    by_cases c5 : i = 9
    · subst c5
      by_cases d : k = 4
      · subst d; cases z
      · rw [q.2.1 k d]
    by_cases c6 : i = 10
    · subst c6; cases (show kpC 10 k = false from rfl).symm.trans z
    rw [q.1 i c5 c6]
theorem st_ag {h : Mm} {Q k' : Nat} {O : Nat → Int32} : AgC h (stL h Q O k') := by
  refine ⟨fun i k z => ?_, rfl⟩
  unfold stL
  by_cases c : i = 1
  · subst c
    by_cases d : k = 2
    · subst d; cases z
    · rw [mk_k d, ob_i (by decide) (by decide)]
  · rw [mk_i c]
    by_cases c7 : i = 7
    · subst c7; cases (show kpC 7 k = false from rfl).symm.trans z
    by_cases c8 : i = 8
    · subst c8; cases (show kpC 8 k = false from rfl).symm.trans z
    rw [ob_i c7 c8]
theorem FlM.pr {g g' : Mm} {s a : Nat} {fl dp : Int32} (q : FlM (stM g s) g') : PrM g (ms g' a fl dp) := by
  refine ⟨fun i k z h2 h3 => ?_, fun k _ => by rw [ms_i (by decide), q.1 262 (by decide) (by decide) (by decide) (by decide), stM_i (by decide)], fun k _ => by rw [ms_i (by decide), q.1 263 (by decide) (by decide) (by decide) (by decide), stM_i (by decide)], by show g'.2 266 = g.2 266; rw [q.2.2]; rfl⟩
  by_cases c : i = 251
  · subst c
    have zz : kp251 k = true := by
      cases e : kp251 k with
      | true => rfl
      | false => exact absurd z (by unfold kpM; rw [e]; decide)
    have := kp251_n zz
    rw [ms_k (by omega) (by omega) (by omega), q.2.1 k (by omega) (by omega) (by omega), stM_k (by omega) (by omega) (by omega)]
  · by_cases c1 : i = 257
    · subst c1; cases (show kpM 257 k = false from rfl).symm.trans z
    by_cases c2 : i = 259
    · subst c2; cases (show kpM 259 k = false from rfl).symm.trans z
    by_cases c3 : i = 261
    · subst c3; cases (show kpM 261 k = false from rfl).symm.trans z
    rw [ms_i c, q.1 i c c1 c2 c3, stM_i c]
theorem FkM.pr {g g' : Mm} {s a : Nat} {fl dp : Int32} (q : FkM (stM g s) g') : PrM g (ms g' a fl dp) := by
  refine ⟨fun i k z h2 h3 => ?_, fun k hk => by rw [ms_i (by decide), q.2.1 k hk, stM_i (by decide)], fun k hk => by rw [ms_i (by decide), q.2.2.1 k hk, stM_i (by decide)], by show g'.2 266 = g.2 266; rw [q.2.2.2]; rfl⟩
  by_cases c : i = 251
  · subst c
    have zz : kp251 k = true := by
      cases e : kp251 k with
      | true => rfl
      | false => exact absurd z (by unfold kpM; rw [e]; decide)
    have := kp251_n zz
    rw [ms_k (by omega) (by omega) (by omega), q.1 251 (by decide) (by decide), stM_k (by omega) (by omega) (by omega)]
  · rw [ms_i c, q.1 i h2 h3, stM_i c]
theorem FrM.pr {g g' : Mm} (q : FrM g g') : PrM g g' := by
  refine ⟨fun i k z h2 h3 => ?_, fun k hk => by rw [q.1 262 (by decide)], fun k hk => by rw [q.1 263 (by decide)], by rw [q.2.2]⟩
  by_cases c : i = 251
  · subst c
    have zz : kp251 k = true := by
      cases e : kp251 k with
      | true => rfl
      | false => exact absurd z (by unfold kpM; rw [e]; decide)
    apply q.2.1 k
    rcases kp251_n zz with rfl | rfl | rfl | rfl | rfl | rfl | rfl | rfl | rfl | rfl <;> rfl
  · rw [q.1 i c]
theorem ent_land {n s : Nat} {tp : Nat → Nat} {h g : Mm} (hn : 20000 ≤ n) (ht : TapeR s tp (h.1 1) (h.1 2) (g.1 251) (g.1 252)) :
    (∃ h' g' Q, Q ≤ s ∧ X2_isRight n h = some (false, h') ∧ X12_readLanding n g = some ((), g') ∧ h'.1 1 2 = zN Q ∧ g'.1 251 11 = zN Q ∧ AgC h h' ∧ PrM g g') ∨
    (∃ h' g' cnt nm, X2_isRight n h = some (true, h') ∧ X12_readLanding n g = some ((), g') ∧ g'.1 251 11 = -1 ∧ AgC h h' ∧ PrM g g' ∧ DrR cnt nm h' g' ∧ 1 ≤ cnt 1 ∧ 1 ≤ cnt 2) := by
  obtain ⟨⟨t1, t2, t3⟩, t4⟩ := id ht
  have ct := ht.ct
  have mt0 : MT tp s 252 0 (stM g s) := stM_mt t1 ht.tx
  obtain ⟨k1, k2, k3', k4, k5, k6⟩ := kinds (k := 0) (by omega)
  have hc : ∃ h1, X1_clear n 4 (wI h 1 2 0) = some ((), mk h1 0) ∧ FlC h h1 ∧ (∀ k, k < 3 → h1.1 5 k = zN 0) ∧ (∀ j, j < 3 → h1.1 6 j = zN (usK 0 j)) := by
    refine ⟨wI (wI (wI (wR h 5 (fun k => if k < 3 then 0 else h.1 5 k)) 6 (ofK 0 + 3 * 0) (zN (usK 0 0))) 6 (ofK 0 + 3 * 0 + 1) (zN (usK 0 1))) 6 (ofK 0 + 3 * 0 + 2) (zN (usK 0 2)), ?_, ⟨fun i h5 h6 => by rw [w_ne h6, w_ne h6, w_ne h6, wr_ne h5], rfl⟩, fun k hk => ?_, fun j hj => ?_⟩
    · unfold X1_clear
      show bd (J7_fill_53178 n 5 0 (mk h 0)) _ = _
      rw [c_fill hn al_5 (by decide), bd_some, mk_i (by decide), mk_wR (by decide), show (0 : Int32) = zN 0 from rfl, c_fillU hn (by omega) (by omega) (by omega), bd_some, mk_wi (by decide), mk_wi (by decide), mk_wi (by decide)]
    · rw [w_ne (by decide), w_ne (by decide), w_ne (by decide), wr_eq, if_pos hk]; rfl
    · rcases (show j = 0 ∨ j = 1 ∨ j = 2 by omega) with rfl | rfl | rfl
      · rw [w_eq, u_ne (by decide), w_eq, u_ne (by decide), w_eq]; exact u_eq
      · rw [w_eq, u_ne (by decide), w_eq]; exact u_eq
      · rw [w_eq]; exact u_eq
  obtain ⟨h1, c1, c2, c3, c4⟩ := hc
  have hm : ∃ g1, X12_readLanding n g = X12_readLanding_55 n n true (ms g1 0 (-1) (g.1 251 12)) ∧ FlM (stM g s) g1 ∧ (∀ k, k < 3 → g1.1 251 (fcK k) = zN 0) ∧ (∀ j, j < 3 → g1.1 257 j = zN (usK 0 j)) := by
    obtain ⟨m, em⟩ : ∃ m, n = m + 1 + 1 + 1 + 1 := ⟨n - 4, by omega⟩
    have st : ∀ (f j : Nat) (gg : Mm), j < 3 → X12_readLanding_30 n (f + 1) (zN j) (ms gg 0 (-1) (g.1 251 12)) = X12_readLanding_30 n f (zN (j + 1)) (ms (wI gg 257 j (zN (usK 0 j))) 0 (-1) (g.1 251 12)) := fun f j gg hj => by
      rw [X12_readLanding_30, if_neg (show ¬ (3 : Int32) ≤ zN j by rw [zN_lit, zN_le (by decide) (by omega)]; omega), show (115 : Int32) = zN (chK 0) from rfl, k6 j _ hj, bp_some, if_pos (show inB (zN j) (aln 257) by rw [al_257, zN_inB (by omega)]; exact hj), zN_ix (by omega), ms_wi (by decide), sN1]
    have en : ∀ (f : Nat) (gg : Mm), X12_readLanding_30 n (f + 1) (zN 3) (ms gg 0 (-1) (g.1 251 12)) = X12_readLanding_55 n n true (ms gg 0 (-1) (g.1 251 12)) := fun f gg => by
      rw [X12_readLanding_30, if_pos (show (3 : Int32) ≤ zN 3 by decide)]
    have nn : ∀ N, N = m + 1 + 1 + 1 + 1 → ∀ gg, X12_readLanding_30 n N 0 (ms gg 0 (-1) (g.1 251 12)) = X12_readLanding_55 n n true (ms (wI (wI (wI gg 257 0 (zN (usK 0 0))) 257 1 (zN (usK 0 1))) 257 2 (zN (usK 0 2))) 0 (-1) (g.1 251 12)) := fun N hN gg => by
      rw [hN, show (0 : Int32) = zN 0 from rfl, st _ 0 _ (by omega), st _ (0 + 1) _ (by omega), st _ (0 + 1 + 1) _ (by omega)]
      exact en _ _
    refine ⟨wI (wI (wI (wI (wI (wI (stM g s) 251 28 0) 251 29 0) 251 31 0) 257 0 (zN (usK 0 0))) 257 1 (zN (usK 0 1))) 257 2 (zN (usK 0 2)), ?_, ⟨fun i h1 h2 _ _ => by rw [w_ne h2, w_ne h2, w_ne h2, w_ne h1, w_ne h1, w_ne h1], fun k h1 h2 h3 => by rw [w_ne (by decide), w_ne (by decide), w_ne (by decide), w_eq, u_ne h3, w_eq, u_ne h2, w_eq, u_ne h1], rfl⟩, fun k hk => ?_, fun j hj => ?_⟩
    · unfold X12_readLanding
      rw [t3, m_starts, bd_some, ms_wk (by decide) (by decide) (by decide), ms_wk (by decide) (by decide) (by decide), ms_wk (by decide) (by decide) (by decide), nn n em]
    · rw [w_ne (by decide), w_ne (by decide), w_ne (by decide), w_eq, w_eq, w_eq]
      rcases (show k = 0 ∨ k = 1 ∨ k = 2 by omega) with rfl | rfl | rfl <;> rfl
    · rcases (show j = 0 ∨ j = 1 ∨ j = 2 by omega) with rfl | rfl | rfl
      · rw [w_eq, u_ne (by decide), w_eq, u_ne (by decide), w_eq, u_eq]
      · rw [w_eq, u_ne (by decide), w_eq, u_eq]
      · rw [w_eq, u_eq]
  obtain ⟨g1, m1, m2, m3, m4⟩ := hm
  have dr : DrR (fun _ => 0) (fun k => usK 0 k) h1 g1 := by
    refine ⟨fun k hk => ⟨c3 k hk, m3 k hk, Nat.zero_le _⟩, fun k i j hk hi hj => ?_⟩
    have b := rw_b (cnt := fun _ => 0) hk (Nat.zero_le _) hi
    unfold rwK at hi
    by_cases z : k = 0
    · subst z
      obtain rfl : i = 0 := by omega
      have e0 : ofK 0 + 3 * 0 + j = j := by show 0 + 3 * 0 + j = j; omega
      have ub := us_b 0 (by omega) j hj
      rw [e0, show 3 * 0 + j = j by omega]
      exact ⟨c4 j hj, m4 j hj, ub.2.1, ub.2.2⟩
    · rw [if_neg z] at hi; exact absurd hi (Nat.not_lt_zero i)
  have e1 : X2_isRight n h = X2_isRight_17 n n (zN 0) (mk h1 0) := by
    unfold X2_isRight
    rw [c1, bd_some]; rfl
  rcases land_lp (dp := g.1 251 12) hn t1 s 0 0 n n h1 g1 _ _ (by omega) (by omega) (by omega) (by omega) (by omega) (c2.ct ct) (m2.mt mt0) dr with ⟨h2, g2, Q, a, u1, u2, u3, u4, u5⟩ | ⟨h2, g2, cnt, nm, u1, u2, u3, u4, u5, u6, u7⟩
  · exact Or.inl ⟨mk h2 Q, ms g2 a (zN Q) _, Q, u1, by rw [e1]; exact u2, by rw [m1]; exact u3, mk_2, ms_11, (c2.tr u4).ag, (m2.tr u5).pr⟩
  · refine Or.inr ⟨mk h2 s, ms g2 s (-1) _, cnt, nm, by rw [e1]; exact u1, by rw [m1]; exact u2, ms_11, (c2.tr u3).ag, (m2.tr u4).pr, ⟨fun k hk => ?_, fun k i j hk hi hj => ?_⟩, u6, u7⟩
    · have e := k3 hk
      rw [mk_i (by decide), ms_k (by omega) (by omega) (by omega)]; exact u5.1 k hk
    · have e := k3 hk
      rw [mk_i (by decide), ms_i (by omega)]; exact u5.2 k i j hk hi hj
theorem gt32_a {n a b : Nat} : ∀ (q : Nat) (h : Mm), X12_goThrough_32 n a q h = X12_goThrough_32 n b q h := by
  intro q
  induction q with
  | zero => intro h; rfl
  | succ q ih =>
    intro h
    rw [X12_goThrough_32, X12_goThrough_32]
    simp only [ih]
    rfl
theorem wrL_l : ∀ (c : List Int32) (O : Nat → Int32) (k j : Nat), j < k → wrL O k c j = O j
  | [], _, _, _, _ => rfl
  | o :: c, O, k, j, h => by
    show wrL (upd O k o) (k + 1) c j = O j
    rw [wrL_l c _ (k + 1) j (by omega), u_ne (by omega)]
theorem At_wrL : ∀ (c : List Int32) (O : Nat → Int32) (k : Nat), At (wrL O k c) k c
  | [], _, _ => trivial
  | o :: c, O, k => by
    refine ⟨?_, At_wrL c (upd O k o) (k + 1)⟩
    show wrL (upd O k o) (k + 1) c k = o
    rw [wrL_l c _ (k + 1) k (by omega), u_eq]
theorem ent_law {n s : Nat} {tp : Nat → Nat} {h g : Mm} (hn : 20000 ≤ n) (ht : TapeR s tp (h.1 1) (h.1 2) (g.1 251) (g.1 252)) :
    (∃ h' g' Q, Q ≤ s ∧ X3_isRight n h = some (false, h') ∧ X12_goThrough n 252 0 (g.1 251 6) g = some ((), g') ∧ h'.1 1 2 = zN Q ∧ g'.1 251 11 = zN Q ∧ AgC h h' ∧ PrM g g') ∨
    (∃ h' g' c f, X3_isRight n h = some (true, h') ∧ X12_goThrough n 252 0 (g.1 251 6) g = some ((), g') ∧ g'.1 251 11 = -1 ∧ AgC h h' ∧ PrM g g' ∧ h'.1 7 2 = zN c ∧ (∀ j, j < 4 → EvC n j (h'.1 8) (zN c) f) ∧ (∀ j tx, j < 4 → (∀ k, k < s → tx k = g.1 252 k) → EvM n j tx (zN s) f)) := by
  obtain ⟨⟨t1, t2, t3⟩, t4⟩ := id ht
  have ct := ht.ct
  have mt0 : MT tp s 252 0 (gsM g 252 0 s) := gs_mt t1 (Or.inl rfl) (by rw [al_252]; omega) (fun k hk => by rw [Nat.zero_add]; exact ht.tx k hk)
  have e0 : wI (wI h 1 2 0) 7 2 0 = stL h 0 (h.1 8) 0 := by
    unfold stL mk ob
    rw [wR_id (fun _ => rfl)]
    exact wI_comm (by decide)
  have e1 : X3_isRight n h = X3_isRight_15 n n (zN 0) (stL h 0 (h.1 8) 0) := by
    unfold X3_isRight
    rw [e0]; rfl
  have e2 : X12_goThrough n 252 0 (g.1 251 6) g = bd (X12_clause n (ms (gsM g 252 0 s) 0 (-1) (zN 0))) (fun _ h48 => X12_goThrough_32 n 252 n h48) := by
    rw [t3, ← gt_ms]; rfl
  rcases law_lp (T := tp) (a1 := 252) hn t1 s 0 0 0 n n (by omega) (by omega) (by omega) (by omega) (by omega) (by omega) with ⟨Q, u1, u2, u3⟩ | ⟨c, ans, u1, u2, u3, u4⟩
  · obtain ⟨O', k', v1⟩ := u2 h (h.1 8) ct
    obtain ⟨a, d', x, v2⟩ := u3 252 0 _ mt0 gs_13
    exact Or.inl ⟨stL h Q O' k', _, Q, u1, by rw [e1]; exact v1, by rw [e2]; exact v2, mk_2, ms_11, st_ag, gs_fr.pr⟩
  · have v1 := u3 h (h.1 8) ct
    have v2 := u4 252 0 _ mt0 gs_13
    have e8 : (stL h s (wrL (h.1 8) 0 c) (0 + c.length)).1 8 = wrL (h.1 8) 0 c := by
      unfold stL
      rw [mk_i (by decide)]
      unfold ob
      rw [w_ne (by decide), wr_eq]
    refine Or.inr ⟨stL h s (wrL (h.1 8) 0 c) (0 + c.length), _, c.length, fun a b c d e f => (ans (L6 a b c d e f)).getD 0, by rw [e1]; exact v1, by rw [e2]; exact v2, ms_11, st_ag, gs_fr.pr, by rw [st_72, Nat.zero_add], fun j hj => ?_, fun j tx hj htx => ?_⟩
    · rw [e8]
      exact law_evc hn hj u2 (by omega) (At_wrL c _ 0)
    · exact law_evm hj t1 (fun k hk => by rw [htx k hk]; exact ht.tx k hk) (fun t b0 g mt h13 => by
        rw [← u4 t b0 g mt h13]
        congr 1
        funext _ h48
        exact gt32_a n h48)
theorem ent_week {n s : Nat} {tp : Nat → Nat} {h g : Mm} (hn : 20000 ≤ n) (ht : TapeR s tp (h.1 1) (h.1 2) (g.1 251) (g.1 252)) :
    (∃ h' g' Q, Q ≤ s ∧ X10_isRight n h = some (false, h') ∧ X12_readWeek n g = some ((), g') ∧ h'.1 1 2 = zN Q ∧ g'.1 251 11 = zN Q ∧ AgC h h' ∧ PrM g g') ∨
    (∃ h' g' z, X10_isRight n h = some (true, h') ∧ X12_readWeek n g = some ((), g') ∧ g'.1 251 11 = -1 ∧ AgC h h' ∧ PrM g g' ∧ 1 ≤ z ∧ z ≤ 16 ∧ h'.1 9 4 = zN z ∧ g'.1 263 4 = zN z ∧ ∀ i, i < z → stepOK (h'.1 10 i) (g'.1 262 (192 + 3 * i)) (g'.1 262 (192 + 3 * i + 1)) (g'.1 262 (192 + 3 * i + 2))) := by
  obtain ⟨⟨t1, t2, t3⟩, t4⟩ := id ht
  have ct := ht.ct
  have mt0 : MT tp s 252 0 (stM g s) := stM_mt t1 ht.tx
  have e1 : X10_isRight n h = X10_isRight_10 n n (zN 0) (mk h 0) := rfl
  have e2 : X12_readWeek n g = X12_readWeek_17 n n (zN 0) true (ms (stM g s) 0 (-1) (g.1 251 12)) := by
    unfold X12_readWeek
    rw [t3, m_starts, bd_some]; rfl
  rcases week_lp (dp := g.1 251 12) hn t1 16 0 0 n n h (stM g s) (by omega) (by omega) (by omega) (by omega) (by omega) ct mt0 (fun i hi => absurd hi (Nat.not_lt_zero i)) with ⟨h2, g2, Q, a, u1, u2, u3, u4, u5⟩ | ⟨h2, g2, z, u1, u2, u3, u4, u5, u6, u7, u8, u9⟩
  · exact Or.inl ⟨mk h2 Q, _, Q, u1, by rw [e1]; exact u2, by rw [e2]; exact u3, mk_2, ms_11, u4.ag, u5.pr⟩
  · refine Or.inr ⟨mk h2 s, _, z, by rw [e1]; exact u1, by rw [e2]; exact u2, ms_11, u3.ag, u4.pr, u5, u6, by rw [mk_i (by decide)]; exact u7, by rw [ms_i (by decide)]; exact u8, fun i hi => ?_⟩
    rw [mk_i (by decide), ms_i (by decide)]; exact u9 i hi
