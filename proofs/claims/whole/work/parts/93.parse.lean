/-! a whole LANDING -/
theorem m_111 {T : Nat → Nat} {s n P : Nat} {g : Mm} {dp : Int32} {cnt : Nat → Nat} (hn : 20000 ≤ n) (mt : MT T s 252 0 g) (hP : P ≤ s) (id2 : skp T s P = P) (d1 : g.1 251 28 = zN (cnt 1)) (d2 : g.1 251 29 = zN (cnt 2)) (c1 : cnt 1 ≤ 6) (c2 : cnt 2 ≤ 6) : X12_readLanding_111 n (ms g P (-1) dp) = if sg T s P = 0 ∧ 1 ≤ cnt 1 ∧ 1 ≤ cnt 2 then some ((), ms g P (-1) dp) else some ((), ms g P (zN P) dp) := by
  unfold X12_readLanding_111 X12_readLanding_141
  rw [ms_11, if_pos rfl, m_look mt hn hP, bd_some, id2, ms_k (by decide) (by decide) (by decide), ms_k (by decide) (by decide) (by decide), d1, d2, m_fail, bd_some]
  by_cases z : sg T s P = 0
  · rw [z, if_pos (show zM 0 = -1 from rfl)]
    by_cases y : cnt 1 = 0
    · rw [if_pos (show zN (cnt 1) = 0 by rw [y]; rfl), if_neg (by omega)]
    · rw [if_neg (show ¬ zN (cnt 1) = 0 by rw [show (0 : Int32) = zN 0 from rfl, zN_eq (by omega) (by decide)]; exact y)]
      by_cases x : cnt 2 = 0
      · rw [if_pos (show zN (cnt 2) = 0 by rw [x]; rfl), if_neg (by omega)]
      · rw [if_neg (show ¬ zN (cnt 2) = 0 by rw [show (0 : Int32) = zN 0 from rfl, zN_eq (by omega) (by decide)]; exact x), if_pos (by omega)]
  · rw [if_neg (zM_nz (T_le mt _) z), if_neg (by omega)]
theorem land_lp {T : Nat → Nat} {s n : Nat} {dp : Int32} (hn : 20000 ≤ n) (h240 : s ≤ 240) : ∀ (r p j q q' : Nat) (h g : Mm) (cnt nm : Nat → Nat), s - p ≤ r → p ≤ s → 2 * j ≤ p → r < q → r + 1 < q' → CT T s h → MT T s 252 0 g → DrR cnt nm h g →
    (∃ h' g' Q a, Q ≤ s ∧ X2_isRight_17 n q (zN j) (mk h p) = some (false, mk h' Q) ∧ X12_readLanding_55 n q' true (ms g p (-1) dp) = some ((), ms g' a (zN Q) dp) ∧ FlC h h' ∧ FlM g g') ∨
    (∃ h' g' cnt' nm', X2_isRight_17 n q (zN j) (mk h p) = some (true, mk h' s) ∧ X12_readLanding_55 n q' true (ms g p (-1) dp) = some ((), ms g' s (-1) dp) ∧ FlC h h' ∧ FlM g g' ∧ DrR cnt' nm' h' g' ∧ 1 ≤ cnt' 1 ∧ 1 ≤ cnt' 2) := by
  intro r
  induction r using Nat.strongRecOn with
  | ind r ih =>
    intro p j q q' h g cnt nm hr hp hj hq hq' ct mt dr
    obtain ⟨q, rfl⟩ : ∃ m, q = m + 1 := ⟨q - 1, by omega⟩
    obtain ⟨q', rfl⟩ : ∃ m, q' = m + 1 + 1 := ⟨q' - 2, by omega⟩
    have j240 : ¬ (240 : Int32) ≤ zN j := by rw [zN_lit, zN_le (by decide) (by omega)]; omega
    have fin : ∀ (g' : Mm) (a Q : Nat), Q ≤ s → X12_readLanding_92 n (X12_readLanding_55 n (q' + 1)) (ms g' a (zN Q) dp) = some ((), ms g' a (zN Q) dp) := fun g' a Q hQ => by
      unfold X12_readLanding_92 X12_readLanding_93
      rw [if_neg (show ¬ (false = true) by decide), X12_readLanding_55, if_neg (show ¬ (false = true) by decide)]
      unfold X12_readLanding_111
      rw [ms_11, if_neg (zN_nm1 (by omega))]
    rcases lclause (dp := dp) hn h240 ct mt hp dr with ⟨h1, g1, Q, a, c1, c2, c3, c4, c5⟩ | ⟨h1, g1, cnt1, nm1, p', c1, c2, c3, c4, c5, c6, c7⟩
    · refine Or.inl ⟨h1, g1, Q, a, c1, ?_, ?_, c4, c5⟩
      · rw [X2_isRight_17, if_neg j240, c2, bd_some, if_neg (show ¬ (false = true) by decide)]
      · rw [X12_readLanding_55, if_pos rfl, ms_11, if_pos rfl, c3, bd_some, ms_11, if_neg (zN_nm1 (by omega)), fin g1 a Q c1]
    · have b := skp_b (T := T) c2
      have id2 := skp_id (T := T) c2
      have ct1 := c4.ct ct
      have mt1 := c5.mt mt
      have d1 := c6.1 1 (by omega)
      have d2 := c6.1 2 (by omega)
      have l1 : cnt1 1 ≤ 6 := d1.2.2
      have l2 : cnt1 2 ≤ 6 := d2.2.2
      have nzs : skp T s p' < s → sg T s (skp T s p') ≠ 0 := fun l => by
        unfold sg; rw [if_pos l]
        have := (mt.2.2.2.2 _ l).2.1; omega
      have cst : X2_isRight_17 n (q + 1) (zN j) (mk h p) = if skp T s p' = s then (if 1 ≤ cnt1 1 ∧ 1 ≤ cnt1 2 then some (true, mk h1 s) else some (false, mk h1 s)) else if sg T s (skp T s p') = 59 then X2_isRight_17 n q (zN (j + 1)) (mk h1 (skp T s p' + 1)) else some (false, mk h1 (skp T s p')) := by
        rw [X2_isRight_17, if_neg j240, c3, bd_some, if_pos rfl, c_atEnd hn ct1 c2, bd_some]
        by_cases z : skp T s p' = s
        · unfold X1_books X1_houses
          rw [decide_eq_true z, if_pos rfl, if_pos z, show (4 : Nat) + 1 = 5 from rfl, show (1 : Int32) = zN 1 from rfl, show (2 : Int32) = zN 2 from rfl, at_5 (by omega), at_5 (by omega), bp_some, bp_some, bp_some, bp_some, mk_i (by decide), d1.1, d2.1, z]
          by_cases y : cnt1 1 = 0
          · rw [if_pos (show zN (cnt1 1) ≤ 0 by rw [y]; decide), if_neg (by omega)]
          · rw [if_neg (show ¬ zN (cnt1 1) ≤ 0 by rw [show (0 : Int32) = zN 0 from rfl, zN_le (by omega) (by decide)]; omega)]
            by_cases x : cnt1 2 = 0
            · rw [if_pos (show zN (cnt1 2) ≤ 0 by rw [x]; decide), if_neg (by omega)]
            · rw [if_neg (show ¬ zN (cnt1 2) ≤ 0 by rw [show (0 : Int32) = zN 0 from rfl, zN_le (by omega) (by decide)]; omega), if_pos (by omega)]
        · rw [decide_eq_false z, if_neg (show ¬ (false = true) by decide), if_neg z, show (59 : Int32) = zN 59 from rfl, c_take hn ct1 b.2 (by decide), id2]
          by_cases w : sg T s (skp T s p') = 59
          · rw [if_pos w, if_pos w, bd_some, if_pos rfl, sN1]
          · rw [if_neg w, if_neg w, bd_some, if_neg (show ¬ (false = true) by decide)]
      rcases c7 with c7 | ⟨n0, n59, c7⟩
      · have mst : X12_readLanding_55 n (q' + 1 + 1) true (ms g p (-1) dp) = if sg T s (skp T s p') = 59 then X12_readLanding_55 n (q' + 1) true (ms g1 (skp T s p' + 1) (-1) dp) else if sg T s (skp T s p') = 0 ∧ 1 ≤ cnt1 1 ∧ 1 ≤ cnt1 2 then some ((), ms g1 (skp T s p') (-1) dp) else some ((), ms g1 (skp T s p') (zN (skp T s p')) dp) := by
          rw [X12_readLanding_55, if_pos rfl, ms_11, if_pos rfl, c7, bd_some, ms_11, if_pos rfl, m_look mt1 hn b.2, bd_some, id2]
          by_cases w : sg T s (skp T s p') = 59
          · rw [if_pos (show zM (sg T s (skp T s p')) = 59 from (zM_eq (T_le mt _) (by decide) (by decide)).mpr w), if_pos w]
            unfold X12_readLanding_93
            rw [if_pos rfl, ms_inc]
          · rw [if_neg (show ¬ zM (sg T s (skp T s p')) = 59 from fun z => w ((zM_eq (T_le mt _) (by decide) (by decide)).mp z)), if_neg w]
            unfold X12_readLanding_92 X12_readLanding_93
            rw [if_neg (show ¬ (false = true) by decide), X12_readLanding_55, if_neg (show ¬ (false = true) by decide), m_111 (cnt := cnt1) hn mt1 b.2 id2 d1.2.1 d2.2.1 l1 l2]
        by_cases z : skp T s p' = s
        · have s0 : sg T s (skp T s p') = 0 := by rw [z]; unfold sg; rw [if_neg (by omega)]
          rw [if_pos z] at cst
          rw [if_neg (by omega)] at mst
          by_cases y : 1 ≤ cnt1 1 ∧ 1 ≤ cnt1 2
          · rw [if_pos y] at cst
            rw [if_pos ⟨s0, y⟩, z] at mst
            exact Or.inr ⟨h1, g1, cnt1, nm1, cst, mst, c4, c5, c6, y⟩
          · rw [if_neg y] at cst
            rw [if_neg (fun w => y w.2), z] at mst
            exact Or.inl ⟨h1, g1, s, s, Nat.le_refl _, cst, mst, c4, c5⟩
        · rw [if_neg z] at cst
          by_cases w : sg T s (skp T s p') = 59
          · have lt : skp T s p' < s := sg_lt (T := T) (show sg T s (skp T s p') ≠ 0 by omega)
            rw [if_pos w] at cst mst
            rcases ih (r - 1) (by omega) (skp T s p' + 1) (j + 1) q (q' + 1) h1 g1 cnt1 nm1 (by omega) lt (by omega) (by omega) (by omega) ct1 mt1 c6 with ⟨h2, g2, Q, a, u1, u2, u3, u4, u5⟩ | ⟨h2, g2, cnt2, nm2, u1, u2, u3, u4, u5, u6⟩
            · exact Or.inl ⟨h2, g2, Q, a, u1, by rw [cst]; exact u2, by rw [mst]; exact u3, c4.tr u4, c5.tr u5⟩
            · exact Or.inr ⟨h2, g2, cnt2, nm2, by rw [cst]; exact u1, by rw [mst]; exact u2, c4.tr u3, c5.tr u4, u5, u6⟩
          · rw [if_neg w] at cst mst
            rw [if_neg (fun v => nzs (by omega) v.1)] at mst
            exact Or.inl ⟨h1, g1, skp T s p', skp T s p', b.2, cst, mst, c4, c5⟩
      · have mst : X12_readLanding_55 n (q' + 1 + 1) true (ms g p (-1) dp) = some ((), ms g1 (skp T s p') (zN (skp T s p')) dp) := by
          rw [X12_readLanding_55, if_pos rfl, ms_11, if_pos rfl, c7, bd_some, ms_11, if_neg (zN_nm1 (by omega)), fin g1 _ _ b.2]
        have lt : skp T s p' < s := sg_lt (T := T) n0
        rw [if_neg (by omega), if_neg n59] at cst
        exact Or.inl ⟨h1, g1, _, _, b.2, cst, mst, c4, c5⟩
/-! how each reading begins -/
def stM (g : Mm) (s : Nat) : Mm := wR g 251 (fun k => if k = 5 then zN 253 else if k = 8 then zN 0 else if k = 9 then zN s else g.1 251 k)
theorem m_starts {s : Nat} {g : Mm} : X12_starts 252 0 (zN s) g = some ((), ms (stM g s) 0 (-1) (g.1 251 12)) := by
  unfold X12_starts
  have e : wI (wI (wI (wI (wI g 251 5 (Int32.ofNat (252 + 1))) 251 8 0) 251 9 (zN s)) 251 10 0) 251 11 (-1) = ms (stM g s) 0 (-1) (g.1 251 12) := by
    unfold ms
    rw [show (stM g s).1 251 = _ from wr_eq]
    unfold stM
    rw [wR_wR]
    show wI (wI (wI (wI (wR g 251 (upd (g.1 251) 5 (Int32.ofNat (252 + 1)))) 251 8 0) 251 9 (zN s)) 251 10 0) 251 11 (-1) = _
    rw [wI_wR, wI_wR, wI_wR, wI_wR]
    congr 1
    funext k
    by_cases k5 : k = 5
    · subst k5; rfl
    by_cases k8 : k = 8
    · subst k8; rfl
    by_cases k9 : k = 9
    · subst k9; rfl
    by_cases k10 : k = 10
    · subst k10; rfl
    by_cases k11 : k = 11
    · subst k11; rfl
    by_cases k12 : k = 12
    · subst k12; rfl
    rw [u_ne k11, u_ne k10, u_ne k9, u_ne k8, u_ne k5, if_neg k10, if_neg k11, if_neg k12]
    simp only [if_neg k5, if_neg k8, if_neg k9]
  rw [e]
theorem stM_mt {T : Nat → Nat} {s : Nat} {g : Mm} (hs : s ≤ 240) (hT : ∀ k, k < s → g.1 252 k = (zN (T k)).toInt8.toInt32 ∧ 1 ≤ T k ∧ T k ≤ 255) : MT T s 252 0 (stM g s) := by
  refine ⟨hs, Or.inl rfl, by rw [al_252]; omega, ⟨?_, ?_, ?_⟩, fun k hk => ?_⟩
  · unfold stM; rw [wr_eq]; rfl
  · unfold stM; rw [wr_eq]; rfl
  · unfold stM; rw [wr_eq]; rfl
  · unfold stM; rw [wr_ne (by decide), Nat.zero_add]; exact hT k hk
theorem stM_i {s i : Nat} {g : Mm} (hi : i ≠ 251) : (stM g s).1 i = g.1 i := by unfold stM; rw [wr_ne hi]
theorem stM_k {s k : Nat} {g : Mm} (h5 : k ≠ 5) (h8 : k ≠ 8) (h9 : k ≠ 9) : (stM g s).1 251 k = g.1 251 k := by unfold stM; rw [wr_eq, if_neg h5, if_neg h8, if_neg h9]
/-- what a reading leaves of the model -/
def PrM (g g' : Mm) : Prop := (∀ i k, kpM i k = true → i ≠ 262 → i ≠ 263 → g'.1 i k = g.1 i k) ∧ (∀ k, k < 192 → g'.1 262 k = g.1 262 k) ∧ (∀ k, k ≠ 4 → g'.1 263 k = g.1 263 k) ∧ g'.2 266 = g.2 266
theorem RW.pr {n B H : Nat} {nm : Nat → Nat} {A nx : Nat} {E : Nat → Nat} {nw sn s : Nat} {tp : Nat → Nat} {nl : Nat} {hd : Int32} {f : Nat → F6} {h g h' g' : Mm} (q : RW n B H nm A nx E nw sn s tp nl hd f h g) (zc : AgC h h') (zm : PrM g g') : RW n B H nm A nx E nw sn s tp nl hd f h' g' := by
  obtain ⟨hL, hP, hI, hW, hS, hT, hC, hM, hu⟩ := q
  obtain ⟨m1, m2, m3, m4⟩ := zm
  have mi : ∀ i, (∀ k, kpM i k = true) → i ≠ 262 → i ≠ 263 → g'.1 i = g.1 i := fun i hk h2 h3 => funext fun k => m1 i k (hk k) h2 h3
  refine ⟨hL.ag (kpC_i (fun k => rfl) zc) (kpC_i (fun k => rfl) zc) (m1 251 26 rfl (by decide) (by decide)) (m1 251 27 rfl (by decide) (by decide)) (mi 256 (fun k => rfl) (by decide) (by decide)) (mi 258 (fun k => rfl) (by decide) (by decide)) (mi 260 (fun k => rfl) (by decide) (by decide)), hP.ag (fun i h1 h2 => funext fun k => zc.1 i k (kp_bed (by omega))) (fun i h1 h2 => funext fun k => zc.1 i k (kp_bed (by omega))) (kpC_i (fun k => rfl) zc) (zc.1 37 5 rfl) (zc.1 37 6 rfl) (m1 251 39 rfl (by decide) (by decide)) (mi 264 (fun k => rfl) (by decide) (by decide)) (mi 268 (fun k => rfl) (by decide) (by decide)), hI.ag (fun i h1 h2 => funext fun k => zc.1 i k (kp_bed (by omega))) (zc.1 37 4 rfl) (m1 251 50 rfl (by decide) (by decide)) (mi 272 (fun k => rfl) (by decide) (by decide)), ?_, hS.ag (zc.1 249 4 rfl) (kpC_i (fun k => rfl) zc) (m1 251 47 rfl (by decide) (by decide)) (mi 270 (fun k => rfl) (by decide) (by decide)), hT.ag (zc.1 1 1 rfl) (kpC_i (fun k => rfl) zc) (m1 251 6 rfl (by decide) (by decide)) (mi 252 (fun k => rfl) (by decide) (by decide)), hC.cg (zc.1 16 5 rfl) (zc.1 16 6 rfl) (fun i h1 h2 => funext fun k => zc.1 i k (by unfold kpC; simp [h1, h2])) zc.2, hM.cg (m1 251 7 rfl (by decide) (by decide)) (m1 251 34 rfl (by decide) (by decide)) (mi 253 (fun k => rfl) (by decide) (by decide)) (mi 254 (fun k => rfl) (by decide) (by decide)) m4 (mi 267 (fun k => rfl) (by decide) (by decide)), ?_⟩
  · obtain ⟨q1, q2⟩ := hW
    rw [kpC_i (i := 11) (fun k => rfl) zc, kpC_i (i := 12) (fun k => rfl) zc]
    refine ⟨by rw [zc.1 9 5 rfl, m1 251 30 rfl (by decide) (by decide)]; exact q1, fun j hj => ?_⟩
    obtain ⟨z, z1, z2, z3, z4, z5⟩ := q2 j hj
    have := q1.1
    refine ⟨z, z1, z2, z3, by rw [m3 j (by omega)]; exact z4, fun i hi => ?_⟩
    rw [m2 _ (by omega), m2 _ (by omega), m2 _ (by omega)]; exact z5 i hi
  · rw [zc.1 0 12 rfl, m1 251 35 rfl (by decide) (by decide)]; exact hu
