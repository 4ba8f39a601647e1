theorem week_lp {T : Nat → Nat} {s n : Nat} {dp : Int32} (hn : 20000 ≤ n) (h240 : s ≤ 240) : ∀ (d p x q q' : Nat) (h g : Mm), x + d = 16 → 1 ≤ d → d < q → d + 1 < q' → p ≤ s → CT T s h → MT T s 252 0 g → (∀ i, i < x → stepOK (h.1 10 i) (g.1 262 (192 + 3 * i)) (g.1 262 (192 + 3 * i + 1)) (g.1 262 (192 + 3 * i + 2))) →
    (∃ h' g' Q a, Q ≤ s ∧ X10_isRight_10 n q (zN x) (mk h p) = some (false, mk h' Q) ∧ X12_readWeek_17 n q' (zN x) true (ms g p (-1) dp) = some ((), ms g' a (zN Q) dp) ∧ FkC h h' ∧ FkM g g') ∨
    (∃ h' g' z, X10_isRight_10 n q (zN x) (mk h p) = some (true, mk h' s) ∧ X12_readWeek_17 n q' (zN x) true (ms g p (-1) dp) = some ((), ms g' s (-1) dp) ∧ FkC h h' ∧ FkM g g' ∧ x < z ∧ z ≤ 16 ∧ h'.1 9 4 = zN z ∧ g'.1 263 4 = zN z ∧ ∀ i, i < z → stepOK (h'.1 10 i) (g'.1 262 (192 + 3 * i)) (g'.1 262 (192 + 3 * i + 1)) (g'.1 262 (192 + 3 * i + 2))) := by
  intro d
  induction d with
  | zero => intro p x q q' h g h1 h2; omega
  | succ d ih =>
    intro p x q q' h g hx _ hq hq' hp ct mt hI
    obtain ⟨q, rfl⟩ : ∃ m, q = m + 1 := ⟨q - 1, by omega⟩
    obtain ⟨q', rfl⟩ : ∃ m, q' = m + 1 + 1 := ⟨q' - 2, by omega⟩
    have x16 : ¬ (16 : Int32) ≤ zN x := by rw [zN_lit, zN_le (by decide) (by omega)]; omega
    have e3 : (3 : Int32) * ((64 : Int32) + zN x) = zN (192 + 3 * x) := by
      rw [show (64 : Int32) = zN 64 from rfl, zN_add, show (3 : Int32) = zN 3 from rfl, zN_mul, show 3 * (64 + x) = 192 + 3 * x by omega]
    rcases step_sp (dp := dp) hn h240 ct mt hp (show x < 16 by omega) with ⟨g1, Q, a, c1, c2, c3, c4⟩ | ⟨v, a, b, c, g1, p', c1, c2, c3, c4, c5, c6⟩
    · refine Or.inl ⟨h, g1, Q, a, c1, ?_, ?_, FkC.rf, c4⟩
      · rw [X10_isRight_10, if_neg x16, c2, bd_some, if_neg (show ¬ (false = true) by decide)]
      · rw [X12_readWeek_17, if_pos rfl, e3, c3, bd_some, ms_11, if_neg (zN_nm1 (by omega))]
    · have bb := skp_b (T := T) c2
      have id2 := skp_id (T := T) c2
      have ct1 : CT T s (wI h 10 x v) := FkC.w10.ct ct
      have mt1 : MT T s 252 0 g1 := c6.1.mt mt
      have hI1 : ∀ i, i < x + 1 → stepOK ((wI h 10 x v).1 10 i) (g1.1 262 (192 + 3 * i)) (g1.1 262 (192 + 3 * i + 1)) (g1.1 262 (192 + 3 * i + 2)) := fun i hi => by
        by_cases e : i = x
        · subst e
          rw [w_eq, u_eq, c6.2.2.1, c6.2.2.2.1, c6.2.2.2.2]; exact c3
        · rw [w_eq, u_ne e, c6.2.1 _ (by omega), c6.2.1 _ (by omega), c6.2.1 _ (by omega)]; exact hI i (by omega)
      have cst : X10_isRight_10 n (q + 1) (zN x) (mk h p) = if skp T s p' = s then some (true, mk (wI (wI h 10 x v) 9 4 (zN (x + 1))) s) else if x + 1 = 16 then some (false, mk (wI h 10 x v) (skp T s p')) else if sg T s (skp T s p') = 59 then X10_isRight_10 n q (zN (x + 1)) (mk (wI h 10 x v) (skp T s p' + 1)) else some (false, mk (wI h 10 x v) (skp T s p')) := by
        rw [X10_isRight_10, if_neg x16, c4, bd_some, if_pos rfl, c_atEnd hn ct1 c2, bd_some]
        by_cases z : skp T s p' = s
        · rw [decide_eq_true z, if_pos rfl, if_pos z, sN1, mk_wi (by decide), z]
        · rw [decide_eq_false z, if_neg (show ¬ (false = true) by decide), if_neg z, sN1]
          by_cases y : x + 1 = 16
          · rw [if_pos (show zN (x + 1) = 16 by rw [y]; rfl), if_pos y]
          · rw [if_neg (show ¬ zN (x + 1) = 16 by rw [zN_lit, zN_eq (by omega) (by decide)]; exact y), if_neg y, show (59 : Int32) = zN 59 from rfl, c_take hn ct1 bb.2 (by decide), id2]
            by_cases w : sg T s (skp T s p') = 59
            · rw [if_pos w, if_pos w, bd_some, if_pos rfl]
            · rw [if_neg w, if_neg w, bd_some, if_neg (show ¬ (false = true) by decide)]
      have mst : X12_readWeek_17 n (q' + 1 + 1) (zN x) true (ms g p (-1) dp) = if sg T s (skp T s p') = 59 then (if x + 1 = 16 then some ((), ms g1 (skp T s p') (zN (skp T s p')) dp) else X12_readWeek_17 n (q' + 1) (zN (x + 1)) true (ms g1 (skp T s p' + 1) (-1) dp)) else if sg T s (skp T s p') = 0 then some ((), ms (wI g1 263 4 (zN (x + 1))) (skp T s p') (-1) dp) else some ((), ms (wI g1 263 4 (zN (x + 1))) (skp T s p') (zN (skp T s p')) dp) := by
        rw [X12_readWeek_17, if_pos rfl, e3, c5, bd_some, ms_11, if_pos rfl, m_look mt1 hn c2, bd_some, sN1]
        by_cases w : sg T s (skp T s p') = 59
        · rw [if_pos (show zM (sg T s (skp T s p')) = 59 from (zM_eq (T_le mt _) (by decide) (by decide)).mpr w), if_pos w]
          unfold X12_readWeek_57 X12_readWeek_74
          rw [if_pos rfl]
          by_cases y : x + 1 = 16
          · rw [if_pos (show zN (x + 1) = 16 by rw [y]; rfl), if_pos y, m_fail, bd_some]
          · rw [if_neg (show ¬ zN (x + 1) = 16 by rw [zN_lit, zN_eq (by omega) (by decide)]; exact y), if_neg y, if_pos rfl, ms_inc]
        · rw [if_neg (show ¬ zM (sg T s (skp T s p')) = 59 from fun z => w ((zM_eq (T_le mt _) (by decide) (by decide)).mp z)), if_neg w]
          unfold X12_readWeek_57 X12_readWeek_74
          rw [if_neg (show ¬ (false = true) by decide), if_neg (show ¬ (false = true) by decide), X12_readWeek_17, if_neg (show ¬ (false = true) by decide), if_pos (show inB (4 : Int32) (aln 263) by rw [al_263]; decide), show ((4 : Int32).toNatClampNeg) = 4 from rfl, ms_wi (by decide), m_look (FkM.w263.mt mt1) hn bb.2, bd_some, id2]
          by_cases z0 : sg T s (skp T s p') = 0
          · rw [if_pos z0, z0, if_pos (show zM 0 = -1 from rfl)]
          · rw [if_neg z0, if_neg (zM_nz (T_le mt _) z0), m_fail, bd_some]
      have nz : skp T s p' < s → sg T s (skp T s p') ≠ 0 := fun l => by
        unfold sg; rw [if_pos l]
        have := (mt.2.2.2.2 _ l).2.1; omega
      by_cases z : skp T s p' = s
      · have s0 : sg T s (skp T s p') = 0 := by rw [z]; unfold sg; rw [if_neg (by omega)]
        rw [if_pos z] at cst
        rw [if_neg (by omega), if_pos s0, z] at mst
        refine Or.inr ⟨_, _, x + 1, cst, mst, FkC.w10.tr ⟨fun i k1 k2 => by rw [w_ne k1], fun k hk => by rw [w_eq, u_ne hk], rfl⟩, c6.1.tr FkM.w263, by omega, by omega, by rw [w_eq, u_eq], by rw [w_eq, u_eq], fun i hi => ?_⟩
        rw [w_ne (show (10 : Nat) ≠ 9 by decide), w_ne (show (262 : Nat) ≠ 263 by decide)]
        exact hI1 i hi
      · rw [if_neg z] at cst
        by_cases w : sg T s (skp T s p') = 59
        · have lt : skp T s p' < s := sg_lt (T := T) (show sg T s (skp T s p') ≠ 0 by omega)
          rw [if_pos w] at mst
          by_cases y : x + 1 = 16
          · rw [if_pos y] at cst mst
            exact Or.inl ⟨_, _, _, _, bb.2, cst, mst, FkC.w10, c6.1⟩
          · rw [if_neg y, if_pos w] at cst
            rw [if_neg y] at mst
            rcases ih (skp T s p' + 1) (x + 1) q (q' + 1) (wI h 10 x v) g1 (by omega) (by omega) (by omega) (by omega) (by omega) ct1 mt1 hI1 with ⟨h2, g2, Q, a2, d1, d2, d3, d4, d5⟩ | ⟨h2, g2, z2, d1, d2, d3, d4, d5, d6, d7, d8, d9⟩
            · exact Or.inl ⟨h2, g2, Q, a2, d1, by rw [cst]; exact d2, by rw [mst]; exact d3, FkC.w10.tr d4, c6.1.tr d5⟩
            · exact Or.inr ⟨h2, g2, z2, by rw [cst]; exact d1, by rw [mst]; exact d2, FkC.w10.tr d3, c6.1.tr d4, by omega, d6, d7, d8, d9⟩
        · rw [if_neg w, if_neg (nz (by omega))] at mst
          rw [if_neg w, ite_self] at cst
          exact Or.inl ⟨_, _, _, _, bb.2, cst, mst, FkC.w10, c6.1.tr FkM.w263⟩
