/-! a clause, a law -/
theorem st_sgn {T : Nat → Nat} {s n p k : Nat} {h : Mm} {O : Nat → Int32} (hn : 20000 ≤ n) (ct : CT T s h) (hp : p ≤ s) : X7_sign n (stL h p O k) = some (zN (sg T s (skp T s p)), stL h (skp T s p) O k) := c_sign hn ct.ob hp
theorem st_take {T : Nat → Nat} {s n p k ch : Nat} {h : Mm} {O : Nat → Int32} (hn : 20000 ≤ n) (ct : CT T s h) (hp : p ≤ s) (c2 : ch ≤ 255) : X7_take n (zN ch) (stL h p O k) = if sg T s (skp T s p) = ch then some (true, stL h (skp T s p + 1) O k) else some (false, stL h (skp T s p) O k) := c_take hn ct.ob hp c2
theorem st_end {T : Nat → Nat} {s n p k : Nat} {h : Mm} {O : Nat → Int32} (hn : 20000 ≤ n) (ct : CT T s h) (hp : p ≤ s) : X7_isAtEnd n (stL h p O k) = some (decide (skp T s p = s), stL h (skp T s p) O k) := c_atEnd hn ct.ob hp
theorem cl_unit {T : Nat → Nat} {s n : Nat} (hn : 20000 ≤ n) (h240 : s ≤ 240) : ∀ p, 2 ≤ p → p ≤ s → BG T s 16 (X3_takeUnit n (X3_takeInnerUnit n 9) (zN 0) false) (fun g => X12_unit n 9 (ms g p (-1) (zN 0))) p 0 [] := fun p h2 hp => unit_sp hn h240 6 9 9 0 p (by omega) (by omega) (by omega) h2 hp
theorem cl_truth {T : Nat → Nat} {s n : Nat} (hn : 20000 ≤ n) (h240 : s ≤ 240) : ∀ p, 2 ≤ p → p ≤ s → BG T s 17 (X3_takeTruth n (X3_takeInnerUnit n 9) (zN 0) false) (fun g => X12_part n (X12_unit n 9) false 0 (ms g p (-1) (zN 0))) p 0 [] := fun p h2 hp => truth_f (c0 := []) (v0 := fun _ => 0) hn h240 (by omega) (cl_unit hn h240) h2 hp (cl_unit hn h240 p h2 hp)
theorem clause_sp {T : Nat → Nat} {s n p : Nat} (hn : 20000 ≤ n) (h240 : s ≤ 240) (hp : p ≤ s) : CLP T s n p := by
  have b := skp_b (T := T) hp
  by_cases y : sg T s (skp T s p) = 121
  · have l1 : skp T s p < s := sg_lt (T := T) (show sg T s (skp T s p) ≠ 0 by omega)
    have b2 := skp_b (T := T) (s := s) (p := skp T s p + 1) (by omega)
    by_cases c : sg T s (skp T s (skp T s p + 1)) = 58
    · have l2 : skp T s (skp T s p + 1) < s := sg_lt (T := T) (show sg T s (skp T s (skp T s p + 1)) ≠ 0 by omega)
      have hP : skp T s (skp T s p + 1) + 1 ≤ s := l2
      have b3 := skp_b (T := T) hP
      have hQ2 : p + 2 ≤ skp T s (skp T s (skp T s p + 1) + 1) := by omega
      have id3 := skp_id (T := T) hP
      have cst : ∀ (h : Mm) (O : Nat → Int32) (k : Nat), CT T s h → X3_takeClause n (stL h p O k) = if sg T s (skp T s (skp T s (skp T s p + 1) + 1)) = 33 ∨ sg T s (skp T s (skp T s (skp T s p + 1) + 1)) = 40 then X3_takeClause_88 n false (stL h (skp T s (skp T s (skp T s p + 1) + 1)) O k) else X3_takeClause_46 n true (stL h (skp T s (skp T s (skp T s p + 1) + 1)) O k) := fun h O k ct => by
        unfold X3_takeClause
        rw [show (121 : Int32) = zN 121 from rfl, show (58 : Int32) = zN 58 from rfl, st_take hn ct hp (by decide), if_pos y, bd_some, if_pos rfl, st_take hn ct l1 (by decide), if_pos c, bd_some, if_pos rfl, st_sgn hn ct hP, bd_some, j_ix hn (show stB 1024 = [33, 40] from rfl) (by decide) (by decide) (sg_le ct _), bp_some, ix_1024 _ (by have := sg_le ct (skp T s (skp T s (skp T s p + 1) + 1)); omega)]
        by_cases z1 : sg T s (skp T s (skp T s (skp T s p + 1) + 1)) = 33
        · rw [if_pos z1, if_pos (show (0 : Int32) ≤ zN 0 by decide), if_pos (Or.inl z1)]; rfl
        · rw [if_neg z1]
          by_cases z2 : sg T s (skp T s (skp T s (skp T s p + 1) + 1)) = 40
          · rw [if_pos z2, if_pos (show (0 : Int32) ≤ zN 1 by decide), if_pos (Or.inr z2)]; rfl
          · rw [if_neg z2, if_neg (show ¬ (0 : Int32) ≤ -1 by decide), if_neg (by omega)]
      have mst : ∀ (t b0 : Nat) (g : Mm), MT T s t b0 g → X12_clause n (ms g p (-1) (zN 0)) = if sg T s (skp T s (skp T s (skp T s p + 1) + 1)) = 33 ∨ sg T s (skp T s (skp T s (skp T s p + 1) + 1)) = 40 then X12_clause_64 n (zN 121) (ms g (skp T s (skp T s (skp T s p + 1) + 1)) (-1) (zN 0)) else (bd (X12_sum n (X12_atom n 9) (ms g (skp T s (skp T s (skp T s p + 1) + 1)) (-1) (zN 0))) (fun r101 h103 => (if (h103.1 251 11) = (-1 : Int32) then (bd (X12_look n h103) (fun r104 h106 => (bp (X12_isSign r104 h106) (fun r107 => (if r107 = true then (bd (X12_condition n (X12_unit n 9) true r101 h106) (fun r109 h111 => (bd (X12_takes n (63 : Int32) h111) (fun r112 h114 => (if r112 = true then (bd (X12_sum n (X12_atom n 9) h114) (fun r115 h117 => (X12_clause_134 n (zN 121) r109 r115 h117))) else (some ((), h114))))))) else (X12_clause_134 n (zN 121) true r101 h106)))))) else (X12_clause_134 n (zN 121) true r101 h103)))) := fun t b0 g mt => by
        unfold X12_clause
        rw [m_look mt hn hp, bd_some, m_own hn (T_le mt _), bp_some, decide_eq_true y, if_pos rfl, ms_inc, show (58 : Int32) = zN 58 from rfl, m_takes mt hn l1 (by decide) (by decide), if_pos c, bd_some, if_pos rfl, m_look mt hn hP, bd_some, show zM (sg T s (skp T s p)) = zN 121 by rw [y]; rfl]
        by_cases z1 : sg T s (skp T s (skp T s (skp T s p + 1) + 1)) = 33
        · rw [if_pos (show zM (sg T s (skp T s (skp T s (skp T s p + 1) + 1))) = 33 from (zM_eq (T_le mt _) (by decide) (by decide)).mpr z1), if_pos (Or.inl z1)]
        · rw [if_neg (show ¬ zM (sg T s (skp T s (skp T s (skp T s p + 1) + 1))) = 33 from fun z => z1 ((zM_eq (T_le mt _) (by decide) (by decide)).mp z))]
          by_cases z2 : sg T s (skp T s (skp T s (skp T s p + 1) + 1)) = 40
          · rw [if_pos (show zM (sg T s (skp T s (skp T s (skp T s p + 1) + 1))) = 40 from (zM_eq (T_le mt _) (by decide) (by decide)).mpr z2), if_pos (Or.inr z2)]
          · rw [if_neg (show ¬ zM (sg T s (skp T s (skp T s (skp T s p + 1) + 1))) = 40 from fun z => z2 ((zM_eq (T_le mt _) (by decide) (by decide)).mp z)), if_neg (by omega)]
      generalize skp T s (skp T s (skp T s p + 1) + 1) = P at *
      by_cases w : sg T s P = 33 ∨ sg T s P = 40
      · have hb := cond_f (c0 := []) (v0 := fun _ => 0) (d := 0) hn h240 (by omega) (cl_truth hn h240) (show 2 ≤ P by omega) b3.2 (cl_truth (T := T) hn h240 P (by omega) b3.2)
        rcases tail88 (p0 := p) hn h240 (show 2 ≤ P by omega) hQ2 (by show p + 0 + 2 ≤ P; omega) hb with ⟨Q, a1, a2, a3, a4⟩ | ⟨p', cl, ln, ans, a1, a2, a3, a4, a5, a6, a7⟩
        · refine Or.inl ⟨Q, by omega, a2, fun h O k ct hk => ?_, fun t b0 g mt h13 => ?_⟩
          · rw [cst h O k ct, if_pos w]; exact a3 h O k ct hk
          · rw [mst t b0 g mt, if_pos w]; exact a4 t b0 g mt h13
        · refine Or.inr ⟨p', cl, ln, ans, by omega, a2, a3, a4, a5, fun h O k ct hk => ?_, fun t b0 g mt h13 => ?_⟩
          · rw [cst h O k ct, if_pos w]; exact a6 h O k ct hk
          · rw [mst t b0 g mt, if_pos w]; exact a7 t b0 g mt h13
      · rcases sum_all (T := T) (n := n) (d := 0) (p := P) hn h240 (by omega) (by omega) b3.2 with ⟨Q, u1, u2, u3, u4⟩ | ⟨p2, c2, v2, u1, u2, u3, u4, u5, u6⟩
        · refine Or.inl ⟨Q, by omega, u2, fun h O k ct hk => ?_, fun t b0 g mt h13 => ?_⟩
          · obtain ⟨O', k', e5⟩ := u3 h O k ct (by omega)
            refine ⟨O', k', ?_⟩
            rw [cst h O k ct, if_neg w]
            unfold X3_takeClause_46
            rw [if_pos rfl, show (0 : Int32) = zN 0 from rfl, e5, bd_some, if_neg (show ¬ (false = true) by decide)]
          · obtain ⟨v, a', d', e5⟩ := u4 t b0 g mt
            refine ⟨a', d', ?_⟩
            rw [mst t b0 g mt, if_neg w, e5, bd_some, ms_11, if_neg (zN_nm1 (by omega)), m_134f (by omega)]
        · have b4 := skp_b (T := T) u2
          have e46 : ∀ (h : Mm) (O : Nat → Int32) (k : Nat), CT T s h → k ≤ p → X3_takeClause n (stL h p O k) = if sg T s (skp T s p2) = 61 ∨ sg T s (skp T s p2) = 60 ∨ sg T s (skp T s p2) = 62 then X3_takeClause_88 n true (stL h (skp T s p2) (wrL O k c2) (k + c2.length)) else some (true, stL h (skp T s p2) (wrL O k (c2 ++ [-17])) (k + (c2.length + 1))) := fun h O k ct hk => by
            rw [cst h O k ct, if_neg w]
            unfold X3_takeClause_46 X3_takeClause_61
            rw [if_pos rfl, show (0 : Int32) = zN 0 from rfl, u5 h O k ct (by omega), bd_some, if_pos rfl, if_pos rfl, st_sgn hn ct u2, bd_some, j_ix hn (show stB 1028 = [61, 60, 62] from rfl) (by decide) (by decide) (sg_le ct _), bp_some, ix_1028 _ (by have := sg_le ct (skp T s p2); omega)]
            by_cases z1 : sg T s (skp T s p2) = 61
            · rw [if_pos z1, if_pos (show zN 0 ≤ zN 0 by decide), if_pos (Or.inl z1)]
            · rw [if_neg z1]
              by_cases z2 : sg T s (skp T s p2) = 60
              · rw [if_pos z2, if_pos (show zN 0 ≤ zN 1 by decide), if_pos (Or.inr (Or.inl z2))]
              · rw [if_neg z2]
                by_cases z3 : sg T s (skp T s p2) = 62
                · rw [if_pos z3, if_pos (show zN 0 ≤ zN 2 by decide), if_pos (Or.inr (Or.inr z3))]
                · rw [if_neg z3, if_neg (show ¬ zN 0 ≤ -1 by decide), if_neg (by omega), c_order (by omega), bd_some, wrL_app]
                  rfl
          have emm : ∀ (t b0 : Nat) (g : Mm), MT T s t b0 g → X12_clause n (ms g p (-1) (zN 0)) = if sg T s (skp T s p2) = 61 ∨ sg T s (skp T s p2) = 60 ∨ sg T s (skp T s p2) = 62 then (bd (X12_condition n (X12_unit n 9) true (v2 (lm g)) (ms g (skp T s p2) (-1) (zN 0))) (fun r109 h111 => (bd (X12_takes n (63 : Int32) h111) (fun r112 h114 => (if r112 = true then (bd (X12_sum n (X12_atom n 9) h114) (fun r115 h117 => (X12_clause_134 n (zN 121) r109 r115 h117))) else (some ((), h114))))))) else X12_clause_134 n (zN 121) true (v2 (lm g)) (ms g (skp T s p2) (-1) (zN 0)) := fun t b0 g mt => by
            rw [mst t b0 g mt, if_neg w, u6 t b0 g mt, bd_some, ms_11, if_pos rfl, m_look mt hn u2, bd_some, m_isSign (T_le mt _), bp_some]
            by_cases z : sg T s (skp T s p2) = 61 ∨ sg T s (skp T s p2) = 60 ∨ sg T s (skp T s p2) = 62
            · rw [decide_eq_true z, if_pos rfl, if_pos z]
            · rw [decide_eq_false z, if_neg (show ¬ (false = true) by decide), if_neg z]
          by_cases z : sg T s (skp T s p2) = 61 ∨ sg T s (skp T s p2) = 60 ∨ sg T s (skp T s p2) = 62
          · have hq := unit_q (T := T) (n := n) (d := 0) (p := skp T s p2) hn h240 (by omega) (by omega) b4.2 (X3_takeInnerUnit n 9) u4 (by omega)
            have ht := truth_q (mU := 16) (d := 0) hn h240 (by omega) (cl_unit hn h240) (show 2 ≤ skp T s p2 by omega) b4.2 hq
            have hb := cond_q (mU := 17) (d := 0) hn h240 (by omega) (cl_truth hn h240) (show 2 ≤ skp T s p2 by omega) b4.2 ht
            rcases tail88 (p0 := p) hn h240 (show 2 ≤ skp T s p2 by omega) (by omega) (by omega) hb with ⟨Q, a1, a2, a3, a4⟩ | ⟨p', cl, ln, ans, a1, a2, a3, a4, a5, a6, a7⟩
            · refine Or.inl ⟨Q, by omega, a2, fun h O k ct hk => ?_, fun t b0 g mt h13 => ?_⟩
              · rw [e46 h O k ct hk, if_pos z]; exact a3 h O k ct hk
              · rw [emm t b0 g mt, if_pos z]; exact a4 t b0 g mt h13
            · refine Or.inr ⟨p', cl, ln, ans, by omega, a2, a3, a4, a5, fun h O k ct hk => ?_, fun t b0 g mt h13 => ?_⟩
              · rw [e46 h O k ct hk, if_pos z]; exact a6 h O k ct hk
              · rw [emm t b0 g mt, if_pos z]; exact a7 t b0 g mt h13
          · refine Or.inr ⟨skp T s p2, fun _ => c2 ++ [-17], c2.length + 1, fun L => some (v2 L), by omega, b4.2, by omega, fun _ => by rw [List.length_append]; rfl, CLX_sum u4 (by omega), fun h O k ct hk => ?_, fun t b0 g mt h13 => ?_⟩
            · rw [e46 h O k ct hk, if_neg z]
            · rw [emm t b0 g mt, if_neg z, m_134 h13]; rfl
    · refine Or.inl ⟨skp T s (skp T s p + 1), by omega, b2.2, fun h O k ct hk => ⟨O, k, ?_⟩, fun t b0 g mt h13 => ⟨skp T s (skp T s p + 1), zN 0, ?_⟩⟩
      · unfold X3_takeClause
        rw [show (121 : Int32) = zN 121 from rfl, show (58 : Int32) = zN 58 from rfl, st_take hn ct hp (by decide), if_pos y, bd_some, if_pos rfl, st_take hn ct l1 (by decide), if_neg c, bd_some, if_neg (show ¬ (false = true) by decide)]
      · unfold X12_clause
        rw [m_look mt hn hp, bd_some, m_own hn (T_le mt _), bp_some, decide_eq_true y, if_pos rfl, ms_inc, show (58 : Int32) = zN 58 from rfl, m_takes mt hn l1 (by decide) (by decide), if_neg c, bd_some, if_neg (show ¬ (false = true) by decide)]
  · refine Or.inl ⟨skp T s p, b.1, b.2, fun h O k ct hk => ⟨O, k, ?_⟩, fun t b0 g mt h13 => ⟨skp T s p, zN 0, ?_⟩⟩
    · unfold X3_takeClause
      rw [show (121 : Int32) = zN 121 from rfl, st_take hn ct hp (by decide), if_neg y, bd_some, if_neg (show ¬ (false = true) by decide)]
    · unfold X12_clause
      rw [m_look mt hn hp, bd_some, m_own hn (T_le mt _), bp_some, decide_eq_false y, if_neg (show ¬ (false = true) by decide), m_fail, bd_some]
