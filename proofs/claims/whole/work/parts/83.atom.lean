/-! atoms -/
theorem nmF_v (T : Nat → Nat) (s : Nat) : ∀ d v p w, (nmF T s d v p).1 = some w → w < (v + 1) * 10 ^ d
  | 0, v, p, w, h => by
    unfold nmF at h
    by_cases c : dg T s p = true
    · rw [if_pos c] at h; cases h
    · rw [if_neg c] at h
      have := Option.some.inj h
      rw [Nat.pow_zero]; omega
  | d + 1, v, p, w, h => by
    unfold nmF at h
    by_cases c : dg T s p = true
    · rw [if_pos c] at h
      have := dg_lt c
      have h2 := nmF_v T s d (v * 10 + (sg T s p - 48)) (p + 1) w h
      have h3 : (v * 10 + (sg T s p - 48) + 1) * 10 ^ d ≤ (v * 10 + 10) * 10 ^ d := Nat.mul_le_mul_right _ (by omega)
      rw [Nat.pow_succ, show (v + 1) * (10 ^ d * 10) = (v * 10 + 10) * 10 ^ d by rw [Nat.mul_comm (10 ^ d) 10, ← Nat.mul_assoc, Nat.add_mul]]
      omega
    · rw [if_neg c] at h
      have := Option.some.inj h
      have h3 : 1 ≤ 10 ^ (d + 1) := Nat.one_le_pow _ _ (by decide)
      have h4 : (v + 1) * 1 ≤ (v + 1) * 10 ^ (d + 1) := Nat.mul_le_mul_left _ h3
      omega
theorem m_a90 {T : Nat → Nat} {s t b0 n : Nat} {g : Mm} {dp : Int32} (mt : MT T s t b0 g) (rf : Mm → Option (Int32 × Mm)) : ∀ (d q k v p : Nat), k + d = 4 → d < q → p ≤ s → (∀ w, (nmF T s d v p).1 = some w → X12_atom_90 n rf q (zN v) (zN k) (ms g p (-1) dp) = some (zN w, ms g (nmF T s d v p).2 (-1) dp)) ∧ ((nmF T s d v p).1 = none → X12_atom_90 n rf q (zN v) (zN k) (ms g p (-1) dp) = some (0, ms g (nmF T s d v p).2 (zN (nmF T s d v p).2) dp)) := by
  intro d
  induction d with
  | zero =>
    intro q k v p hk hq hp
    obtain ⟨q, rfl⟩ : ∃ m, q = m + 1 := ⟨q - 1, by omega⟩
    obtain rfl : k = 4 := by omega
    unfold X12_atom_90 X12_atom_156 nmF
    rw [m_isDig (n := n) mt hp, bp_some, ms_11, if_pos rfl, if_pos (show zN 4 = 4 from rfl), m_fail, bd_some]
    by_cases c : dg T s p = true
    · rw [if_pos c, if_pos c]
      exact ⟨fun w e => (by cases e), fun _ => rfl⟩
    · rw [if_neg c, if_neg c]
      exact ⟨fun w e => by rw [← Option.some.inj e], fun e => by cases e⟩
  | succ d ih =>
    intro q k v p hk hq hp
    obtain ⟨q, rfl⟩ : ∃ m, q = m + 1 := ⟨q - 1, by omega⟩
    unfold X12_atom_90 X12_atom_156 nmF
    rw [m_isDig (n := n) mt hp, bp_some, ms_11, if_pos rfl, if_neg (show ¬ zN k = 4 by rw [zN_lit, zN_eq (by omega) (by decide)]; omega)]
    by_cases c : dg T s p = true
    · obtain ⟨a1, a2, a3⟩ := dg_lt c
      obtain ⟨r1, r2, r3⟩ := m_rd (n := n) (T := T) (fl := -1) (dp := dp) mt a1
      have es : sg T s p = T p := by unfold sg; rw [if_pos a1]
      rw [if_pos c, if_pos c, r1, bp_some, if_pos r2, r3, ms_inc, by_d _ (by omega) (by omega) (by omega), show (10 : Int32) = zN 10 from rfl, show (48 : Int32) = zN 48 from rfl, zN_mul, zN_add, zN_sub (by omega), sN1, es, show 10 * v + T p - 48 = v * 10 + (T p - 48) by omega]
      exact ih q (k + 1) _ (p + 1) (by omega) (by omega) (by omega)
    · rw [if_neg c, if_neg c]
      exact ⟨fun w e => by rw [← Option.some.inj e], fun e => by cases e⟩
theorem ix_1025 : ∀ c, c < 256 → ixN (zN c).toInt8.toInt32 [99, 118, 98, 112, 110, 116] 0 = if c = 99 then zN 0 else if c = 118 then zN 1 else if c = 98 then zN 2 else if c = 112 then zN 3 else if c = 110 then zN 4 else if c = 116 then zN 5 else -1 := by decide +kernel
theorem am_1032 : ∀ c, c < 256 → decide (ixN (zM c) [99, 118, 98, 112, 110, 116] 0 ≠ -1) = decide (c = 99 ∨ c = 118 ∨ c = 98 ∨ c = 112 ∨ c = 110 ∨ c = 116) := by decide +kernel
theorem chk (l : List Int32) (h : ∀ x ∈ l, ∃ k, k < 256 ∧ x = zN k) : ∀ j (hj : j < l.length), ∃ k, k < 256 ∧ l[j] = zN k := fun j hj => h _ (List.getElem_mem hj)
theorem ch_let : ∀ x ∈ ([99, 118, 98, 112, 110, 116] : List Int32), ∃ k, k < 256 ∧ x = zN k := by
  intro x hx
  simp only [List.mem_cons, List.not_mem_nil, or_false] at hx
  rcases hx with rfl | rfl | rfl | rfl | rfl | rfl
  · exact ⟨99, by decide, rfl⟩
  · exact ⟨118, by decide, rfl⟩
  · exact ⟨98, by decide, rfl⟩
  · exact ⟨112, by decide, rfl⟩
  · exact ⟨110, by decide, rfl⟩
  · exact ⟨116, by decide, rfl⟩
theorem m_let {n c : Nat} {g : Mm} (hn : 20000 ≤ n) (hc : c ≤ 255) : X12_isAmong n 1032 (zM c) g = some (decide (c = 99 ∨ c = 118 ∨ c = 98 ∨ c = 112 ∨ c = 110 ∨ c = 116)) := by
  unfold X12_isAmong
  rw [← am_1032 c (by omega)]
  exact m_among (zM c) (show stB 1032 = [99, 118, 98, 112, 110, 116] from rfl) (by decide) (chk _ ch_let) 6 n 0 rfl (by omega)
/-- which letter -/
def lnum (c : Nat) : Nat := if c = 99 then 0 else if c = 118 then 1 else if c = 98 then 2 else if c = 112 then 3 else if c = 110 then 4 else 5
theorem lm_c {g : Mm} {c : Nat} (h : c = 99 ∨ c = 118 ∨ c = 98 ∨ c = 112 ∨ c = 110 ∨ c = 116) : g.1 255 c = lm g (lnum c) ∧ lnum c < 6 ∧ ixN (zN c).toInt8.toInt32 [99, 118, 98, 112, 110, 116] 0 = zN (lnum c) := by
  rcases h with rfl | rfl | rfl | rfl | rfl | rfl
  all_goals exact ⟨rfl, by decide, by decide⟩
theorem Ex_num {k m : Nat} (hk : k ≤ 100000) (hm : 1 ≤ m) : Ex [zN k] m (fun _ => zN k) := ⟨(CR_num hk).mono hm, fun _ _ => lbN hk⟩
theorem Ex_let {k m : Nat} (hk : k < 6) (hm : 1 ≤ m) : Ex [(-1 : Int32) - zN k] m (fun L => L k) := ⟨(CR_let hk).mono hm, fun _ hL => hL k hk⟩
theorem atom_one {T : Nat → Nat} {s n j e e' d p : Nat} (hn : 20000 ≤ n) (h240 : s ≤ 240) (he : j < e) (he' : j < e') (hd : d + j = 6) (h2 : 2 ≤ p) (hp : p ≤ s) (ih : ∀ j', j = j' + 1 → ∀ (e e' p : Nat), j' < e → j' < e' → 2 ≤ p → p ≤ s → SP T s (2 * j' + 1) (X3_takeAtom n e (zN (d + 1))) (X12_atom n e') p (d + 1)) : SP T s (2 * j + 1) (X3_takeAtom n e (zN d)) (X12_atom n e') p d := by
  obtain ⟨e, rfl⟩ : ∃ m, e = m + 1 := ⟨e - 1, by omega⟩
  obtain ⟨e', rfl⟩ : ∃ m, e' = m + 1 := ⟨e' - 1, by omega⟩
  have b := skp_b (T := T) hp
  have id0 := skp_id (T := T) hp
  -- how both begin
  have cst : ∀ (h : Mm) (O : Nat → Int32) (k : Nat), CT T s h → X3_takeAtom n (e + 1) (zN d) (stL h p O k) = (if zN (sg T s (skp T s p)) = 91 then (if zN d < 6 then (bd (X3_takeSum n (X3_takeAtom n e) (zN d + 1) (stL h (skp T s p + 1) O k)) (fun r37 h39 => (if r37 = true then (bd (X7_take n (93 : Int32) h39) (fun r40 h42 => (if r40 = true then (some (true, h42)) else (some (false, h42))))) else (some (false, h39))))) else (some (false, stL h (skp T s p) O k))) else (bd (X7_takeOneOf n 1025 (stL h (skp T s p) O k)) (fun r25 h27 => (if r25 < 0 then (bd (X7_takeNumber n (4 : Int32) h27) (fun r28 h30 => (if 0 ≤ r28 then (bd (X3_order r28 h30) (fun _ h33 => (some (true, h33)))) else (some (false, h30))))) else (bd (X3_order ((-1 : Int32) - r25) h27) (fun _ h36 => (some (true, h36)))))))) := fun h O k ct => by
    rw [X3_takeAtom]
    unfold X3_takeAtom_b stL
    rw [c_sign hn ct.ob hp, bd_some, mk_inc]
  have mst : ∀ (t b0 : Nat) (g : Mm), MT T s t b0 g → X12_atom n (e' + 1) (ms g p (-1) (zN d)) = (if (decide (sg T s (skp T s p) = 99 ∨ sg T s (skp T s p) = 118 ∨ sg T s (skp T s p) = 98 ∨ sg T s (skp T s p) = 112 ∨ sg T s (skp T s p) = 110 ∨ sg T s (skp T s p) = 116)) = true then (if inB (zM (sg T s (skp T s p))) (aln 255) then (some (((ms g (skp T s p + 1) (-1) (zN d)).1 255 (zM (sg T s (skp T s p))).toNatClampNeg), ms g (skp T s p + 1) (-1) (zN d))) else none) else (if zM (sg T s (skp T s p)) = (91 : Int32) then (bd (X12_goesIn (ms g (skp T s p) (-1) (zN d))) (fun r111 h113 => (if r111 = true then (bd (X12_sum n (X12_atom n e') h113) (fun r114 h116 => (bd (X12_takes n (93 : Int32) h116) (fun r117 h119 => (if r117 = true then (some (r114, (wI h119 251 12 ((h119.1 251 12) - (1 : Int32))))) else (some ((0 : Int32), h119))))))) else (some ((0 : Int32), h113))))) else (if dg T s (skp T s p) = true then (X12_atom_86 n (X12_atom n e') (ms g (skp T s p) (-1) (zN d))) else (X12_atom_86 n (X12_atom n e') (ms g (skp T s p) (zN (skp T s p)) (zN d)))))) := fun t b0 g mt => by
    rw [X12_atom]
    unfold X12_atom_b
    rw [m_look mt hn hp, bd_some, m_let hn (T_le mt _), bp_some, ms_inc, m_isDig (n := n) mt b.2, bp_some, m_fail, bd_some]
  by_cases c91 : sg T s (skp T s p) = 91
  · have lt : skp T s p < s := sg_lt (T := T) (show sg T s (skp T s p) ≠ 0 by omega)
    have m0 : ∀ (t b0 : Nat) (g : Mm), MT T s t b0 g → X12_atom n (e' + 1) (ms g p (-1) (zN d)) = bd (X12_goesIn (ms g (skp T s p) (-1) (zN d))) (fun r111 h113 => (if r111 = true then (bd (X12_sum n (X12_atom n e') h113) (fun r114 h116 => (bd (X12_takes n (93 : Int32) h116) (fun r117 h119 => (if r117 = true then (some (r114, (wI h119 251 12 ((h119.1 251 12) - (1 : Int32))))) else (some ((0 : Int32), h119))))))) else (some ((0 : Int32), h113)))) := fun t b0 g mt => by
      rw [mst t b0 g mt, decide_eq_false (by omega), if_neg (show ¬ (false = true) by decide), if_pos (show zM (sg T s (skp T s p)) = 91 by rw [c91]; rfl)]
    by_cases j0 : j = 0
    · have d6 : d = 6 := by omega
      refine Or.inl ⟨skp T s p, b.1, b.2, fun h O k ct hk => ⟨O, k, ?_⟩, fun t b0 g mt => ⟨0, skp T s p, zN d, ?_⟩⟩
      · rw [cst h O k ct, if_pos (show zN (sg T s (skp T s p)) = 91 by rw [c91]; rfl), if_neg (show ¬ zN d < 6 by rw [d6]; decide)]
      · rw [m0 t b0 g mt]
        unfold X12_goesIn
        rw [ms_12, if_pos (show zN d = 6 by rw [d6]; rfl), m_fail, bd_some, bd_some, if_neg (show ¬ (false = true) by decide)]
    · obtain ⟨j', rfl⟩ : ∃ j', j = j' + 1 := ⟨j - 1, by omega⟩
      have gi : ∀ g : Mm, X12_goesIn (ms g (skp T s p) (-1) (zN d)) = some (true, ms g (skp T s p + 1) (-1) (zN (d + 1))) := fun g => by
        unfold X12_goesIn
        rw [ms_12, if_neg (show ¬ zN d = 6 by rw [zN_lit, zN_eq (by omega) (by decide)]; omega), sN1, ms_w12, ms_inc]
      have aa : ∀ p, 2 ≤ p → p ≤ s → SP T s (2 * j' + 1) (X3_takeAtom n e (zN (d + 1))) (X12_atom n e') p (d + 1) := fun p h2 hp => ih j' rfl e e' p (by omega) (by omega) h2 hp
      have tt : ∀ p, 2 ≤ p → p ≤ s → SP T s (2 * j' + 1 + 1) (X3_takeTerm n (X3_takeAtom n e) (zN (d + 1))) (X12_term n (X12_atom n e')) p (d + 1) := fun p h2 hp => term_sp hn h240 (by omega) aa h2 hp
      rcases sum_sp hn h240 (show 1 ≤ 2 * j' + 1 + 1 by omega) tt (show 2 ≤ skp T s p + 1 by omega) (by omega) with ⟨Q, a1, a2, a3, a4⟩ | ⟨p2, c2, v2, a1, a2, a3, a4, a5, a6⟩
      · refine Or.inl ⟨Q, by omega, a2, fun h O k ct hk => ?_, fun t b0 g mt => ?_⟩
        · obtain ⟨O', k', e1⟩ := a3 h O k ct (by omega)
          rw [cst h O k ct, if_pos (show zN (sg T s (skp T s p)) = 91 by rw [c91]; rfl), if_pos (show zN d < 6 from (zN_lt (b := 6) (by omega) (by decide)).mpr (by omega)), sN1, e1, bd_some]
          exact ⟨O', k', rfl⟩
        · obtain ⟨v, a', d', e1⟩ := a4 t b0 g mt
          rw [m0 t b0 g mt, gi g, bd_some, if_pos rfl, e1, bd_some, show (93 : Int32) = zN 93 from rfl, m_takes2 (by omega), bd_some]
          exact ⟨0, a', d', rfl⟩
      · have b2 := skp_b (T := T) a2
        by_cases z : sg T s (skp T s p2) = 93
        · have lt2 : skp T s p2 < s := sg_lt (T := T) (show sg T s (skp T s p2) ≠ 0 by omega)
          refine Or.inr ⟨skp T s p2 + 1, c2, v2, by omega, by omega, by omega, a4.mono (by omega), fun h O k ct hk => ?_, fun t b0 g mt => ?_⟩
          · rw [cst h O k ct, if_pos (show zN (sg T s (skp T s p)) = 91 by rw [c91]; rfl), if_pos (show zN d < 6 from (zN_lt (b := 6) (by omega) (by decide)).mpr (by omega)), sN1, a5 h O k ct (by omega), bd_some, if_pos rfl]
            unfold stL
            rw [show (93 : Int32) = zN 93 from rfl, c_take hn ct.ob a2 (by decide), if_pos z, bd_some, if_pos rfl]
          · rw [m0 t b0 g mt, gi g, bd_some, if_pos rfl, a6 t b0 g mt, bd_some, show (93 : Int32) = zN 93 from rfl, m_takes mt hn a2 (by decide) (by decide), if_pos z, bd_some, if_pos rfl, ms_12, show zN (d + 1) - 1 = zN d by rw [show (1 : Int32) = zN 1 from rfl, zN_sub (by omega)]; rfl, ms_w12]
        · refine Or.inl ⟨skp T s p2, by omega, b2.2, fun h O k ct hk => ⟨wrL O k c2, k + c2.length, ?_⟩, fun t b0 g mt => ⟨0, skp T s p2, zN (d + 1), ?_⟩⟩
          · rw [cst h O k ct, if_pos (show zN (sg T s (skp T s p)) = 91 by rw [c91]; rfl), if_pos (show zN d < 6 from (zN_lt (b := 6) (by omega) (by decide)).mpr (by omega)), sN1, a5 h O k ct (by omega), bd_some, if_pos rfl]
            unfold stL
            rw [show (93 : Int32) = zN 93 from rfl, c_take hn ct.ob a2 (by decide), if_neg z, bd_some, if_neg (show ¬ (false = true) by decide)]
          · rw [m0 t b0 g mt, gi g, bd_some, if_pos rfl, a6 t b0 g mt, bd_some, show (93 : Int32) = zN 93 from rfl, m_takes mt hn a2 (by decide) (by decide), if_neg z, bd_some, if_neg (show ¬ (false = true) by decide)]
  · have c91' : ∀ (h : Mm), CT T s h → ¬ zN (sg T s (skp T s p)) = 91 := fun h ct => by
      have := sg_le ct (skp T s p)
      rw [zN_lit, zN_eq (by omega) (by decide)]; exact c91
    have c91m : ∀ (t b0 : Nat) (g : Mm), MT T s t b0 g → ¬ zM (sg T s (skp T s p)) = 91 := fun t b0 g mt z => c91 ((zM_eq (T_le mt _) (by decide) (by decide)).mp z)
    by_cases lt : sg T s (skp T s p) = 99 ∨ sg T s (skp T s p) = 118 ∨ sg T s (skp T s p) = 98 ∨ sg T s (skp T s p) = 112 ∨ sg T s (skp T s p) = 110 ∨ sg T s (skp T s p) = 116
    · have ls : skp T s p < s := sg_lt (T := T) (show sg T s (skp T s p) ≠ 0 by omega)
      obtain ⟨-, l2, l3⟩ := lm_c (g := (fun _ _ => 0, fun _ _ => 0)) lt
      refine Or.inr ⟨skp T s p + 1, [(-1 : Int32) - zN (lnum (sg T s (skp T s p)))], fun L => L (lnum (sg T s (skp T s p))), by omega, by omega, by show 1 ≤ _; omega, Ex_let l2 (by omega), fun h O k ct hk => ?_, fun t b0 g mt => ?_⟩
      · rw [cst h O k ct, if_neg (c91' h ct)]
        unfold stL
        rw [c_one hn ct.ob b.2 (show stB 1025 = [99, 118, 98, 112, 110, 116] from rfl) (by decide) (by decide), id0, l3, if_neg (show ¬ zN (lnum (sg T s (skp T s p))) < 0 from zN_neg0 (by omega)), bd_some, if_neg (show ¬ zN (lnum (sg T s (skp T s p))) < 0 from zN_neg0 (by omega))]
        exact (congrArg (fun x => bd x (fun _ h36 => (some (true, h36) : Option (Bool × Mm)))) (c_order (h := h) (p := skp T s p + 1) (k := k) (O := O) (v := (-1 : Int32) - zN (lnum (sg T s (skp T s p)))) (by omega))).trans rfl
      · have lt' := lt
        have e0 : zM (sg T s (skp T s p)) = zN (sg T s (skp T s p)) := by unfold zM; rw [if_neg (by omega)]
        rw [mst t b0 g mt, decide_eq_true lt, if_pos rfl, e0, if_pos (show inB (zN (sg T s (skp T s p))) (aln 255) by rw [al_255, zN_inB (by omega)]; omega), zN_ix (by omega), ms_i (by decide), (lm_c (g := g) lt).1]
    · by_cases dd : dg T s (skp T s p) = true
      · obtain ⟨d1, d2, d3⟩ := dg_lt dd
        have nb := nmF_b T s 4 0 (skp T s p) b.2
        have ng : skp T s p + 1 ≤ (nmF T s 4 0 (skp T s p)).2 := by
          have e1 : nmF T s 4 0 (skp T s p) = nmF T s 3 (0 * 10 + (sg T s (skp T s p) - 48)) (skp T s p + 1) := by
            show (if dg T s (skp T s p) = true then nmF T s 3 (0 * 10 + (sg T s (skp T s p) - 48)) (skp T s p + 1) else (some 0, skp T s p)) = _
            rw [if_pos dd]
          rw [e1]; exact (nmF_b T s 3 _ (skp T s p + 1) (by omega)).1
        have cnum : ∀ (h : Mm) (O : Nat → Int32) (k : Nat), CT T s h → X3_takeAtom n (e + 1) (zN d) (stL h p O k) = (if 0 ≤ oZ (nmF T s 4 0 (skp T s p)).1 then (bd (X3_order (oZ (nmF T s 4 0 (skp T s p)).1) (stL h (nmF T s 4 0 (skp T s p)).2 O k)) (fun _ h33 => (some (true, h33)))) else (some (false, stL h (nmF T s 4 0 (skp T s p)).2 O k))) := fun h O k ct => by
          have sl := sg_le ct (skp T s p)
          rw [cst h O k ct, if_neg (c91' h ct)]
          unfold stL
          rw [c_one hn ct.ob b.2 (show stB 1025 = [99, 118, 98, 112, 110, 116] from rfl) (by decide) (by decide), id0, ix_1025 _ (by omega), if_neg (show ¬ sg T s (skp T s p) = 99 by omega), if_neg (show ¬ sg T s (skp T s p) = 118 by omega), if_neg (show ¬ sg T s (skp T s p) = 98 by omega), if_neg (show ¬ sg T s (skp T s p) = 112 by omega), if_neg (show ¬ sg T s (skp T s p) = 110 by omega), if_neg (show ¬ sg T s (skp T s p) = 116 by omega), if_pos (show (-1 : Int32) < 0 by decide), bd_some, if_pos (show (-1 : Int32) < 0 by decide), show (4 : Int32) = zN 4 from rfl, c_number hn ct.ob (by decide) b.2, id0, if_pos dd, bd_some]
        have m1 : ∀ (t b0 : Nat) (g : Mm), MT T s t b0 g → X12_atom n (e' + 1) (ms g p (-1) (zN d)) = X12_atom_90 n (X12_atom n e') n (zN 0) (zN 0) (ms g (skp T s p) (-1) (zN d)) := fun t b0 g mt => by
          rw [mst t b0 g mt, decide_eq_false lt, if_neg (show ¬ (false = true) by decide), if_neg (c91m t b0 g mt), if_pos dd]; rfl
        cases hv : (nmF T s 4 0 (skp T s p)).1 with
        | none =>
          refine Or.inl ⟨(nmF T s 4 0 (skp T s p)).2, by omega, nb.2, fun h O k ct hk => ⟨O, k, ?_⟩, fun t b0 g mt => ⟨0, (nmF T s 4 0 (skp T s p)).2, zN d, ?_⟩⟩
          · rw [cnum h O k ct, hv, if_neg (show ¬ (0 : Int32) ≤ oZ none by decide)]
          · rw [m1 t b0 g mt]
            exact (m_a90 (n := n) (dp := zN d) mt (X12_atom n e') 4 n 0 0 (skp T s p) (by omega) (by omega) b.2).2 hv
        | some w =>
          have wl := nmF_v T s 4 0 (skp T s p) w hv
          have wl' : w < 10000 := by simpa using wl
          refine Or.inr ⟨(nmF T s 4 0 (skp T s p)).2, [zN w], fun _ => zN w, by omega, nb.2, by show 1 ≤ _; omega, Ex_num (by omega) (by omega), fun h O k ct hk => ?_, fun t b0 g mt => ?_⟩
          · rw [cnum h O k ct, hv]
            show (if 0 ≤ zN w then _ else _) = _
            rw [if_pos (show (0 : Int32) ≤ zN w from (zN_le (a := 0) (by decide) (by omega)).mpr (by omega))]
            show bd (X3_order (zN w) _) _ = _
            rw [c_order (by omega), bd_some]; rfl
          · rw [m1 t b0 g mt]
            exact (m_a90 (n := n) (dp := zN d) mt (X12_atom n e') 4 n 0 0 (skp T s p) (by omega) (by omega) b.2).1 w hv
      · refine Or.inl ⟨skp T s p, b.1, b.2, fun h O k ct hk => ⟨O, k, ?_⟩, fun t b0 g mt => ⟨0, skp T s p, zN d, ?_⟩⟩
        · have sl := sg_le ct (skp T s p)
          rw [cst h O k ct, if_neg (c91' h ct)]
          unfold stL
          rw [c_one hn ct.ob b.2 (show stB 1025 = [99, 118, 98, 112, 110, 116] from rfl) (by decide) (by decide), id0, ix_1025 _ (by omega), if_neg (show ¬ sg T s (skp T s p) = 99 by omega), if_neg (show ¬ sg T s (skp T s p) = 118 by omega), if_neg (show ¬ sg T s (skp T s p) = 98 by omega), if_neg (show ¬ sg T s (skp T s p) = 112 by omega), if_neg (show ¬ sg T s (skp T s p) = 110 by omega), if_neg (show ¬ sg T s (skp T s p) = 116 by omega), if_pos (show (-1 : Int32) < 0 by decide), bd_some, if_pos (show (-1 : Int32) < 0 by decide), show (4 : Int32) = zN 4 from rfl, c_number hn ct.ob (by decide) b.2, id0, if_neg dd, bd_some, if_neg (show ¬ (0 : Int32) ≤ -1 by decide)]
        · rw [mst t b0 g mt, decide_eq_false lt, if_neg (show ¬ (false = true) by decide), if_neg (c91m t b0 g mt), if_neg dd]
          unfold X12_atom_86
          obtain ⟨n', en⟩ : ∃ n', n = n' + 1 := ⟨n - 1, by omega⟩
          have e2 : X12_atom_90 n (X12_atom n e') (n' + 1) 0 0 (ms g (skp T s p) (zN (skp T s p)) (zN d)) = some (0, ms g (skp T s p) (zN (skp T s p)) (zN d)) := by
            rw [X12_atom_90]
            unfold X12_atom_156
            rw [m_isDig (n := n) mt b.2, bp_some, if_neg dd]
          rw [← en] at e2
          exact e2
theorem atom_sp {T : Nat → Nat} {s n : Nat} (hn : 20000 ≤ n) (h240 : s ≤ 240) : ∀ (j e e' d p : Nat), j < e → j < e' → d + j = 6 → 2 ≤ p → p ≤ s → SP T s (2 * j + 1) (X3_takeAtom n e (zN d)) (X12_atom n e') p d := by
  intro j
  induction j with
  | zero =>
    intro e e' d p he he' hd h2 hp
    exact atom_one hn h240 (e := e) (e' := e') he he' hd h2 hp (fun j' z => by omega)
  | succ j ih =>
    intro e e' d p he he' hd h2 hp
    exact atom_one hn h240 (e := e) (e' := e') he he' hd h2 hp (fun j' z => by
      obtain rfl : j' = j := by omega
      intro e e' p he he' h2 hp
      exact ih e e' (d + 1) p he he' (by omega) h2 hp)

theorem sum_all {T : Nat → Nat} {s n d p : Nat} (hn : 20000 ≤ n) (h240 : s ≤ 240) (hd : d ≤ 6) (h2 : 2 ≤ p) (hp : p ≤ s) : SP T s (2 * (6 - d) + 3) (X3_takeSum n (X3_takeAtom n 9) (zN d)) (X12_sum n (X12_atom n 9)) p d := by
  have aa : ∀ p, 2 ≤ p → p ≤ s → SP T s (2 * (6 - d) + 1) (X3_takeAtom n 9 (zN d)) (X12_atom n 9) p d := fun p h2 hp => atom_sp hn h240 (6 - d) 9 9 d p (by omega) (by omega) (by omega) h2 hp
  have tt : ∀ p, 2 ≤ p → p ≤ s → SP T s (2 * (6 - d) + 1 + 1) (X3_takeTerm n (X3_takeAtom n 9) (zN d)) (X12_term n (X12_atom n 9)) p d := fun p h2 hp => term_sp hn h240 (by omega) aa h2 hp
  exact (sum_sp hn h240 (by omega) tt h2 hp).mono (by omega)
