/-! conditions -/
def BG (T : Nat → Nat) (s m : Nat) (FC FG : Mm → Option (Bool × Mm)) (p d : Nat) (c0 : List Int32) : Prop :=
  (∃ Q, p ≤ Q ∧ Q ≤ s ∧ (∀ h O k, CT T s h → k + c0.length + 2 ≤ p → ∃ O' k', FC (stL h p (wrL O k c0) (k + c0.length)) = some (false, stL h Q O' k')) ∧ (∀ t b0 g, MT T s t b0 g → ∃ v a d', FG g = some (v, ms g a (zN Q) d'))) ∨
  (∃ (p' : Nat) (c : List Int32) (v : (Nat → Int32) → Bool), p ≤ p' ∧ p' ≤ s ∧ c.length ≤ c0.length + (p' - p) ∧ Ex c m (fun L => b01 (v L)) ∧ (∀ h O k, CT T s h → k + c0.length + 2 ≤ p → FC (stL h p (wrL O k c0) (k + c0.length)) = some (true, stL h p' (wrL O k c) (k + c.length))) ∧ (∀ t b0 g, MT T s t b0 g → FG g = some (v (lm g), ms g p' (-1) (zN d))))
theorem BG.mono {T : Nat → Nat} {s m m' : Nat} {FC FG : Mm → Option (Bool × Mm)} {p d : Nat} {c0 : List Int32} (q : BG T s m FC FG p d c0) (h : m ≤ m') : BG T s m' FC FG p d c0 := by
  rcases q with q | ⟨p', c, v, q1, q2, q3, q4, q5, q6⟩
  · exact Or.inl q
  · exact Or.inr ⟨p', c, v, q1, q2, q3, q4.mono h, q5, q6⟩
theorem ix_1028 : ∀ c, c < 256 → ixN (zN c).toInt8.toInt32 [61, 60, 62] 0 = if c = 61 then zN 0 else if c = 60 then zN 1 else if c = 62 then zN 2 else -1 := by decide +kernel
theorem m_isSign {c : Nat} {g : Mm} (hc : c ≤ 255) : X12_isSign (zM c) g = some (decide (c = 61 ∨ c = 60 ∨ c = 62)) := by
  unfold X12_isSign X12_isSign_18
  by_cases a : c = 61
  · rw [if_pos (show zM c = 61 from (zM_eq hc (by decide) (by decide)).mpr a), decide_eq_true (Or.inl a)]
  · rw [if_neg (show ¬ zM c = 61 from fun z => a ((zM_eq hc (by decide) (by decide)).mp z))]
    by_cases b : c = 60
    · rw [if_pos (show zM c = 60 from (zM_eq hc (by decide) (by decide)).mpr b), decide_eq_true (Or.inr (Or.inl b))]
    · rw [if_neg (show ¬ zM c = 60 from fun z => b ((zM_eq hc (by decide) (by decide)).mp z))]
      by_cases e : c = 62
      · rw [if_pos (show zM c = 62 from (zM_eq hc (by decide) (by decide)).mpr e), decide_eq_true (Or.inr (Or.inr e))]
      · rw [if_neg (show ¬ zM c = 62 from fun z => e ((zM_eq hc (by decide) (by decide)).mp z)), decide_eq_false (by omega)]
theorem cmp45 {T : Nat → Nat} {s n d p m1 : Nat} (hn : 20000 ≤ n) (h240 : s ≤ 240) (hd : d ≤ 6) (h2 : 2 ≤ p) (hp : p ≤ s) (rf : Int32 → Int32 → Mm → Option (Bool × Mm)) {c1 : List Int32} {v1 : (Nat → Int32) → Int32} (e1 : Ex c1 m1 v1) (hm1 : m1 ≤ 2 * (6 - d) + 4) : BG T s (2 * (6 - d) + 4) (X3_takeUnit_45 n rf (zN d)) (fun g => X12_compares_12 n (v1 (lm g)) (ms g p (-1) (zN d))) p d c1 := by
  have b := skp_b (T := T) hp
  by_cases op : sg T s (skp T s p) = 61 ∨ sg T s (skp T s p) = 60 ∨ sg T s (skp T s p) = 62
  · have lt : skp T s p < s := sg_lt (T := T) (show sg T s (skp T s p) ≠ 0 by omega)
    have key : ∀ (o : Int32) (w : Int32 → Int32 → Int32) (wb : Int32 → Int32 → Bool) (ci : Nat), ((sg T s (skp T s p) = 61 ∧ o = -11 ∧ w = opE ∧ wb = (fun l r => decide (l = r)) ∧ ci = 0) ∨ (sg T s (skp T s p) = 60 ∧ o = -12 ∧ w = opL ∧ wb = (fun l r => decide (l < r)) ∧ ci = 1) ∨ (sg T s (skp T s p) = 62 ∧ o = -13 ∧ w = opG ∧ wb = (fun l r => decide (r < l)) ∧ ci = 2)) → BG T s (2 * (6 - d) + 4) (X3_takeUnit_45 n rf (zN d)) (fun g => X12_compares_12 n (v1 (lm g)) (ms g p (-1) (zN d))) p d c1 := by
      intro o w wb ci hc
      have ho : ¬ o = -17 ∧ (-100 : Int32) < o ∧ o < 0 ∧ o ≤ -7 ∧ ¬ o = -16 := by
        rcases hc with ⟨-, rfl, -⟩ | ⟨-, rfl, -⟩ | ⟨-, rfl, -⟩
        all_goals decide
      have hw : BinO o w := by
        rcases hc with ⟨-, rfl, rfl, -⟩ | ⟨-, rfl, rfl, -⟩ | ⟨-, rfl, rfl, -⟩
        · exact bo_E
        · exact bo_L
        · exact bo_G
      have hwb : ∀ l r, w l r = b01 (wb l r) := by
        intro l r
        rcases hc with ⟨-, -, rfl, rfl, -⟩ | ⟨-, -, rfl, rfl, -⟩ | ⟨-, -, rfl, rfl, -⟩
        all_goals rfl
      have hix : ixN (zN (sg T s (skp T s p))).toInt8.toInt32 [61, 60, 62] 0 = zN ci ∧ ci ≤ 2 ∧ (-11 : Int32) - zN ci = o := by
        rcases hc with ⟨e, rfl, -, -, rfl⟩ | ⟨e, rfl, -, -, rfl⟩ | ⟨e, rfl, -, -, rfl⟩
        · rw [e]; decide
        · rw [e]; decide
        · rw [e]; decide
      have cst : ∀ (h : Mm) (O : Nat → Int32) (k : Nat), CT T s h → X3_takeUnit_45 n rf (zN d) (stL h p O k) = bd (X3_takeSum n (X3_takeAtom n 9) (zN d) (stL h (skp T s p + 1) O k)) (fun r34 h36 => (if r34 = true then (bd (X3_order o h36) (fun _ h39 => (some (true, h39)))) else (some (false, h36)))) := fun h O k ct => by
        unfold X3_takeUnit_45 stL
        rw [c_one hn ct.ob hp (show stB 1028 = [61, 60, 62] from rfl) (by decide) (by decide), hix.1, if_neg (show ¬ zN ci < 0 from zN_neg0 (by omega)), bd_some, if_neg (show ¬ zN ci < 0 from zN_neg0 (by omega)), hix.2.2]
      have mst : ∀ (t b0 : Nat) (g : Mm) (x : Int32), MT T s t b0 g → X12_compares_12 n x (ms g p (-1) (zN d)) = bd (X12_sum n (X12_atom n 9) (ms g (skp T s p + 1) (-1) (zN d))) (fun r34 h36 => some (wb x r34, h36)) := fun t b0 g x mt => by
        have T2 := T_le mt (skp T s p)
        unfold X12_compares_12
        rw [ms_11, if_pos rfl, m_look mt hn hp, bd_some, m_isSign T2, bp_some, decide_eq_true op, if_pos rfl, ms_inc]
        congr 1; funext r34 h36
        rcases hc with ⟨e, -, -, rfl, -⟩ | ⟨e, -, -, rfl, -⟩ | ⟨e, -, -, rfl, -⟩
        · rw [if_pos (show zM (sg T s (skp T s p)) = 61 by rw [e]; rfl)]
          show _ = some (decide (x = r34), h36)
          by_cases z : x = r34
          · rw [if_pos z, decide_eq_true z]
          · rw [if_neg z, decide_eq_false z]
        · rw [if_neg (show ¬ zM (sg T s (skp T s p)) = 61 by rw [e]; decide), if_pos (show zM (sg T s (skp T s p)) = 60 by rw [e]; rfl)]
          show _ = some (decide (x < r34), h36)
          by_cases z : x < r34
          · rw [if_neg (Int32.not_le.mpr z), decide_eq_true z]
          · rw [if_pos (Int32.not_lt.mp z), decide_eq_false z]
        · rw [if_neg (show ¬ zM (sg T s (skp T s p)) = 61 by rw [e]; decide), if_neg (show ¬ zM (sg T s (skp T s p)) = 60 by rw [e]; decide)]
          show _ = some (decide (r34 < x), h36)
          by_cases z : r34 < x
          · rw [if_neg (Int32.not_le.mpr z), decide_eq_true z]
          · rw [if_pos (Int32.not_lt.mp z), decide_eq_false z]
      rcases sum_all (T := T) (n := n) (d := d) (p := skp T s p + 1) hn h240 hd (by omega) (by omega) with ⟨Q, a1, a2, a3, a4⟩ | ⟨p2, c2, v2, a1, a2, a3, a4, a5, a6⟩
      · refine Or.inl ⟨Q, by omega, a2, fun h O k ct hk => ?_, fun t b0 g mt => ?_⟩
        · obtain ⟨O', k', e5⟩ := a3 h (wrL O k c1) (k + c1.length) ct (by omega)
          rw [cst h _ _ ct, e5, bd_some]
          exact ⟨O', k', rfl⟩
        · obtain ⟨v, a', d', e5⟩ := a4 t b0 g mt
          show ∃ v a d', X12_compares_12 n (v1 (lm g)) (ms g p (-1) (zN d)) = some (v, ms g a (zN Q) d')
          rw [mst t b0 g _ mt, e5, bd_some]
          exact ⟨_, a', d', rfl⟩
      · refine Or.inr ⟨p2, c1 ++ (c2 ++ [o]), fun L => wb (v1 L) (v2 L), by omega, a2, by rw [len3]; omega, ⟨?_, fun L _ => b01_bd _⟩, fun h O k ct hk => ?_, fun t b0 g mt => ?_⟩
        · have cb := (CR_bin e1 a4 (by omega) ho hw).mono (show max m1 (2 * (6 - d) + 3 + 1) ≤ 2 * (6 - d) + 4 by omega)
          have ef : (fun L => w (v1 L) (v2 L)) = fun L => b01 (wb (v1 L) (v2 L)) := funext fun L => hwb _ _
          rw [ef] at cb
          exact cb
        · rw [cst h _ _ ct, a5 h _ _ ct (by omega), bd_some, if_pos rfl, c_order (by omega), bd_some, len3, wrL_app, wrL_app, show k + (c1.length + c2.length + 1) = k + c1.length + c2.length + 1 by omega]
          rfl
        · show X12_compares_12 n (v1 (lm g)) (ms g p (-1) (zN d)) = _
          rw [mst t b0 g _ mt, a6 t b0 g mt, bd_some]
    rcases op with e | e | e
    · exact key (-11) opE _ 0 (Or.inl ⟨e, rfl, rfl, rfl, rfl⟩)
    · exact key (-12) opL _ 1 (Or.inr (Or.inl ⟨e, rfl, rfl, rfl, rfl⟩))
    · exact key (-13) opG _ 2 (Or.inr (Or.inr ⟨e, rfl, rfl, rfl, rfl⟩))
  · refine Or.inl ⟨skp T s p, b.1, b.2, fun h O k ct hk => ⟨wrL O k c1, k + c1.length, ?_⟩, fun t b0 g mt => ⟨false, skp T s p, zN d, ?_⟩⟩
    · have sl := sg_le ct (skp T s p)
      unfold X3_takeUnit_45 stL
      rw [c_one hn ct.ob hp (show stB 1028 = [61, 60, 62] from rfl) (by decide) (by decide), ix_1028 _ (by omega), if_neg (show ¬ sg T s (skp T s p) = 61 by omega), if_neg (show ¬ sg T s (skp T s p) = 60 by omega), if_neg (show ¬ sg T s (skp T s p) = 62 by omega), if_pos (show (-1 : Int32) < 0 by decide), bd_some, if_pos (show (-1 : Int32) < 0 by decide)]
    · have T2 := T_le mt (skp T s p)
      show X12_compares_12 n (v1 (lm g)) (ms g p (-1) (zN d)) = _
      unfold X12_compares_12
      rw [ms_11, if_pos rfl, m_look mt hn hp, bd_some, m_isSign T2, bp_some, decide_eq_false op, if_neg (show ¬ (false = true) by decide), m_fail, bd_some]
theorem b01_and (a b : Bool) : opN (b01 a) (b01 b) = b01 (a && b) := by cases a <;> cases b <;> decide
theorem b01_or (a b : Bool) : opO (b01 a) (b01 b) = b01 (a || b) := by cases a <;> cases b <;> decide
theorem b01_not (a : Bool) : 1 - b01 a = b01 (!a) := by cases a <;> decide

theorem and_loop {T : Nat → Nat} {s n mU d : Nat} {RF : Int32 → Int32 → Mm → Option (Bool × Mm)} {UM : Mm → Option (Bool × Mm)} (hn : 20000 ≤ n) (h240 : s ≤ 240) (mU1 : 1 ≤ mU) (hU : ∀ p, 2 ≤ p → p ≤ s → BG T s mU (X3_takeUnit n RF (zN d) false) (fun g => UM (ms g p (-1) (zN d))) p d []) : ∀ (r p j q q' : Nat) (c0 : List Int32) (v0 : (Nat → Int32) → Bool), s - p ≤ r → p ≤ s → j + 2 ≤ p → r < q → r < q' → Ex c0 (mU + 1) (fun L => b01 (v0 L)) → BG T s (mU + 1) (X3_takeTruth_13 n RF q (zN d) (zN j)) (fun g => X12_part_18 n UM q' (v0 (lm g)) (ms g p (-1) (zN d))) p d c0 := by
  intro r
  induction r with
  | zero =>
    intro p j q q' c0 v0 hr hp hj hq hq' e0
    obtain ⟨q, rfl⟩ : ∃ m, q = m + 1 := ⟨q - 1, by omega⟩
    obtain ⟨q', rfl⟩ : ∃ m, q' = m + 1 := ⟨q' - 1, by omega⟩
    have sk : skp T s p = p := skp_nb (fun z => by omega)
    have s0 : sg T s p = 0 := by unfold sg; rw [if_neg (by omega)]
    refine Or.inr ⟨p, c0, v0, Nat.le_refl _, hp, by omega, e0, fun h O k ct hk => ?_, fun t b0 g mt => ?_⟩
    · unfold X3_takeTruth_13 stL
      rw [if_neg (show ¬ (240 : Int32) ≤ zN j by rw [zN_lit, zN_le (by decide) (by omega)]; omega), show (38 : Int32) = zN 38 from rfl, c_take hn ct.ob hp (by decide), sk, s0, if_neg (show ¬ 0 = 38 by decide), bd_some, if_neg (show ¬ (false = true) by decide)]
    · show X12_part_18 n UM (q' + 1) (v0 (lm g)) (ms g p (-1) (zN d)) = _
      unfold X12_part_18 X12_part_69
      rw [ms_11, if_pos rfl, m_look mt hn hp, bd_some, sk, s0, if_neg (show ¬ zM 0 = 38 by decide)]
  | succ r ih =>
    intro p j q q' c0 v0 hr hp hj hq hq' e0
    obtain ⟨q, rfl⟩ : ∃ m, q = m + 1 := ⟨q - 1, by omega⟩
    obtain ⟨q', rfl⟩ : ∃ m, q' = m + 1 := ⟨q' - 1, by omega⟩
    have b := skp_b (T := T) hp
    by_cases op : sg T s (skp T s p) = 38
    · have lt : skp T s p < s := sg_lt (T := T) (show sg T s (skp T s p) ≠ 0 by omega)
      obtain ⟨q'', rfl⟩ : ∃ m, q' = m + 1 := ⟨q' - 1, by omega⟩
      have cst : ∀ (h : Mm) (O : Nat → Int32) (k : Nat), CT T s h → X3_takeTruth_13 n RF (q + 1) (zN d) (zN j) (stL h p O k) = bd (X3_takeUnit n RF (zN d) false (stL h (skp T s p + 1) O k)) (fun r28 h30 => (if r28 = true then (bd (X3_order (-14 : Int32) h30) (fun _ h33 => ((X3_takeTruth_13 n RF q) (zN d) (zN (j + 1)) h33))) else (some (false, h30)))) := fun h O k ct => by
        rw [X3_takeTruth_13]
        unfold stL
        rw [if_neg (show ¬ (240 : Int32) ≤ zN j by rw [zN_lit, zN_le (by decide) (by omega)]; omega), show (38 : Int32) = zN 38 from rfl, c_take hn ct.ob hp (by decide), if_pos op, bd_some, if_pos rfl, sN1]
      have mst : ∀ (t b0 : Nat) (g : Mm) (x : Bool), MT T s t b0 g → X12_part_18 n UM (q'' + 1 + 1) x (ms g p (-1) (zN d)) = bd (UM (ms g (skp T s p + 1) (-1) (zN d))) (fun r34 h36 => X12_part_18 n UM (q'' + 1) (x && r34) h36) := fun t b0 g x mt => by
        rw [X12_part_18]
        unfold X12_part_65 X12_part_64 X12_part_69
        rw [ms_11, if_pos rfl, m_look mt hn hp, bd_some, if_pos (show zM (sg T s (skp T s p)) = 38 by rw [op]; rfl), ms_inc]
        congr 1; funext r34 h36
        cases x <;> cases r34 <;> rfl
      rcases hU (skp T s p + 1) (by omega) (by omega) with ⟨Q, a1, a2, a3, a4⟩ | ⟨p2, c2, v2, a1, a2, a3, a4, a5, a6⟩
      · refine Or.inl ⟨Q, by omega, a2, fun h O k ct hk => ?_, fun t b0 g mt => ?_⟩
        · obtain ⟨O', k', e1⟩ := a3 h (wrL O k c0) (k + c0.length) ct (by show k + c0.length + 0 + 2 ≤ _; omega)
          have e1' : X3_takeUnit n RF (zN d) false (stL h (skp T s p + 1) (wrL O k c0) (k + c0.length)) = some (false, stL h Q O' k') := e1
          rw [cst h _ _ ct, e1', bd_some]
          exact ⟨O', k', rfl⟩
        · obtain ⟨v, a', d', e1⟩ := a4 t b0 g mt
          show ∃ v a d', X12_part_18 n UM (q'' + 1 + 1) (v0 (lm g)) (ms g p (-1) (zN d)) = some (v, ms g a (zN Q) d')
          rw [mst t b0 g _ mt, show UM (ms g (skp T s p + 1) (-1) (zN d)) = some (v, ms g a' (zN Q) d') from e1, bd_some, X12_part_18]
          unfold X12_part_69
          rw [ms_11, if_neg (zN_nm1 (by omega))]
          exact ⟨_, a', d', rfl⟩
      · have ex2 : Ex (c0 ++ (c2 ++ [(-14 : Int32)])) (mU + 1) (fun L => b01 (v0 L && v2 L)) := by
          have cb := (CR_bin e0 a4 mU1 (by decide) bo_N).mono (show max (mU + 1) (mU + 1) ≤ mU + 1 by omega)
          have ef : (fun L => opN (b01 (v0 L)) (b01 (v2 L))) = fun L => b01 (v0 L && v2 L) := funext fun L => b01_and _ _
          rw [ef] at cb
          exact ⟨cb, fun L _ => b01_bd _⟩
        have a5' : ∀ (h : Mm) (O : Nat → Int32) (k : Nat), CT T s h → k + 2 ≤ skp T s p + 1 → X3_takeUnit n RF (zN d) false (stL h (skp T s p + 1) O k) = some (true, stL h p2 (wrL O k c2) (k + c2.length)) := fun h O k ct hk => a5 h O k ct (by show k + 0 + 2 ≤ _; omega)
        have a3' : c2.length ≤ p2 - (skp T s p + 1) := by have a3 : c2.length ≤ 0 + (p2 - (skp T s p + 1)) := a3; omega
        rcases ih p2 (j + 1) q (q'' + 1) (c0 ++ (c2 ++ [(-14 : Int32)])) (fun L => v0 L && v2 L) (by omega) a2 (by omega) (by omega) (by omega) ex2 with ⟨Q, u1, u2, u3, u4⟩ | ⟨p3, c3, v3, u1, u2, u3, u4, u5, u6⟩
        · refine Or.inl ⟨Q, by omega, u2, fun h O k ct hk => ?_, fun t b0 g mt => ?_⟩
          · obtain ⟨O', k', e6⟩ := u3 h O k ct (by rw [len3]; omega)
            rw [len3, wrL_app, wrL_app] at e6
            refine ⟨O', k', ?_⟩
            rw [cst h _ _ ct, a5' h _ _ ct (by omega), bd_some, if_pos rfl, c_order (by omega), bd_some, ← e6]
            congr 2
            omega
          · obtain ⟨v, a', d', e6⟩ := u4 t b0 g mt
            refine ⟨v, a', d', ?_⟩
            show X12_part_18 n UM (q'' + 1 + 1) (v0 (lm g)) (ms g p (-1) (zN d)) = _
            rw [mst t b0 g _ mt, show UM (ms g (skp T s p + 1) (-1) (zN d)) = some (v2 (lm g), ms g p2 (-1) (zN d)) from a6 t b0 g mt, bd_some]
            exact e6
        · refine Or.inr ⟨p3, c3, v3, by omega, u2, by rw [len3] at u3; omega, u4, fun h O k ct hk => ?_, fun t b0 g mt => ?_⟩
          · have e6 := u5 h O k ct (by rw [len3]; omega)
            rw [len3, wrL_app, wrL_app] at e6
            rw [cst h _ _ ct, a5' h _ _ ct (by omega), bd_some, if_pos rfl, c_order (by omega), bd_some, ← e6]
            congr 2
            omega
          · show X12_part_18 n UM (q'' + 1 + 1) (v0 (lm g)) (ms g p (-1) (zN d)) = _
            rw [mst t b0 g _ mt, show UM (ms g (skp T s p + 1) (-1) (zN d)) = some (v2 (lm g), ms g p2 (-1) (zN d)) from a6 t b0 g mt, bd_some]
            exact u6 t b0 g mt
    · refine Or.inr ⟨skp T s p, c0, v0, b.1, b.2, by omega, e0, fun h O k ct hk => ?_, fun t b0 g mt => ?_⟩
      · unfold X3_takeTruth_13 stL
        rw [if_neg (show ¬ (240 : Int32) ≤ zN j by rw [zN_lit, zN_le (by decide) (by omega)]; omega), show (38 : Int32) = zN 38 from rfl, c_take hn ct.ob hp (by decide), if_neg op, bd_some, if_neg (show ¬ (false = true) by decide)]
      · have T2 := T_le mt (skp T s p)
        show X12_part_18 n UM (q' + 1) (v0 (lm g)) (ms g p (-1) (zN d)) = _
        unfold X12_part_18 X12_part_69
        rw [ms_11, if_pos rfl, m_look mt hn hp, bd_some, if_neg (show ¬ zM (sg T s (skp T s p)) = 38 from fun z => op ((zM_eq T2 (by decide) (by decide)).mp z))]

theorem truth_f {T : Nat → Nat} {s n mU d p : Nat} {RF : Int32 → Int32 → Mm → Option (Bool × Mm)} {UM : Mm → Option (Bool × Mm)} {c0 : List Int32} {v0 : (Nat → Int32) → Int32} (hn : 20000 ≤ n) (h240 : s ≤ 240) (mU1 : 1 ≤ mU) (hU : ∀ p, 2 ≤ p → p ≤ s → BG T s mU (X3_takeUnit n RF (zN d) false) (fun g => UM (ms g p (-1) (zN d))) p d []) (h2 : 2 ≤ p) (hp : p ≤ s) (h1 : BG T s mU (X3_takeUnit n RF (zN d) false) (fun g => UM (ms g p (-1) (zN d))) p d []) : BG T s (mU + 1) (X3_takeTruth n RF (zN d) false) (fun g => X12_part n UM false 0 (ms g p (-1) (zN d))) p d [] := by
  rcases h1 with ⟨Q, a1, a2, a3, a4⟩ | ⟨p2, c2, v2, a1, a2, a3, a4, a5, a6⟩
  · refine Or.inl ⟨Q, a1, a2, fun h O k ct hk => ?_, fun t b0 g mt => ?_⟩
    · obtain ⟨O', k', e1⟩ := a3 h O k ct hk
      refine ⟨O', k', ?_⟩
      unfold X3_takeTruth
      rw [e1, bd_some, if_neg (show ¬ (false = true) by decide)]
    · obtain ⟨v, a', d', e1⟩ := a4 t b0 g mt
      have e1' : UM (ms g p (-1) (zN d)) = some (v, ms g a' (zN Q) d') := e1
      refine ⟨v, a', d', ?_⟩
      show X12_part n UM false 0 (ms g p (-1) (zN d)) = _
      unfold X12_part X12_part_17
      obtain ⟨n', en⟩ : ∃ n', n = n' + 1 := ⟨n - 1, by omega⟩
      have e2 : ∀ x, X12_part_18 n UM (n' + 1) x (ms g a' (zN Q) d') = some (x, ms g a' (zN Q) d') := fun x => by
        rw [X12_part_18]
        unfold X12_part_69
        rw [ms_11, if_neg (zN_nm1 (by omega))]
      rw [← en] at e2
      rw [if_neg (show ¬ (false = true) by decide), e1', bd_some]; exact e2 v
  · rcases and_loop hn h240 mU1 hU (s - p2) p2 0 n n c2 v2 (Nat.le_refl _) a2 (by omega) (by omega) (by omega) (a4.mono (by omega)) with ⟨Q, u1, u2, u3, u4⟩ | ⟨p3, c3, v3, u1, u2, u3, u4, u5, u6⟩
    · refine Or.inl ⟨Q, by omega, u2, fun h O k ct hk => ?_, fun t b0 g mt => ?_⟩
      · obtain ⟨O', k', e6⟩ := u3 h O k ct (by omega)
        refine ⟨O', k', ?_⟩
        unfold X3_takeTruth
        rw [a5 h O k ct hk, bd_some, if_pos rfl]
        exact e6
      · obtain ⟨v, a', d', e6⟩ := u4 t b0 g mt
        have e1' : UM (ms g p (-1) (zN d)) = some (v2 (lm g), ms g p2 (-1) (zN d)) := a6 t b0 g mt
        refine ⟨v, a', d', ?_⟩
        show X12_part n UM false 0 (ms g p (-1) (zN d)) = _
        unfold X12_part X12_part_17
        rw [if_neg (show ¬ (false = true) by decide), e1', bd_some]; exact e6
    · refine Or.inr ⟨p3, c3, v3, by omega, u2, by omega, u4, fun h O k ct hk => ?_, fun t b0 g mt => ?_⟩
      · unfold X3_takeTruth
        rw [a5 h O k ct hk, bd_some, if_pos rfl]
        exact u5 h O k ct (by omega)
      · have e1' : UM (ms g p (-1) (zN d)) = some (v2 (lm g), ms g p2 (-1) (zN d)) := a6 t b0 g mt
        show X12_part n UM false 0 (ms g p (-1) (zN d)) = _
        unfold X12_part X12_part_17
        rw [if_neg (show ¬ (false = true) by decide), e1', bd_some]; exact u6 t b0 g mt

theorem truth_q {T : Nat → Nat} {s n mU d p : Nat} {RF : Int32 → Int32 → Mm → Option (Bool × Mm)} {UM : Mm → Option (Bool × Mm)} {c0 : List Int32} {v0 : (Nat → Int32) → Int32} (hn : 20000 ≤ n) (h240 : s ≤ 240) (mU1 : 1 ≤ mU) (hU : ∀ p, 2 ≤ p → p ≤ s → BG T s mU (X3_takeUnit n RF (zN d) false) (fun g => UM (ms g p (-1) (zN d))) p d []) (h2 : 2 ≤ p) (hp : p ≤ s) (h1 : BG T s mU (X3_takeUnit n RF (zN d) true) (fun g => X12_compares n true (v0 (lm g)) (ms g p (-1) (zN d))) p d c0) : BG T s (mU + 1) (X3_takeTruth n RF (zN d) true) (fun g => X12_part n UM true (v0 (lm g)) (ms g p (-1) (zN d))) p d c0 := by
  rcases h1 with ⟨Q, a1, a2, a3, a4⟩ | ⟨p2, c2, v2, a1, a2, a3, a4, a5, a6⟩
  · refine Or.inl ⟨Q, a1, a2, fun h O k ct hk => ?_, fun t b0 g mt => ?_⟩
    · obtain ⟨O', k', e1⟩ := a3 h O k ct hk
      refine ⟨O', k', ?_⟩
      unfold X3_takeTruth
      rw [e1, bd_some, if_neg (show ¬ (false = true) by decide)]
    · obtain ⟨v, a', d', e1⟩ := a4 t b0 g mt
      have e1' : X12_compares n true (v0 (lm g)) (ms g p (-1) (zN d)) = some (v, ms g a' (zN Q) d') := e1
      refine ⟨v, a', d', ?_⟩
      show X12_part n UM true (v0 (lm g)) (ms g p (-1) (zN d)) = _
      unfold X12_part X12_part_17
      obtain ⟨n', en⟩ : ∃ n', n = n' + 1 := ⟨n - 1, by omega⟩
      have e2 : ∀ x, X12_part_18 n UM (n' + 1) x (ms g a' (zN Q) d') = some (x, ms g a' (zN Q) d') := fun x => by
        rw [X12_part_18]
        unfold X12_part_69
        rw [ms_11, if_neg (zN_nm1 (by omega))]
      rw [← en] at e2
      rw [if_pos rfl, e1', bd_some]; exact e2 v
  · rcases and_loop hn h240 mU1 hU (s - p2) p2 0 n n c2 v2 (Nat.le_refl _) a2 (by omega) (by omega) (by omega) (a4.mono (by omega)) with ⟨Q, u1, u2, u3, u4⟩ | ⟨p3, c3, v3, u1, u2, u3, u4, u5, u6⟩
    · refine Or.inl ⟨Q, by omega, u2, fun h O k ct hk => ?_, fun t b0 g mt => ?_⟩
      · obtain ⟨O', k', e6⟩ := u3 h O k ct (by omega)
        refine ⟨O', k', ?_⟩
        unfold X3_takeTruth
        rw [a5 h O k ct hk, bd_some, if_pos rfl]
        exact e6
      · obtain ⟨v, a', d', e6⟩ := u4 t b0 g mt
        have e1' : X12_compares n true (v0 (lm g)) (ms g p (-1) (zN d)) = some (v2 (lm g), ms g p2 (-1) (zN d)) := a6 t b0 g mt
        refine ⟨v, a', d', ?_⟩
        show X12_part n UM true (v0 (lm g)) (ms g p (-1) (zN d)) = _
        unfold X12_part X12_part_17
        rw [if_pos rfl, e1', bd_some]; exact e6
    · refine Or.inr ⟨p3, c3, v3, by omega, u2, by omega, u4, fun h O k ct hk => ?_, fun t b0 g mt => ?_⟩
      · unfold X3_takeTruth
        rw [a5 h O k ct hk, bd_some, if_pos rfl]
        exact u5 h O k ct (by omega)
      · have e1' : X12_compares n true (v0 (lm g)) (ms g p (-1) (zN d)) = some (v2 (lm g), ms g p2 (-1) (zN d)) := a6 t b0 g mt
        show X12_part n UM true (v0 (lm g)) (ms g p (-1) (zN d)) = _
        unfold X12_part X12_part_17
        rw [if_pos rfl, e1', bd_some]; exact u6 t b0 g mt

theorem orr_loop {T : Nat → Nat} {s n mU d : Nat} {RF : Int32 → Int32 → Mm → Option (Bool × Mm)} {UM : Mm → Option (Bool × Mm)} (hn : 20000 ≤ n) (h240 : s ≤ 240) (mU1 : 1 ≤ mU) (hU : ∀ p, 2 ≤ p → p ≤ s → BG T s mU (X3_takeTruth n RF (zN d) false) (fun g => X12_part n UM false 0 (ms g p (-1) (zN d))) p d []) : ∀ (r p j q q' : Nat) (c0 : List Int32) (v0 : (Nat → Int32) → Bool), s - p ≤ r → p ≤ s → j + 2 ≤ p → r < q → r < q' → Ex c0 (mU + 1) (fun L => b01 (v0 L)) → BG T s (mU + 1) (X3_takeCondition_13 n RF q (zN d) (zN j)) (fun g => X12_condition_7 n UM q' (v0 (lm g)) (ms g p (-1) (zN d))) p d c0 := by
  intro r
  induction r with
  | zero =>
    intro p j q q' c0 v0 hr hp hj hq hq' e0
    obtain ⟨q, rfl⟩ : ∃ m, q = m + 1 := ⟨q - 1, by omega⟩
    obtain ⟨q', rfl⟩ : ∃ m, q' = m + 1 := ⟨q' - 1, by omega⟩
    have sk : skp T s p = p := skp_nb (fun z => by omega)
    have s0 : sg T s p = 0 := by unfold sg; rw [if_neg (by omega)]
    refine Or.inr ⟨p, c0, v0, Nat.le_refl _, hp, by omega, e0, fun h O k ct hk => ?_, fun t b0 g mt => ?_⟩
    · unfold X3_takeCondition_13 stL
      rw [if_neg (show ¬ (240 : Int32) ≤ zN j by rw [zN_lit, zN_le (by decide) (by omega)]; omega), show (124 : Int32) = zN 124 from rfl, c_take hn ct.ob hp (by decide), sk, s0, if_neg (show ¬ 0 = 124 by decide), bd_some, if_neg (show ¬ (false = true) by decide)]
    · show X12_condition_7 n UM (q' + 1) (v0 (lm g)) (ms g p (-1) (zN d)) = _
      unfold X12_condition_7 X12_condition_60
      rw [ms_11, if_pos rfl, m_look mt hn hp, bd_some, sk, s0, if_neg (show ¬ zM 0 = 124 by decide)]
  | succ r ih =>
    intro p j q q' c0 v0 hr hp hj hq hq' e0
    obtain ⟨q, rfl⟩ : ∃ m, q = m + 1 := ⟨q - 1, by omega⟩
    obtain ⟨q', rfl⟩ : ∃ m, q' = m + 1 := ⟨q' - 1, by omega⟩
    have b := skp_b (T := T) hp
    by_cases op : sg T s (skp T s p) = 124
    · have lt : skp T s p < s := sg_lt (T := T) (show sg T s (skp T s p) ≠ 0 by omega)
      obtain ⟨q'', rfl⟩ : ∃ m, q' = m + 1 := ⟨q' - 1, by omega⟩
      have cst : ∀ (h : Mm) (O : Nat → Int32) (k : Nat), CT T s h → X3_takeCondition_13 n RF (q + 1) (zN d) (zN j) (stL h p O k) = bd (X3_takeTruth n RF (zN d) false (stL h (skp T s p + 1) O k)) (fun r28 h30 => (if r28 = true then (bd (X3_order (-15 : Int32) h30) (fun _ h33 => ((X3_takeCondition_13 n RF q) (zN d) (zN (j + 1)) h33))) else (some (false, h30)))) := fun h O k ct => by
        rw [X3_takeCondition_13]
        unfold stL
        rw [if_neg (show ¬ (240 : Int32) ≤ zN j by rw [zN_lit, zN_le (by decide) (by omega)]; omega), show (124 : Int32) = zN 124 from rfl, c_take hn ct.ob hp (by decide), if_pos op, bd_some, if_pos rfl, sN1]
      have mst : ∀ (t b0 : Nat) (g : Mm) (x : Bool), MT T s t b0 g → X12_condition_7 n UM (q'' + 1 + 1) x (ms g p (-1) (zN d)) = bd (X12_part n UM false 0 (ms g (skp T s p + 1) (-1) (zN d))) (fun r34 h36 => X12_condition_7 n UM (q'' + 1) (x || r34) h36) := fun t b0 g x mt => by
        rw [X12_condition_7]
        unfold X12_condition_56 X12_condition_51 X12_condition_60
        rw [ms_11, if_pos rfl, m_look mt hn hp, bd_some, if_pos (show zM (sg T s (skp T s p)) = 124 by rw [op]; rfl), ms_inc]
        congr 1; funext r34 h36
        cases x <;> cases r34 <;> rfl
      rcases hU (skp T s p + 1) (by omega) (by omega) with ⟨Q, a1, a2, a3, a4⟩ | ⟨p2, c2, v2, a1, a2, a3, a4, a5, a6⟩
      · refine Or.inl ⟨Q, by omega, a2, fun h O k ct hk => ?_, fun t b0 g mt => ?_⟩
        · obtain ⟨O', k', e1⟩ := a3 h (wrL O k c0) (k + c0.length) ct (by show k + c0.length + 0 + 2 ≤ _; omega)
          have e1' : X3_takeTruth n RF (zN d) false (stL h (skp T s p + 1) (wrL O k c0) (k + c0.length)) = some (false, stL h Q O' k') := e1
          rw [cst h _ _ ct, e1', bd_some]
          exact ⟨O', k', rfl⟩
        · obtain ⟨v, a', d', e1⟩ := a4 t b0 g mt
          show ∃ v a d', X12_condition_7 n UM (q'' + 1 + 1) (v0 (lm g)) (ms g p (-1) (zN d)) = some (v, ms g a (zN Q) d')
          rw [mst t b0 g _ mt, show X12_part n UM false 0 (ms g (skp T s p + 1) (-1) (zN d)) = some (v, ms g a' (zN Q) d') from e1, bd_some, X12_condition_7]
          unfold X12_condition_60
          rw [ms_11, if_neg (zN_nm1 (by omega))]
          exact ⟨_, a', d', rfl⟩
      · have ex2 : Ex (c0 ++ (c2 ++ [(-15 : Int32)])) (mU + 1) (fun L => b01 (v0 L || v2 L)) := by
          have cb := (CR_bin e0 a4 mU1 (by decide) bo_O).mono (show max (mU + 1) (mU + 1) ≤ mU + 1 by omega)
          have ef : (fun L => opO (b01 (v0 L)) (b01 (v2 L))) = fun L => b01 (v0 L || v2 L) := funext fun L => b01_or _ _
          rw [ef] at cb
          exact ⟨cb, fun L _ => b01_bd _⟩
        have a5' : ∀ (h : Mm) (O : Nat → Int32) (k : Nat), CT T s h → k + 2 ≤ skp T s p + 1 → X3_takeTruth n RF (zN d) false (stL h (skp T s p + 1) O k) = some (true, stL h p2 (wrL O k c2) (k + c2.length)) := fun h O k ct hk => a5 h O k ct (by show k + 0 + 2 ≤ _; omega)
        have a3' : c2.length ≤ p2 - (skp T s p + 1) := by have a3 : c2.length ≤ 0 + (p2 - (skp T s p + 1)) := a3; omega
        rcases ih p2 (j + 1) q (q'' + 1) (c0 ++ (c2 ++ [(-15 : Int32)])) (fun L => v0 L || v2 L) (by omega) a2 (by omega) (by omega) (by omega) ex2 with ⟨Q, u1, u2, u3, u4⟩ | ⟨p3, c3, v3, u1, u2, u3, u4, u5, u6⟩
        · refine Or.inl ⟨Q, by omega, u2, fun h O k ct hk => ?_, fun t b0 g mt => ?_⟩
          · obtain ⟨O', k', e6⟩ := u3 h O k ct (by rw [len3]; omega)
            rw [len3, wrL_app, wrL_app] at e6
            refine ⟨O', k', ?_⟩
            rw [cst h _ _ ct, a5' h _ _ ct (by omega), bd_some, if_pos rfl, c_order (by omega), bd_some, ← e6]
            congr 2
            omega
          · obtain ⟨v, a', d', e6⟩ := u4 t b0 g mt
            refine ⟨v, a', d', ?_⟩
            show X12_condition_7 n UM (q'' + 1 + 1) (v0 (lm g)) (ms g p (-1) (zN d)) = _
            rw [mst t b0 g _ mt, show X12_part n UM false 0 (ms g (skp T s p + 1) (-1) (zN d)) = some (v2 (lm g), ms g p2 (-1) (zN d)) from a6 t b0 g mt, bd_some]
            exact e6
        · refine Or.inr ⟨p3, c3, v3, by omega, u2, by rw [len3] at u3; omega, u4, fun h O k ct hk => ?_, fun t b0 g mt => ?_⟩
          · have e6 := u5 h O k ct (by rw [len3]; omega)
            rw [len3, wrL_app, wrL_app] at e6
            rw [cst h _ _ ct, a5' h _ _ ct (by omega), bd_some, if_pos rfl, c_order (by omega), bd_some, ← e6]
            congr 2
            omega
          · show X12_condition_7 n UM (q'' + 1 + 1) (v0 (lm g)) (ms g p (-1) (zN d)) = _
            rw [mst t b0 g _ mt, show X12_part n UM false 0 (ms g (skp T s p + 1) (-1) (zN d)) = some (v2 (lm g), ms g p2 (-1) (zN d)) from a6 t b0 g mt, bd_some]
            exact u6 t b0 g mt
    · refine Or.inr ⟨skp T s p, c0, v0, b.1, b.2, by omega, e0, fun h O k ct hk => ?_, fun t b0 g mt => ?_⟩
      · unfold X3_takeCondition_13 stL
        rw [if_neg (show ¬ (240 : Int32) ≤ zN j by rw [zN_lit, zN_le (by decide) (by omega)]; omega), show (124 : Int32) = zN 124 from rfl, c_take hn ct.ob hp (by decide), if_neg op, bd_some, if_neg (show ¬ (false = true) by decide)]
      · have T2 := T_le mt (skp T s p)
        show X12_condition_7 n UM (q' + 1) (v0 (lm g)) (ms g p (-1) (zN d)) = _
        unfold X12_condition_7 X12_condition_60
        rw [ms_11, if_pos rfl, m_look mt hn hp, bd_some, if_neg (show ¬ zM (sg T s (skp T s p)) = 124 from fun z => op ((zM_eq T2 (by decide) (by decide)).mp z))]

theorem cond_f {T : Nat → Nat} {s n mU d p : Nat} {RF : Int32 → Int32 → Mm → Option (Bool × Mm)} {UM : Mm → Option (Bool × Mm)} {c0 : List Int32} {v0 : (Nat → Int32) → Int32} (hn : 20000 ≤ n) (h240 : s ≤ 240) (mU1 : 1 ≤ mU) (hU : ∀ p, 2 ≤ p → p ≤ s → BG T s mU (X3_takeTruth n RF (zN d) false) (fun g => X12_part n UM false 0 (ms g p (-1) (zN d))) p d []) (h2 : 2 ≤ p) (hp : p ≤ s) (h1 : BG T s mU (X3_takeTruth n RF (zN d) false) (fun g => X12_part n UM false 0 (ms g p (-1) (zN d))) p d []) : BG T s (mU + 1) (X3_takeCondition n RF (zN d) false) (fun g => X12_condition n UM false 0 (ms g p (-1) (zN d))) p d [] := by
  rcases h1 with ⟨Q, a1, a2, a3, a4⟩ | ⟨p2, c2, v2, a1, a2, a3, a4, a5, a6⟩
  · refine Or.inl ⟨Q, a1, a2, fun h O k ct hk => ?_, fun t b0 g mt => ?_⟩
    · obtain ⟨O', k', e1⟩ := a3 h O k ct hk
      refine ⟨O', k', ?_⟩
      unfold X3_takeCondition
      rw [e1, bd_some, if_neg (show ¬ (false = true) by decide)]
    · obtain ⟨v, a', d', e1⟩ := a4 t b0 g mt
      have e1' : X12_part n UM false 0 (ms g p (-1) (zN d)) = some (v, ms g a' (zN Q) d') := e1
      refine ⟨v, a', d', ?_⟩
      show X12_condition n UM false 0 (ms g p (-1) (zN d)) = _
      unfold X12_condition
      obtain ⟨n', en⟩ : ∃ n', n = n' + 1 := ⟨n - 1, by omega⟩
      have e2 : ∀ x, X12_condition_7 n UM (n' + 1) x (ms g a' (zN Q) d') = some (x, ms g a' (zN Q) d') := fun x => by
        rw [X12_condition_7]
        unfold X12_condition_60
        rw [ms_11, if_neg (zN_nm1 (by omega))]
      rw [← en] at e2
      rw [e1', bd_some]; exact e2 v
  · rcases orr_loop hn h240 mU1 hU (s - p2) p2 0 n n c2 v2 (Nat.le_refl _) a2 (by omega) (by omega) (by omega) (a4.mono (by omega)) with ⟨Q, u1, u2, u3, u4⟩ | ⟨p3, c3, v3, u1, u2, u3, u4, u5, u6⟩
    · refine Or.inl ⟨Q, by omega, u2, fun h O k ct hk => ?_, fun t b0 g mt => ?_⟩
      · obtain ⟨O', k', e6⟩ := u3 h O k ct (by omega)
        refine ⟨O', k', ?_⟩
        unfold X3_takeCondition
        rw [a5 h O k ct hk, bd_some, if_pos rfl]
        exact e6
      · obtain ⟨v, a', d', e6⟩ := u4 t b0 g mt
        have e1' : X12_part n UM false 0 (ms g p (-1) (zN d)) = some (v2 (lm g), ms g p2 (-1) (zN d)) := a6 t b0 g mt
        refine ⟨v, a', d', ?_⟩
        show X12_condition n UM false 0 (ms g p (-1) (zN d)) = _
        unfold X12_condition
        rw [e1', bd_some]; exact e6
    · refine Or.inr ⟨p3, c3, v3, by omega, u2, by omega, u4, fun h O k ct hk => ?_, fun t b0 g mt => ?_⟩
      · unfold X3_takeCondition
        rw [a5 h O k ct hk, bd_some, if_pos rfl]
        exact u5 h O k ct (by omega)
      · have e1' : X12_part n UM false 0 (ms g p (-1) (zN d)) = some (v2 (lm g), ms g p2 (-1) (zN d)) := a6 t b0 g mt
        show X12_condition n UM false 0 (ms g p (-1) (zN d)) = _
        unfold X12_condition
        rw [e1', bd_some]; exact u6 t b0 g mt

theorem cond_q {T : Nat → Nat} {s n mU d p : Nat} {RF : Int32 → Int32 → Mm → Option (Bool × Mm)} {UM : Mm → Option (Bool × Mm)} {c0 : List Int32} {v0 : (Nat → Int32) → Int32} (hn : 20000 ≤ n) (h240 : s ≤ 240) (mU1 : 1 ≤ mU) (hU : ∀ p, 2 ≤ p → p ≤ s → BG T s mU (X3_takeTruth n RF (zN d) false) (fun g => X12_part n UM false 0 (ms g p (-1) (zN d))) p d []) (h2 : 2 ≤ p) (hp : p ≤ s) (h1 : BG T s mU (X3_takeTruth n RF (zN d) true) (fun g => X12_part n UM true (v0 (lm g)) (ms g p (-1) (zN d))) p d c0) : BG T s (mU + 1) (X3_takeCondition n RF (zN d) true) (fun g => X12_condition n UM true (v0 (lm g)) (ms g p (-1) (zN d))) p d c0 := by
  rcases h1 with ⟨Q, a1, a2, a3, a4⟩ | ⟨p2, c2, v2, a1, a2, a3, a4, a5, a6⟩
  · refine Or.inl ⟨Q, a1, a2, fun h O k ct hk => ?_, fun t b0 g mt => ?_⟩
    · obtain ⟨O', k', e1⟩ := a3 h O k ct hk
      refine ⟨O', k', ?_⟩
      unfold X3_takeCondition
      rw [e1, bd_some, if_neg (show ¬ (false = true) by decide)]
    · obtain ⟨v, a', d', e1⟩ := a4 t b0 g mt
      have e1' : X12_part n UM true (v0 (lm g)) (ms g p (-1) (zN d)) = some (v, ms g a' (zN Q) d') := e1
      refine ⟨v, a', d', ?_⟩
      show X12_condition n UM true (v0 (lm g)) (ms g p (-1) (zN d)) = _
      unfold X12_condition
      obtain ⟨n', en⟩ : ∃ n', n = n' + 1 := ⟨n - 1, by omega⟩
      have e2 : ∀ x, X12_condition_7 n UM (n' + 1) x (ms g a' (zN Q) d') = some (x, ms g a' (zN Q) d') := fun x => by
        rw [X12_condition_7]
        unfold X12_condition_60
        rw [ms_11, if_neg (zN_nm1 (by omega))]
      rw [← en] at e2
      rw [e1', bd_some]; exact e2 v
  · rcases orr_loop hn h240 mU1 hU (s - p2) p2 0 n n c2 v2 (Nat.le_refl _) a2 (by omega) (by omega) (by omega) (a4.mono (by omega)) with ⟨Q, u1, u2, u3, u4⟩ | ⟨p3, c3, v3, u1, u2, u3, u4, u5, u6⟩
    · refine Or.inl ⟨Q, by omega, u2, fun h O k ct hk => ?_, fun t b0 g mt => ?_⟩
      · obtain ⟨O', k', e6⟩ := u3 h O k ct (by omega)
        refine ⟨O', k', ?_⟩
        unfold X3_takeCondition
        rw [a5 h O k ct hk, bd_some, if_pos rfl]
        exact e6
      · obtain ⟨v, a', d', e6⟩ := u4 t b0 g mt
        have e1' : X12_part n UM true (v0 (lm g)) (ms g p (-1) (zN d)) = some (v2 (lm g), ms g p2 (-1) (zN d)) := a6 t b0 g mt
        refine ⟨v, a', d', ?_⟩
        show X12_condition n UM true (v0 (lm g)) (ms g p (-1) (zN d)) = _
        unfold X12_condition
        rw [e1', bd_some]; exact e6
    · refine Or.inr ⟨p3, c3, v3, by omega, u2, by omega, u4, fun h O k ct hk => ?_, fun t b0 g mt => ?_⟩
      · unfold X3_takeCondition
        rw [a5 h O k ct hk, bd_some, if_pos rfl]
        exact u5 h O k ct (by omega)
      · have e1' : X12_part n UM true (v0 (lm g)) (ms g p (-1) (zN d)) = some (v2 (lm g), ms g p2 (-1) (zN d)) := a6 t b0 g mt
        show X12_condition n UM true (v0 (lm g)) (ms g p (-1) (zN d)) = _
        unfold X12_condition
        rw [e1', bd_some]; exact u6 t b0 g mt

theorem unit_q {T : Nat → Nat} {s n d p m1 : Nat} (hn : 20000 ≤ n) (h240 : s ≤ 240) (hd : d ≤ 6) (h2 : 2 ≤ p) (hp : p ≤ s) (rf : Int32 → Int32 → Mm → Option (Bool × Mm)) {c1 : List Int32} {v1 : (Nat → Int32) → Int32} (e1 : Ex c1 m1 v1) (hm1 : m1 ≤ 2 * (6 - d) + 4) : BG T s (2 * (6 - d) + 4) (X3_takeUnit n rf (zN d) true) (fun g => X12_compares n true (v1 (lm g)) (ms g p (-1) (zN d))) p d c1 := by
  have b := skp_b (T := T) hp
  have id0 := skp_id (T := T) hp
  have cc : ∀ (h : Mm) (O : Nat → Int32) (k : Nat), CT T s h → X3_takeUnit n rf (zN d) true (stL h p O k) = X3_takeUnit_45 n rf (zN d) (stL h (skp T s p) O k) := fun h O k ct => by
    unfold X3_takeUnit X3_takeUnit_31 stL
    rw [c_sign hn ct.ob hp, bd_some, if_pos rfl, if_pos rfl]
  have cc2 : ∀ (h : Mm) (O : Nat → Int32) (k : Nat), CT T s h → X3_takeUnit_45 n rf (zN d) (stL h (skp T s p) O k) = X3_takeUnit_45 n rf (zN d) (stL h p O k) := fun h O k ct => by
    unfold X3_takeUnit_45 stL
    rw [c_one hn ct.ob b.2 (show stB 1028 = [61, 60, 62] from rfl) (by decide) (by decide), c_one hn ct.ob hp (show stB 1028 = [61, 60, 62] from rfl) (by decide) (by decide), id0]
  have mm : ∀ g, X12_compares n true (v1 (lm g)) (ms g p (-1) (zN d)) = X12_compares_12 n (v1 (lm g)) (ms g p (-1) (zN d)) := fun g => by
    unfold X12_compares; rw [if_pos rfl]
  rcases cmp45 (n := n) (p := p) hn h240 hd h2 hp rf e1 hm1 with ⟨Q, a1, a2, a3, a4⟩ | ⟨p2, c2, v2, a1, a2, a3, a4, a5, a6⟩
  · refine Or.inl ⟨Q, a1, a2, fun h O k ct hk => ?_, fun t b0 g mt => ?_⟩
    · obtain ⟨O', k', e5⟩ := a3 h O k ct hk
      exact ⟨O', k', by rw [cc h _ _ ct, cc2 h _ _ ct]; exact e5⟩
    · obtain ⟨v, a', d', e5⟩ := a4 t b0 g mt
      exact ⟨v, a', d', (mm g).trans e5⟩
  · exact Or.inr ⟨p2, c2, v2, a1, a2, a3, a4, fun h O k ct hk => by rw [cc h _ _ ct, cc2 h _ _ ct]; exact a5 h O k ct hk, fun t b0 g mt => (mm g).trans (a6 t b0 g mt)⟩
/-- a unit that begins with a sum -/
theorem unit_sum {T : Nat → Nat} {s n d p : Nat} (hn : 20000 ≤ n) (h240 : s ≤ 240) (hd : d ≤ 6) (h2 : 2 ≤ p) (hp : p ≤ s) (rf : Int32 → Int32 → Mm → Option (Bool × Mm)) : BG T s (2 * (6 - d) + 4) (X3_takeUnit_31 n rf (zN d) false) (fun g => X12_compares n false 0 (ms g p (-1) (zN d))) p d [] := by
  rcases sum_all (T := T) (n := n) (d := d) (p := p) hn h240 hd h2 hp with ⟨Q, a1, a2, a3, a4⟩ | ⟨p2, c2, v2, a1, a2, a3, a4, a5, a6⟩
  · refine Or.inl ⟨Q, a1, a2, fun h O k ct hk => ?_, fun t b0 g mt => ?_⟩
    · obtain ⟨O', k', e5⟩ := a3 h O k ct (by have hk : k + 0 + 2 ≤ p := hk; omega)
      refine ⟨O', k', ?_⟩
      show X3_takeUnit_31 n rf (zN d) false (stL h p O k) = _
      unfold X3_takeUnit_31
      rw [if_neg (show ¬ (false = true) by decide), e5, bd_some, if_neg (show ¬ (false = true) by decide)]
    · obtain ⟨v, a', d', e5⟩ := a4 t b0 g mt
      refine ⟨false, a', d', ?_⟩
      show X12_compares n false 0 (ms g p (-1) (zN d)) = _
      unfold X12_compares X12_compares_12
      rw [if_neg (show ¬ (false = true) by decide), e5, bd_some, ms_11, if_neg (zN_nm1 (by omega))]
  · rcases cmp45 (n := n) (p := p2) hn h240 hd (by omega) a2 rf a4 (by omega) with ⟨Q, u1, u2, u3, u4⟩ | ⟨p3, c3, v3, u1, u2, u3, u4, u5, u6⟩
    · refine Or.inl ⟨Q, by omega, u2, fun h O k ct hk => ?_, fun t b0 g mt => ?_⟩
      · have hk : k + 0 + 2 ≤ p := hk
        obtain ⟨O', k', e5⟩ := u3 h O k ct (by omega)
        refine ⟨O', k', ?_⟩
        show X3_takeUnit_31 n rf (zN d) false (stL h p O k) = _
        unfold X3_takeUnit_31
        rw [if_neg (show ¬ (false = true) by decide), a5 h O k ct (by omega), bd_some, if_pos rfl]
        exact e5
      · obtain ⟨v, a', d', e5⟩ := u4 t b0 g mt
        refine ⟨v, a', d', ?_⟩
        show X12_compares n false 0 (ms g p (-1) (zN d)) = _
        unfold X12_compares
        rw [if_neg (show ¬ (false = true) by decide), a6 t b0 g mt, bd_some]
        exact e5
    · refine Or.inr ⟨p3, c3, v3, by omega, u2, by show c3.length ≤ 0 + (p3 - p); omega, u4, fun h O k ct hk => ?_, fun t b0 g mt => ?_⟩
      · have hk : k + 0 + 2 ≤ p := hk
        show X3_takeUnit_31 n rf (zN d) false (stL h p O k) = _
        unfold X3_takeUnit_31
        rw [if_neg (show ¬ (false = true) by decide), a5 h O k ct (by omega), bd_some, if_pos rfl]
        exact u5 h O k ct (by omega)
      · show X12_compares n false 0 (ms g p (-1) (zN d)) = _
        unfold X12_compares
        rw [if_neg (show ¬ (false = true) by decide), a6 t b0 g mt, bd_some]
        exact u6 t b0 g mt
theorem unit_one {T : Nat → Nat} {s n j e e' d p : Nat} (hn : 20000 ≤ n) (h240 : s ≤ 240) (he : j < e) (he' : j < e') (hd : d + j = 6) (h2 : 2 ≤ p) (hp : p ≤ s) (ih : ∀ j', j = j' + 1 → ∀ (e e' p : Nat), j' < e → j' < e' → 2 ≤ p → p ≤ s → BG T s (2 * j' + 4) (X3_takeUnit n (X3_takeInnerUnit n e) (zN (d + 1)) false) (fun g => X12_unit n e' (ms g p (-1) (zN (d + 1)))) p (d + 1) []) : BG T s (2 * j + 4) (X3_takeUnit n (X3_takeInnerUnit n e) (zN d) false) (fun g => X12_unit n e' (ms g p (-1) (zN d))) p d [] := by
  obtain ⟨e, rfl⟩ : ∃ m, e = m + 1 := ⟨e - 1, by omega⟩
  obtain ⟨e', rfl⟩ : ∃ m, e' = m + 1 := ⟨e' - 1, by omega⟩
  have b := skp_b (T := T) hp
  have id0 := skp_id (T := T) hp
  have ej : 6 - d = j := by omega
  have cst : ∀ (h : Mm) (O : Nat → Int32) (k : Nat), CT T s h → X3_takeUnit n (X3_takeInnerUnit n (e + 1)) (zN d) false (stL h p O k) = (if sg T s (skp T s p) = 33 then (bd (X3_takeInnerUnit n (e + 1) (zN 33) (zN d) (stL h (skp T s p) O k)) (fun r28 h30 => (some (r28, h30)))) else (if sg T s (skp T s p) = 40 then (bd (X3_takeInnerUnit n (e + 1) (zN 40) (zN d) (stL h (skp T s p) O k)) (fun r28 h30 => (some (r28, h30)))) else (X3_takeUnit_31 n (X3_takeInnerUnit n (e + 1)) (zN d) false (stL h (skp T s p) O k)))) := fun h O k ct => by
    have sl := sg_le ct (skp T s p)
    unfold X3_takeUnit X3_takeUnit_24 stL
    rw [c_sign hn ct.ob hp, bd_some, if_neg (show ¬ (false = true) by decide)]
    by_cases z : sg T s (skp T s p) = 33
    · rw [if_pos (show zN (sg T s (skp T s p)) = 33 by rw [z]; rfl), if_pos z, z]
    · rw [if_neg (show ¬ zN (sg T s (skp T s p)) = 33 by rw [zN_lit, zN_eq (by omega) (by decide)]; exact z), if_neg z]
      by_cases y : sg T s (skp T s p) = 40
      · rw [if_pos (show zN (sg T s (skp T s p)) = 40 by rw [y]; rfl), if_pos y, y]
      · rw [if_neg (show ¬ zN (sg T s (skp T s p)) = 40 by rw [zN_lit, zN_eq (by omega) (by decide)]; exact y), if_neg y]
  have mst : ∀ (t b0 : Nat) (g : Mm), MT T s t b0 g → X12_unit n (e' + 1) (ms g p (-1) (zN d)) = (if sg T s (skp T s p) = 33 then (bd (X12_goesIn (ms g (skp T s p) (-1) (zN d))) (fun r37 h39 => (if r37 = true then (bd (X12_unit n e' h39) (fun r40 h42 => (if r40 = true then (some (false, (wI h42 251 12 ((h42.1 251 12) - (1 : Int32))))) else (some (true, (wI h42 251 12 ((h42.1 251 12) - (1 : Int32)))))))) else (some (false, h39))))) else (if sg T s (skp T s p) = 40 then (bd (X12_goesIn (ms g (skp T s p) (-1) (zN d))) (fun r28 h30 => (if r28 = true then (bd (X12_condition n (X12_unit n e') false (0 : Int32) h30) (fun r31 h33 => (bd (X12_takes n (41 : Int32) h33) (fun r34 h36 => (if r34 = true then (some (r31, (wI h36 251 12 ((h36.1 251 12) - (1 : Int32))))) else (some (false, h36))))))) else (some (false, h30))))) else (bd (X12_compares n false (0 : Int32) (ms g (skp T s p) (-1) (zN d))) (fun r25 h27 => (some (r25, h27)))))) := fun t b0 g mt => by
    have T2 := T_le mt (skp T s p)
    rw [X12_unit]
    unfold X12_unit_b
    rw [m_look mt hn hp, bd_some]
    by_cases z : sg T s (skp T s p) = 33
    · rw [if_pos (show zM (sg T s (skp T s p)) = 33 by rw [z]; rfl), if_pos z]
    · rw [if_neg (show ¬ zM (sg T s (skp T s p)) = 33 from fun w => z ((zM_eq T2 (by decide) (by decide)).mp w)), if_neg z]
      by_cases y : sg T s (skp T s p) = 40
      · rw [if_pos (show zM (sg T s (skp T s p)) = 40 by rw [y]; rfl), if_pos y]
      · rw [if_neg (show ¬ zM (sg T s (skp T s p)) = 40 from fun w => y ((zM_eq T2 (by decide) (by decide)).mp w)), if_neg y]
  by_cases in1 : sg T s (skp T s p) = 33 ∨ sg T s (skp T s p) = 40
  · have lt : skp T s p < s := sg_lt (T := T) (show sg T s (skp T s p) ≠ 0 by omega)
    by_cases j0 : j = 0
    · have d6 : d = 6 := by omega
      refine Or.inl ⟨skp T s p, b.1, b.2, fun h O k ct hk => ⟨O, k, ?_⟩, fun t b0 g mt => ⟨false, skp T s p, zN d, ?_⟩⟩
      · show X3_takeUnit n (X3_takeInnerUnit n (e + 1)) (zN d) false (stL h p O k) = _
        rw [cst h O k ct]
        have iu : ∀ x1, X3_takeInnerUnit n (e + 1) x1 (zN d) (stL h (skp T s p) O k) = some (false, stL h (skp T s p) O k) := fun x1 => by
          rw [X3_takeInnerUnit]; unfold X3_takeInnerUnit_b
          rw [if_neg (show ¬ zN d < 6 by rw [d6]; decide)]
        rw [iu, iu, bd_some]
        rcases in1 with z | z
        · rw [if_pos z]
        · rw [if_neg (show ¬ sg T s (skp T s p) = 33 by omega), if_pos z]
      · show X12_unit n (e' + 1) (ms g p (-1) (zN d)) = _
        have gi : X12_goesIn (ms g (skp T s p) (-1) (zN d)) = some (false, ms g (skp T s p) (zN (skp T s p)) (zN d)) := by
          unfold X12_goesIn
          rw [ms_12, if_pos (show zN d = 6 by rw [d6]; rfl), m_fail, bd_some]
        rw [mst t b0 g mt, gi, bd_some, bd_some, if_neg (show ¬ (false = true) by decide), if_neg (show ¬ (false = true) by decide)]
        rcases in1 with z | z
        · rw [if_pos z]
        · rw [if_neg (show ¬ sg T s (skp T s p) = 33 by omega), if_pos z]
    · obtain ⟨j', rfl⟩ : ∃ j', j = j' + 1 := ⟨j - 1, by omega⟩
      have gi : ∀ g : Mm, X12_goesIn (ms g (skp T s p) (-1) (zN d)) = some (true, ms g (skp T s p + 1) (-1) (zN (d + 1))) := fun g => by
        unfold X12_goesIn
        rw [ms_12, if_neg (show ¬ zN d = 6 by rw [zN_lit, zN_eq (by omega) (by decide)]; omega), sN1, ms_w12, ms_inc]
      have dl : zN d < 6 := (zN_lt (b := 6) (by omega) (by decide)).mpr (by omega)
      have dm : zN (d + 1) - 1 = zN d := by rw [show (1 : Int32) = zN 1 from rfl, zN_sub (by omega)]; rfl
      have uu : ∀ p, 2 ≤ p → p ≤ s → BG T s (2 * j' + 4) (X3_takeUnit n (X3_takeInnerUnit n e) (zN (d + 1)) false) (fun g => X12_unit n e' (ms g p (-1) (zN (d + 1)))) p (d + 1) [] := fun p h2 hp => ih j' rfl e e' p (by omega) (by omega) h2 hp
      by_cases z33 : sg T s (skp T s p) = 33
      · have ciu : ∀ (h : Mm) (O : Nat → Int32) (k : Nat), CT T s h → X3_takeUnit n (X3_takeInnerUnit n (e + 1)) (zN d) false (stL h p O k) = bd (X3_takeUnit n (X3_takeInnerUnit n e) (zN (d + 1)) false (stL h (skp T s p + 1) O k)) (fun r13 h15 => (if r13 = true then (bd (X3_order (-16 : Int32) h15) (fun _ h18 => (some (true, h18)))) else (some (false, h15)))) := fun h O k ct => by
          rw [cst h O k ct, if_pos z33, X3_takeInnerUnit]
          unfold X3_takeInnerUnit_b
          rw [if_pos dl, if_neg (show ¬ zN 33 = 40 by decide), sN1]
          show bd (bd (X3_takeUnit n (X3_takeInnerUnit n e) (zN (d + 1)) false (wI (mk (ob h O k) (skp T s p)) 1 2 ((mk (ob h O k) (skp T s p)).1 1 2 + 1))) _) _ = _
          rw [mk_inc]
          show bd (bd (X3_takeUnit n (X3_takeInnerUnit n e) (zN (d + 1)) false (stL h (skp T s p + 1) O k)) _) _ = _
          cases X3_takeUnit n (X3_takeInnerUnit n e) (zN (d + 1)) false (stL h (skp T s p + 1) O k) with
          | none => rfl
          | some x =>
            obtain ⟨r, hh⟩ := x
            rw [bd_some]
            cases r with
            | true =>
              rw [if_pos rfl]
              cases X3_order (-16) hh <;> rfl
            | false => rfl
        have mm : ∀ (t b0 : Nat) (g : Mm), MT T s t b0 g → X12_unit n (e' + 1) (ms g p (-1) (zN d)) = bd (X12_unit n e' (ms g (skp T s p + 1) (-1) (zN (d + 1)))) (fun r40 h42 => (if r40 = true then (some (false, (wI h42 251 12 ((h42.1 251 12) - (1 : Int32))))) else (some (true, (wI h42 251 12 ((h42.1 251 12) - (1 : Int32))))))) := fun t b0 g mt => by
          rw [mst t b0 g mt, if_pos z33, gi g, bd_some, if_pos rfl]
        rcases uu (skp T s p + 1) (by omega) (by omega) with ⟨Q, a1, a2, a3, a4⟩ | ⟨p2, c2, v2, a1, a2, a3, a4, a5, a6⟩
        · refine Or.inl ⟨Q, by omega, a2, fun h O k ct hk => ?_, fun t b0 g mt => ?_⟩
          · have hk : k + 0 + 2 ≤ p := hk
            obtain ⟨O', k', e5⟩ := a3 h O k ct (by show k + 0 + 2 ≤ _; omega)
            have e5' : X3_takeUnit n (X3_takeInnerUnit n e) (zN (d + 1)) false (stL h (skp T s p + 1) O k) = some (false, stL h Q O' k') := e5
            refine ⟨O', k', ?_⟩
            show X3_takeUnit n (X3_takeInnerUnit n (e + 1)) (zN d) false (stL h p O k) = _
            rw [ciu h O k ct, e5', bd_some, if_neg (show ¬ (false = true) by decide)]
          · obtain ⟨v, a', d', e5⟩ := a4 t b0 g mt
            have e5' : X12_unit n e' (ms g (skp T s p + 1) (-1) (zN (d + 1))) = some (v, ms g a' (zN Q) d') := e5
            refine ⟨!v, a', d' - 1, ?_⟩
            show X12_unit n (e' + 1) (ms g p (-1) (zN d)) = _
            rw [mm t b0 g mt, e5', bd_some, ms_12, ms_w12]
            cases v <;> rfl
        · have a3' : c2.length ≤ p2 - (skp T s p + 1) := by have a3 : c2.length ≤ 0 + (p2 - (skp T s p + 1)) := a3; omega
          refine Or.inr ⟨p2, c2 ++ [-16], fun L => !(v2 L), by omega, a2, by rw [List.length_append]; show c2.length + 1 ≤ 0 + (p2 - p); omega, ⟨?_, fun L _ => b01_bd _⟩, fun h O k ct hk => ?_, fun t b0 g mt => ?_⟩
          · have cb := (CR_not a4.1 (by omega)).mono (show 2 * j' + 4 ≤ 2 * (j' + 1) + 4 by omega)
            have ef : (fun L => 1 - b01 (v2 L)) = fun L => b01 (!(v2 L)) := funext fun L => b01_not _
            rw [ef] at cb
            exact cb
          · have hk : k + 0 + 2 ≤ p := hk
            have e5 : X3_takeUnit n (X3_takeInnerUnit n e) (zN (d + 1)) false (stL h (skp T s p + 1) O k) = some (true, stL h p2 (wrL O k c2) (k + c2.length)) := a5 h O k ct (by show k + 0 + 2 ≤ _; omega)
            show X3_takeUnit n (X3_takeInnerUnit n (e + 1)) (zN d) false (stL h p O k) = _
            rw [ciu h O k ct, e5, bd_some, if_pos rfl, c_order (by omega), bd_some, wrL_app, List.length_append]
            rfl
          · have e5 : X12_unit n e' (ms g (skp T s p + 1) (-1) (zN (d + 1))) = some (v2 (lm g), ms g p2 (-1) (zN (d + 1))) := a6 t b0 g mt
            show X12_unit n (e' + 1) (ms g p (-1) (zN d)) = _
            rw [mm t b0 g mt, e5, bd_some, ms_12, dm, ms_w12]
            show _ = some (!v2 (lm g), ms g p2 (-1) (zN d))
            cases v2 (lm g) <;> rfl
      · have z40 : sg T s (skp T s p) = 40 := by omega
        have ciu : ∀ (h : Mm) (O : Nat → Int32) (k : Nat), CT T s h → X3_takeUnit n (X3_takeInnerUnit n (e + 1)) (zN d) false (stL h p O k) = bd (X3_takeCondition n (X3_takeInnerUnit n e) (zN (d + 1)) false (stL h (skp T s p + 1) O k)) (fun r19 h21 => (if r19 = true then (bd (X7_take n (41 : Int32) h21) (fun r22 h24 => (some (r22, h24)))) else (some (false, h21)))) := fun h O k ct => by
          rw [cst h O k ct, if_neg z33, if_pos z40, X3_takeInnerUnit]
          unfold X3_takeInnerUnit_b
          rw [if_pos dl, if_pos (show zN 40 = 40 from rfl), sN1]
          show bd (bd (X3_takeCondition n (X3_takeInnerUnit n e) (zN (d + 1)) false (wI (mk (ob h O k) (skp T s p)) 1 2 ((mk (ob h O k) (skp T s p)).1 1 2 + 1))) _) _ = _
          rw [mk_inc]
          show bd (bd (X3_takeCondition n (X3_takeInnerUnit n e) (zN (d + 1)) false (stL h (skp T s p + 1) O k)) _) _ = _
          cases X3_takeCondition n (X3_takeInnerUnit n e) (zN (d + 1)) false (stL h (skp T s p + 1) O k) with
          | none => rfl
          | some x =>
            obtain ⟨r, hh⟩ := x
            rw [bd_some, bd_some]
            cases r with
            | true =>
              rw [if_pos rfl, if_pos rfl]
              cases X7_take n 41 hh with
              | none => rfl
              | some y => obtain ⟨r2, hh2⟩ := y; cases r2 <;> rfl
            | false => rfl
        have mm : ∀ (t b0 : Nat) (g : Mm), MT T s t b0 g → X12_unit n (e' + 1) (ms g p (-1) (zN d)) = bd (X12_condition n (X12_unit n e') false (0 : Int32) (ms g (skp T s p + 1) (-1) (zN (d + 1)))) (fun r31 h33 => (bd (X12_takes n (41 : Int32) h33) (fun r34 h36 => (if r34 = true then (some (r31, (wI h36 251 12 ((h36.1 251 12) - (1 : Int32))))) else (some (false, h36)))))) := fun t b0 g mt => by
          rw [mst t b0 g mt, if_neg z33, if_pos z40, gi g, bd_some, if_pos rfl]
        have tt : ∀ p, 2 ≤ p → p ≤ s → BG T s (2 * j' + 4 + 1) (X3_takeTruth n (X3_takeInnerUnit n e) (zN (d + 1)) false) (fun g => X12_part n (X12_unit n e') false 0 (ms g p (-1) (zN (d + 1)))) p (d + 1) [] := fun p h2 hp => truth_f (c0 := []) (v0 := fun _ => 0) hn h240 (by omega) uu h2 hp (uu p h2 hp)
        rcases cond_f (c0 := []) (v0 := fun _ => 0) hn h240 (by omega) tt (show 2 ≤ skp T s p + 1 by omega) (by omega) (tt (skp T s p + 1) (by omega) (by omega)) with ⟨Q, a1, a2, a3, a4⟩ | ⟨p2, c2, v2, a1, a2, a3, a4, a5, a6⟩
        · refine Or.inl ⟨Q, by omega, a2, fun h O k ct hk => ?_, fun t b0 g mt => ?_⟩
          · have hk : k + 0 + 2 ≤ p := hk
            obtain ⟨O', k', e5⟩ := a3 h O k ct (by show k + 0 + 2 ≤ _; omega)
            have e5' : X3_takeCondition n (X3_takeInnerUnit n e) (zN (d + 1)) false (stL h (skp T s p + 1) O k) = some (false, stL h Q O' k') := e5
            refine ⟨O', k', ?_⟩
            show X3_takeUnit n (X3_takeInnerUnit n (e + 1)) (zN d) false (stL h p O k) = _
            rw [ciu h O k ct, e5', bd_some, if_neg (show ¬ (false = true) by decide)]
          · obtain ⟨v, a', d', e5⟩ := a4 t b0 g mt
            have e5' : X12_condition n (X12_unit n e') false (0 : Int32) (ms g (skp T s p + 1) (-1) (zN (d + 1))) = some (v, ms g a' (zN Q) d') := e5
            refine ⟨false, a', d', ?_⟩
            show X12_unit n (e' + 1) (ms g p (-1) (zN d)) = _
            rw [mm t b0 g mt, e5', bd_some, show (41 : Int32) = zN 41 from rfl, m_takes2 (by omega), bd_some, if_neg (show ¬ (false = true) by decide)]
        · have a3' : c2.length ≤ p2 - (skp T s p + 1) := by have a3 : c2.length ≤ 0 + (p2 - (skp T s p + 1)) := a3; omega
          have b2 := skp_b (T := T) a2
          have e5 : ∀ (h : Mm) (O : Nat → Int32) (k : Nat), CT T s h → k + 0 + 2 ≤ p → X3_takeCondition n (X3_takeInnerUnit n e) (zN (d + 1)) false (stL h (skp T s p + 1) O k) = some (true, stL h p2 (wrL O k c2) (k + c2.length)) := fun h O k ct hk => a5 h O k ct (by show k + 0 + 2 ≤ _; omega)
          have e6 : ∀ (t b0 : Nat) (g : Mm), MT T s t b0 g → X12_condition n (X12_unit n e') false (0 : Int32) (ms g (skp T s p + 1) (-1) (zN (d + 1))) = some (v2 (lm g), ms g p2 (-1) (zN (d + 1))) := fun t b0 g mt => a6 t b0 g mt
          by_cases z : sg T s (skp T s p2) = 41
          · have lt2 : skp T s p2 < s := sg_lt (T := T) (show sg T s (skp T s p2) ≠ 0 by omega)
            refine Or.inr ⟨skp T s p2 + 1, c2, v2, by omega, by omega, by show c2.length ≤ 0 + (skp T s p2 + 1 - p); omega, a4.mono (by omega), fun h O k ct hk => ?_, fun t b0 g mt => ?_⟩
            · show X3_takeUnit n (X3_takeInnerUnit n (e + 1)) (zN d) false (stL h p O k) = _
              rw [ciu h O k ct, e5 h O k ct hk, bd_some, if_pos rfl]
              unfold stL
              rw [show (41 : Int32) = zN 41 from rfl, c_take hn ct.ob a2 (by decide), if_pos z, bd_some]
            · show X12_unit n (e' + 1) (ms g p (-1) (zN d)) = _
              rw [mm t b0 g mt, e6 t b0 g mt, bd_some, show (41 : Int32) = zN 41 from rfl, m_takes mt hn a2 (by decide) (by decide), if_pos z, bd_some, if_pos rfl, ms_12, dm, ms_w12]
          · refine Or.inl ⟨skp T s p2, by omega, b2.2, fun h O k ct hk => ⟨wrL O k c2, k + c2.length, ?_⟩, fun t b0 g mt => ⟨false, skp T s p2, zN (d + 1), ?_⟩⟩
            · show X3_takeUnit n (X3_takeInnerUnit n (e + 1)) (zN d) false (stL h p O k) = _
              rw [ciu h O k ct, e5 h O k ct hk, bd_some, if_pos rfl]
              unfold stL
              rw [show (41 : Int32) = zN 41 from rfl, c_take hn ct.ob a2 (by decide), if_neg z, bd_some]
            · show X12_unit n (e' + 1) (ms g p (-1) (zN d)) = _
              rw [mm t b0 g mt, e6 t b0 g mt, bd_some, show (41 : Int32) = zN 41 from rfl, m_takes mt hn a2 (by decide) (by decide), if_neg z, bd_some, if_neg (show ¬ (false = true) by decide)]
  · have n33 : ¬ sg T s (skp T s p) = 33 := by omega
    have n40 : ¬ sg T s (skp T s p) = 40 := by omega
    have us := unit_sum (T := T) (n := n) (d := d) (p := skp T s p) hn h240 (by omega) (by omega) b.2 (X3_takeInnerUnit n (e + 1))
    rw [ej] at us
    rcases us with ⟨Q, a1, a2, a3, a4⟩ | ⟨p2, c2, v2, a1, a2, a3, a4, a5, a6⟩
    · refine Or.inl ⟨Q, by omega, a2, fun h O k ct hk => ?_, fun t b0 g mt => ?_⟩
      · have hk : k + 0 + 2 ≤ p := hk
        obtain ⟨O', k', e5⟩ := a3 h O k ct (by show k + 0 + 2 ≤ _; omega)
        refine ⟨O', k', ?_⟩
        show X3_takeUnit n (X3_takeInnerUnit n (e + 1)) (zN d) false (stL h p O k) = _
        rw [cst h O k ct, if_neg n33, if_neg n40]
        exact e5
      · obtain ⟨v, a', d', e5⟩ := a4 t b0 g mt
        have e5' : X12_compares n false (0 : Int32) (ms g (skp T s p) (-1) (zN d)) = some (v, ms g a' (zN Q) d') := e5
        refine ⟨v, a', d', ?_⟩
        show X12_unit n (e' + 1) (ms g p (-1) (zN d)) = _
        rw [mst t b0 g mt, if_neg n33, if_neg n40, e5', bd_some]
    · have a3' : c2.length ≤ p2 - skp T s p := by have a3 : c2.length ≤ 0 + (p2 - skp T s p) := a3; omega
      refine Or.inr ⟨p2, c2, v2, by omega, a2, by show c2.length ≤ 0 + (p2 - p); omega, a4, fun h O k ct hk => ?_, fun t b0 g mt => ?_⟩
      · have hk : k + 0 + 2 ≤ p := hk
        show X3_takeUnit n (X3_takeInnerUnit n (e + 1)) (zN d) false (stL h p O k) = _
        rw [cst h O k ct, if_neg n33, if_neg n40]
        exact a5 h O k ct (by show k + 0 + 2 ≤ _; omega)
      · have e5' : X12_compares n false (0 : Int32) (ms g (skp T s p) (-1) (zN d)) = some (v2 (lm g), ms g p2 (-1) (zN d)) := a6 t b0 g mt
        show X12_unit n (e' + 1) (ms g p (-1) (zN d)) = _
        rw [mst t b0 g mt, if_neg n33, if_neg n40, e5', bd_some]
theorem unit_sp {T : Nat → Nat} {s n : Nat} (hn : 20000 ≤ n) (h240 : s ≤ 240) : ∀ (j e e' d p : Nat), j < e → j < e' → d + j = 6 → 2 ≤ p → p ≤ s → BG T s (2 * j + 4) (X3_takeUnit n (X3_takeInnerUnit n e) (zN d) false) (fun g => X12_unit n e' (ms g p (-1) (zN d))) p d [] := by
  intro j
  induction j with
  | zero =>
    intro e e' d p he he' hd h2 hp
    exact unit_one hn h240 he he' hd h2 hp (fun j' z => by omega)
  | succ j ih =>
    intro e e' d p he he' hd h2 hp
    exact unit_one hn h240 he he' hd h2 hp (fun j' z => by
      obtain rfl : j' = j := by omega
      intro e e' p he he' h2 hp
      exact ih e e' (d + 1) p he he' (by omega) h2 hp)
