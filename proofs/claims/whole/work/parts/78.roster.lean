/-! rosters -/
def pc (L : Nat) : Nat := L % 2 + L / 2 % 2 + L / 4 % 2 + L / 8 % 2 + L / 16 % 2 + L / 32 % 2
theorem pc_val : ∀ L, L < 64 → ∀ h : Mm, J6_bitCount_0f7a4 (zN L) h = some (zN (pc L)) := by
  intro L hL h
  have e : ∀ L, L < 64 → J6_bitCount_0f7a4 (zN L) (fun _ _ => 0, fun _ _ => 0) = some (zN (pc L)) := by decide +kernel
  exact e L hL
theorem set_or : ∀ U, U < 64 → ∀ k, k < 6 → zN U ||| ((1 : Int32) <<< (zN k &&& 31)) = zN (U ||| 2 ^ k) ∧ (U ||| 2 ^ k) < 64 := by decide +kernel
theorem set_an : ∀ L, L < 64 → ∀ k, k < 6 → zN L &&& (((1 : Int32) <<< (zN k &&& 31)) ^^^ (-1 : Int32)) = zN (L &&& (63 ^^^ 2 ^ k)) ∧ (L &&& (63 ^^^ 2 ^ k)) < 64 ∧ (L.testBit k = true → pc (L &&& (63 ^^^ 2 ^ k)) + 1 = pc L) := by decide +kernel
theorem tb_or : ∀ k, k < 6 → ∀ i, i < 6 → ∀ U, U < 64 → (U ||| 2 ^ k).testBit i = (U.testBit i || decide (i = k)) := by decide +kernel
theorem tb_an : ∀ k, k < 6 → ∀ i, i < 6 → ∀ L, L < 64 → (L &&& (63 ^^^ 2 ^ k)).testBit i = (L.testBit i && !decide (i = k)) := by decide +kernel
theorem pc_0 : ∀ L, L < 64 → (pc L = 0 ↔ L = 0) := by decide +kernel
theorem pc_full : ∀ H, H ≤ 6 → ((1 : Int32) <<< (zN H &&& 31)) - 1 = zN (2 ^ H - 1) ∧ 2 ^ H - 1 < 64 ∧ pc (2 ^ H - 1) = H := by decide +kernel
theorem tb_full : ∀ H, H ≤ 6 → ∀ i, i < 6 → (2 ^ H - 1).testBit i = decide (i < H) := by decide +kernel
theorem c_rested {t N : Nat} {h : Mm} (ht : t ≤ 1000) (hN : N ≤ 100) : X9_restedFrom (zN t) (zN N) h = some (zN (t - 6 * N)) := by
  unfold X9_restedFrom
  rw [show (6 : Int32) = zN 6 from rfl, zN_mul, zN_subI, show (0 : Int32) = zN 0 from rfl, j_max, bp_some]
  congr 1
  by_cases c : (0 : Int) < (t : Int) - (N * 6 : Nat)
  · rw [if_pos ((zN_ltI (by omega) (by omega) (by decide)).mpr c), zI_toN (k := t - 6 * N) (by omega)]
  · rw [if_neg (by rw [zN_ltI (by omega) (by omega) (by decide)]; exact c), show t - 6 * N = 0 by omega]
/-- how the trial stands behind N nights -/
def RtR (H : Nat) (nm be : Nat → Nat) (b : Nat) (rb : Int32) (N L c bo : Nat) (T : Nat → Int32) : Prop := T 22 = zN c ∧ T (18 + nm (3 + (3 * b + 2))) = zN bo ∧ T 29 = zN (be 29 + N) ∧ T 30 = zN N ∧ (∀ i, i < H → L.testBit i = true → T (3 * i) = zN (be (3 * i) - 6 * N)) ∧ (∀ i, i < H → T (3 * i + 1) = zN (be (3 * i + 1))) ∧ T 24 = if N = 0 then rb else 0
theorem RtR.cg {H : Nat} {nm be : Nat → Nat} {b : Nat} {rb : Int32} {N L c bo : Nat} {T T' : Nat → Int32} (q : RtR H nm be b rb N L c bo T) (hH : H ≤ 6) (hk : nm (3 + (3 * b + 2)) ≤ 3) (e : ∀ j, j ≤ 30 → T' j = T j) : RtR H nm be b rb N L c bo T' := by
  obtain ⟨q1, q2, q3, q4, q5, q6, q7⟩ := q
  exact ⟨by rw [e _ (by omega)]; exact q1, by rw [e _ (by omega)]; exact q2, by rw [e _ (by omega)]; exact q3, by rw [e _ (by omega)]; exact q4, fun i hi h => by rw [e _ (by omega)]; exact q5 i hi h, fun i hi => by rw [e _ (by omega)]; exact q6 i hi, by rw [e _ (by omega)]; exact q7⟩
def canB (nm be : Nat → Nat) (b : Nat) (rb : Int32) (N k : Nat) : Prop := be (3 * k) - 6 * N + nm (3 + 3 * b) ≤ nm (21 + (3 * k + 1)) ∧ (N = 0 → bit rb b = false)
theorem c_ros {n B H : Nat} {nm : Nat → Nat} {nl : Nat} {hd : Int32} {f : Nat → F6} {be : Nat → Nat} {h0 g0 : Mm} (x : CX n B H nm nl hd f be h0 g0) {b : Nat} (hb : b < B) {N U c bo k q : Nat} {row sl : Int32} {h : Mm} (rf : Int32 → Int32 → Int32 → Int32 → Int32 → Int32 → Mm → Option (Unit × Mm)) (kc : KC n nl hd f h0 h) (e8 : h.1 246 8 = zN b) (hN : N < 6) (hU : U < 64) (hk : k < H) (ub : U.testBit k = false) (hc : c ≤ 99) (hbo : bo ≤ 9) :
    ∃ h1 c1 bo1, X6_growRoster_48 n rf (q + 1) (zN N) (zN U) row sl (zN c) (zN bo) (zN (nm (3 + 3 * b))) (zN k) h = bd (rf (zN (N + 1)) (zN (U ||| 2 ^ k)) (row * 10 + zN k) (sl + zN (slN nm c1 k)) (zN (ncalm nm c1)) (zN (bo1 - 1)) h1) (fun _ h2 => X6_growRoster_48 n rf q (zN N) (zN U) row sl (zN c) (zN bo) (zN (nm (3 + 3 * b))) (zN (k + 1)) h2) ∧ KC n nl hd f h0 h1 ∧ h1.1 246 = h.1 246 ∧ c1 ≤ 99 ∧ bo1 ≤ 9 ∧
      ((canB nm be b (h0.1 27 9) N k ∧ c1 = pgs (wr6 hd f (nm (3 + (3 * b + 1))) (be (3 * k + 1)) bo (be 29 + N) (be (3 * k) - 6 * N)) c (nm (3 + 3 * b)) ∧ bo1 = min 9 (bo + 1)) ∨ (¬ canB nm be b (h0.1 27 9) N k ∧ c1 = c ∧ bo1 = bo)) := by
  obtain ⟨x1, x2, ⟨q1, q2, q3, q4, q5, q6, q7, q8⟩, -, -⟩ := id x
  have hH := x2.2.1.2.1
  have hB6 := x2.2.1.1
  obtain ⟨⟨t1, t2, -⟩, -, v1, v2, -⟩ := q1 k hk
  have st := (x2.2.2.2.2.2.2.2 k hk)
  have pgb := x2.2.2.2.2.2.2.1 b hb
  have en := x2.2.2.2.2.2.1
  have f204 : ∀ (c1 bo1 : Nat) (h1 : Mm), KC n nl hd f h0 h1 → c1 ≤ 99 → bo1 ≤ 9 → X6_growRoster_204 n rf (X6_growRoster_48 n rf q) (zN N) (zN U) row sl (zN c) (zN bo) (zN (nm (3 + 3 * b))) (zN k) (zN c1) false (zN bo1) h1 = bd (rf (zN (N + 1)) (zN (U ||| 2 ^ k)) (row * 10 + zN k) (sl + zN (slN nm c1 k)) (zN (ncalm nm c1)) (zN (bo1 - 1)) h1) (fun _ h2 => X6_growRoster_48 n rf q (zN N) (zN U) row sl (zN c) (zN bo) (zN (nm (3 + 3 * b))) (zN (k + 1)) h2) := fun c1 bo1 h1 k1 hc1 hb1 => by
    have em : (if zN 0 < zN bo1 - 1 then zN bo1 - 1 else zN 0) = zN (bo1 - 1) := by
      rw [show (1 : Int32) = zN 1 from rfl, zN_subI]
      by_cases y : (0 : Int) < (bo1 : Int) - (1 : Nat)
      · rw [if_pos ((zN_ltI (by omega) (by omega) (by decide)).mpr y), zI_toN (k := bo1 - 1) (by omega)]
      · rw [if_neg (by rw [zN_ltI (by omega) (by omega) (by decide)]; exact y), show bo1 - 1 = 0 by omega]
    unfold X6_growRoster_204 X6_growRoster_236 X6_growRoster_274
    rw [b2i_f, j_max, bp_some, em, c_enough (x.lc k1), bp_some, c_behind (x.lc k1) hc1, bp_some, c_children (x.lc k1) hk, bp_some, bp_some, (set_or U hU k (by omega)).1, sN1, sN1]
    unfold slN
    by_cases y : nm 1 ≤ c1
    · rw [if_neg (show ¬ zN c1 < zN (nm 1) by rw [zN_lt (by omega) (by omega)]; omega), if_pos y]
    · rw [if_pos (show zN c1 < zN (nm 1) from (zN_lt (by omega) (by omega)).mpr (by omega)), if_neg y]; rfl
  rw [X6_growRoster_48, c_houses, bp_some, (x.lc kc).1.2.1, if_neg (show ¬ zN H ≤ zN k by rw [zN_le (by omega) (by omega)]; omega), bt1 (by omega), bit_N (by omega), ub, if_pos (show (if false = true then (1 : Int32) else 0) = 0 from rfl), at_29 (by omega), bp_some, kc.i 29 (by omega), t1, c_rested (by omega) (by omega), bp_some, c_strength (x.lc kc) hk, bp_some, zN_subI]
  unfold X6_growRoster_129 X6_growRoster_125
  have no : ¬ canB nm be b (h0.1 27 9) N k → ∃ h1 c1 bo1, X6_growRoster_130 n rf (X6_growRoster_48 n rf q) (zN N) (zN U) row sl (zN c) (zN bo) (zN (nm (3 + 3 * b))) (zN k) (zN (be (3 * k) - 6 * N)) false h = bd (rf (zN (N + 1)) (zN (U ||| 2 ^ k)) (row * 10 + zN k) (sl + zN (slN nm c1 k)) (zN (ncalm nm c1)) (zN (bo1 - 1)) h1) (fun _ h2 => X6_growRoster_48 n rf q (zN N) (zN U) row sl (zN c) (zN bo) (zN (nm (3 + 3 * b))) (zN (k + 1)) h2) ∧ KC n nl hd f h0 h1 ∧ h1.1 246 = h.1 246 ∧ c1 ≤ 99 ∧ bo1 ≤ 9 ∧
      ((canB nm be b (h0.1 27 9) N k ∧ c1 = pgs (wr6 hd f (nm (3 + (3 * b + 1))) (be (3 * k + 1)) bo (be 29 + N) (be (3 * k) - 6 * N)) c (nm (3 + 3 * b)) ∧ bo1 = min 9 (bo + 1)) ∨ (¬ canB nm be b (h0.1 27 9) N k ∧ c1 = c ∧ bo1 = bo)) := fun hn => by
    refine ⟨h, c, bo, ?_, kc, rfl, hc, hbo, Or.inr ⟨hn, rfl, rfl⟩⟩
    unfold X6_growRoster_130 X6_growRoster_186
    rw [if_neg (show ¬ (false = true) by decide), if_neg (show ¬ (false = true) by decide)]
    exact f204 c bo h kc hc hbo
  have yes : canB nm be b (h0.1 27 9) N k → ∃ h1 c1 bo1, X6_growRoster_130 n rf (X6_growRoster_48 n rf q) (zN N) (zN U) row sl (zN c) (zN bo) (zN (nm (3 + 3 * b))) (zN k) (zN (be (3 * k) - 6 * N)) true h = bd (rf (zN (N + 1)) (zN (U ||| 2 ^ k)) (row * 10 + zN k) (sl + zN (slN nm c1 k)) (zN (ncalm nm c1)) (zN (bo1 - 1)) h1) (fun _ h2 => X6_growRoster_48 n rf q (zN N) (zN U) row sl (zN c) (zN bo) (zN (nm (3 + 3 * b))) (zN (k + 1)) h2) ∧ KC n nl hd f h0 h1 ∧ h1.1 246 = h.1 246 ∧ c1 ≤ 99 ∧ bo1 ≤ 9 ∧
      ((canB nm be b (h0.1 27 9) N k ∧ c1 = pgs (wr6 hd f (nm (3 + (3 * b + 1))) (be (3 * k + 1)) bo (be 29 + N) (be (3 * k) - 6 * N)) c (nm (3 + 3 * b)) ∧ bo1 = min 9 (bo + 1)) ∨ (¬ canB nm be b (h0.1 27 9) N k ∧ c1 = c ∧ bo1 = bo)) := fun hy => by
    obtain ⟨h1, a1, a2, a3⟩ := c_behK x kc (y := b) (v := be (3 * k + 1)) (b := bo) (nn := be 29 + N) (t := be (3 * k) - 6 * N) (m := nm (3 + 3 * b)) (c := c) hb v2 hbo (by omega) (by omega) (by omega) hc
    have c9 := pgs_le (W := wr6 hd f (nm (3 + (3 * b + 1))) (be (3 * k + 1)) bo (be 29 + N) (be (3 * k) - 6 * N)) hc (nm (3 + 3 * b))
    refine ⟨h1, _, _, ?_, a2, a3.1 246 (by decide) (by decide) (by decide), c9, (by omega : min 9 (bo + 1) ≤ 9), Or.inl ⟨hy, rfl, rfl⟩⟩
    unfold X6_growRoster_130 X6_growRoster_186
    rw [if_pos rfl, at_30 (by omega), bp_some, kc.i 30 (by omega), t2, e8, kc.i 27 (by omega), q5.1, zN_add, a1, bd_some, if_pos rfl, c_mbored hbo, bp_some]
    exact f204 _ _ h1 a2 c9 (by omega)
  by_cases y : be (3 * k) - 6 * N + nm (3 + 3 * b) ≤ nm (21 + (3 * k + 1))
  · rw [if_neg (show ¬ zI ((nm (21 + (3 * k + 1)) : Int) - (be (3 * k) - 6 * N : Nat)) < zN (nm (3 + 3 * b)) by rw [zI_ltN (by omega) (by omega) (by omega)]; omega)]
    by_cases y2 : N = 0
    · rw [if_pos (show zN N = 0 by rw [y2]; rfl)]
      unfold X0_wasRead
      rw [e8, kc.i 27 (by omega), bt1 (by omega)]
      by_cases y3 : bit (h0.1 27 9) b = true
      · rw [if_neg (fun w => (if10 _).mp w y3), bp_some, if_pos rfl]
        exact no (fun w => by rw [w.2 y2] at y3; cases y3)
      · rw [if_pos ((if10 _).mpr y3), bp_some, if_neg (show ¬ (false = true) by decide)]
        exact yes ⟨y, fun _ => by simpa using y3⟩
    · rw [if_neg (show ¬ zN N = 0 by rw [zN_lit, zN_eq (by omega) (by decide)]; exact y2)]
      exact yes ⟨y, fun w => absurd w y2⟩
  · rw [if_pos (show zI ((nm (21 + (3 * k + 1)) : Int) - (be (3 * k) - 6 * N : Nat)) < zN (nm (3 + 3 * b)) from (zI_ltN (by omega) (by omega) (by omega)).mpr (by omega))]
    exact no (fun w => y w.1)
theorem m_ros {n B H : Nat} {nm : Nat → Nat} {nl : Nat} {hd : Int32} {f : Nat → F6} {be : Nat → Nat} {h0 g0 : Mm} (x : CX n B H nm nl hd f be h0 g0) {b : Nat} (hb : b < B) {N L c bo k q : Nat} {row sl dm : Int32} {g : Mm} (rf : Int32 → Int32 → Int32 → Int32 → Mm → Option (Unit × Mm)) (kg : KG n nl hd f g0 g) (hN : N < 6) (hL64 : L < 64) (hk : k < H) (lb : L.testBit k = true) (hc : c ≤ 99) (hbo : bo ≤ 9) (rt : RtR H nm be b (h0.1 27 9) N L c bo (g.1 265)) :
    ∃ g1 c1 bo1, X12_goRoster_70 n rf (q + 1) (zN b) (zN L) sl row dm (zN k) g = bd (rf (zN b) (zN (L &&& (63 ^^^ 2 ^ k))) (sl + zN (slN nm c1 k)) (10 * row + zN k) g1) (fun _ h2 => X12_goRoster_171 n rf (X12_goRoster_70 n rf q) n (zN b) (zN L) sl row dm (zN k) 0 h2) ∧ KG n nl hd f g0 g1 ∧ g1.1 251 44 = g.1 251 44 ∧ g1.1 251 45 = g.1 251 45 ∧ g1.1 269 = g.1 269 ∧ RtR H nm be b (h0.1 27 9) (N + 1) (L &&& (63 ^^^ 2 ^ k)) (ncalm nm c1) (bo1 - 1) (g1.1 265) ∧
      ((canB nm be b (h0.1 27 9) N k ∧ c1 = pgs (wr6 hd f (nm (3 + (3 * b + 1))) (be (3 * k + 1)) bo (be 29 + N) (be (3 * k) - 6 * N)) c (nm (3 + 3 * b)) ∧ bo1 = min 9 (bo + 1)) ∨ (¬ canB nm be b (h0.1 27 9) N k ∧ c1 = c ∧ bo1 = bo)) := by
  obtain ⟨x1, x2, ⟨q1, q2, q3, q4, q5, q6, q7, q8⟩, -, -⟩ := id x
  have hH := x2.2.1.2.1
  have hB6 := x2.2.1.1
  obtain ⟨-, -, v1, v2, -⟩ := q1 k hk
  have pgb := x2.2.2.2.2.2.2.1 b hb
  obtain ⟨r22, rbo, r29, r30, rti, rvo, r24⟩ := rt
  have i23 : inB (23 : Int32) (aln 265) := by rw [al_265]; decide
  have t23 : (23 : Int32).toNatClampNeg = 23 := by decide
  have kgw : KG n nl hd f g0 (wI g 265 23 (zN k)) := kg.w (by omega)
  have w23 : (wI g 265 23 (zN k)).1 265 23 = zN k := by rw [w_eq, u_eq]
  have wne : ∀ j, j ≠ 23 → (wI g 265 23 (zN k)).1 265 j = g.1 265 j := fun j hj => by rw [w_eq, u_ne hj]
  -- the night behind it
  have nt : ∀ (g2 : Mm) (c1 bo1 : Nat), KG n nl hd f g0 g2 → c1 ≤ 99 → bo1 ≤ 9 → g2.1 265 23 = zN k → g2.1 265 22 = zN c1 → g2.1 265 (18 + nm (3 + (3 * b + 2))) = zN bo1 → (∀ j, j ≠ 22 → j ≠ 23 → j ≠ 3 * k → j ≠ 18 + nm (3 + (3 * b + 2)) → j ≠ 24 → g2.1 265 j = g.1 265 j) → g2.1 251 44 = g.1 251 44 → g2.1 251 45 = g.1 251 45 → g2.1 269 = g.1 269 →
      ∃ g1, X12_goRoster_133 n rf (X12_goRoster_70 n rf q) (zN b) (zN L) sl row dm (zN k) g2 = bd (rf (zN b) (zN (L &&& (63 ^^^ 2 ^ k))) (sl + zN (slN nm c1 k)) (10 * row + zN k) g1) (fun _ h2 => X12_goRoster_171 n rf (X12_goRoster_70 n rf q) n (zN b) (zN L) sl row dm (zN k) 0 h2) ∧ KG n nl hd f g0 g1 ∧ g1.1 251 44 = g.1 251 44 ∧ g1.1 251 45 = g.1 251 45 ∧ g1.1 269 = g.1 269 ∧ RtR H nm be b (h0.1 27 9) (N + 1) (L &&& (63 ^^^ 2 ^ k)) (ncalm nm c1) (bo1 - 1) (g1.1 265) := fun g2 c1 bo1 k2 hc1 hb1 e23 e22 eb eo e44 e45 e269 => by
    obtain ⟨g1, sl', es, m1, m2, m3, m4, ⟨k22, k23, k24, k25, k26, k27, k28, k29⟩, m6, m7, -⟩ := m_night (c := c1) (L := N) (x.lm k2) x1 al_265 (by decide) hk e23 (by rw [eo 30 (by omega) (by omega) (by omega) (by omega) (by omega)]; exact r30) (by omega) e22 hc1
    have es' : sl' = zN (slN nm c1 k) := es
    subst es'
    unfold X12_goRoster_133
    rw [m1, bd_some, (set_an L hL64 k (by omega)).1]
    refine ⟨g1, rfl, k2.sx (k2.1.cg (by rw [m2 251 (by decide)]) (by rw [m2 251 (by decide)]) (m2 253 (by decide)) (m2 254 (by decide)) (by rw [m3]) (m2 267 (by decide))) ⟨fun i _ _ h3 _ _ _ => m2 i h3, fun j _ => by rw [m2 251 (by decide)], fun i _ => by rw [m3]⟩, by rw [m2 251 (by decide)]; exact e44, by rw [m2 251 (by decide)]; exact e45, by rw [m2 269 (by decide)]; exact e269, k22, ?_, ?_, (m7 (by omega)).1, fun i hi hl => ?_, fun i hi => ?_, ?_⟩
    · rw [m4 _ (by omega) (by omega), eb, lessI_N (by omega) (by decide)]
    · rw [k29, eo 29 (by omega) (by omega) (by omega) (by omega) (by omega), r29, zN_add]; rfl
    · rw [tb_an k (by omega) i (by omega) L hL64, Bool.and_eq_true] at hl
      have ne : i ≠ k := fun z => by have := hl.2; rw [decide_eq_true z] at this; cases this
      have bi := (q1 i hi).2.2.1
      rw [(m6 i hi).1, eo _ (by omega) (by omega) (by omega) (by omega) (by omega), rti i hi hl.1, lessI_N (by omega) (by decide)]
      exact congrArg zN (by omega)
    · rw [(m6 i hi).2.1, eo _ (by omega) (by omega) (by omega) (by omega) (by omega)]; exact rvo i hi
    · rw [k24]; rfl
  have may := m_may (p := nm (3 + 3 * b)) (x.lm kgw) al_265 w23 hk (by rw [wne _ (by omega)]; exact rti k hk lb) (by omega) hb pgb.1 (Nat.le_refl _)
  have can : (be (3 * k) - 6 * N + nm (3 + 3 * b) ≤ nm (21 + (3 * k + 1)) ∧ bit ((wI g 265 23 (zN k)).1 265 24) b = false) ↔ canB nm be b (h0.1 27 9) N k := by
    rw [wne 24 (by omega), r24]
    unfold canB
    by_cases z : N = 0
    · rw [if_pos z]; exact ⟨fun w => ⟨w.1, fun _ => w.2⟩, fun w => ⟨w.1, w.2 z⟩⟩
    · rw [if_neg z]
      have : bit (0 : Int32) b = false := BitVec.getLsbD_zero
      exact ⟨fun w => ⟨w.1, fun y => absurd y z⟩, fun w => ⟨w.1, this⟩⟩
  rw [X12_goRoster_70, (x.lm kg).1.2.2.2, if_neg (show ¬ zN H ≤ zN k by rw [zN_le (by omega) (by omega)]; omega)]
  unfold X12_has
  rw [bt1 (by omega), bit_N (by omega), lb, if_pos (show (if true = true then (1 : Int32) else 0) = 1 from rfl), bp_some, if_pos rfl, if_pos i23, t23, m_pages (x.lm kgw) hb, bp_some, may, bp_some]
  by_cases z : canB nm be b (h0.1 27 9) N k
  · rw [decide_eq_true (can.mpr z), if_pos rfl, bp_some]
    obtain ⟨g2, s1, s2, s3, s4, s5, s6, s7, s8⟩ := m_readK x kgw (y := b) (v := be (3 * k + 1)) (b := bo) (nn := be 29 + N) (t := be (3 * k) - 6 * N) (m := nm (3 + 3 * b)) (c := c) (fa := k) hb (by omega) v2 hbo (by omega) (by omega) (by omega) hc w23 (by rw [wne _ (by omega)]; exact r22) (by rw [wne _ (by omega)]; exact rvo k hk) (by rw [wne _ (by omega)]; exact rbo) (by rw [wne _ (by omega)]; exact r29) (by rw [wne _ (by omega)]; exact rti k hk lb)
    have c9 := pgs_le (W := wr6 hd f (nm (3 + (3 * b + 1))) (be (3 * k + 1)) bo (be 29 + N) (be (3 * k) - 6 * N)) hc (nm (3 + 3 * b))
    rw [s1, bd_some]
    obtain ⟨g1, n1, n2, n3, n4, n5, n6⟩ := nt g2 _ _ s2 c9 (by omega : min 9 (bo + 1) ≤ 9) (by rw [s7 23 (by omega) (by omega) (by omega) (by omega)]; exact w23) s3 s5 (fun j j1 j2 j3 j4 j5 => by rw [s7 j j1 j3 j4 j5, wne j j2]) (by rw [s8.2.1 44 rfl, w_ne (by decide)]) (by rw [s8.2.1 45 rfl, w_ne (by decide)]) (by rw [s8.1 269 (by decide) (by decide) (by decide) (by decide), w_ne (by decide)])
    exact ⟨g1, _, _, n1, n2, n3, n4, n5, n6, Or.inl ⟨z, rfl, rfl⟩⟩
  · rw [decide_eq_false (fun w => z (can.mp w)), if_neg (show ¬ (false = true) by decide)]
    obtain ⟨g1, n1, n2, n3, n4, n5, n6⟩ := nt _ c bo kgw hc hbo w23 (by rw [wne _ (by omega)]; exact r22) (by rw [wne _ (by omega)]; exact rbo) (fun j _ j2 _ _ _ => wne j j2) (by rw [w_ne (by decide)]) (by rw [w_ne (by decide)]) (w_ne (by decide))
    exact ⟨g1, c, bo, n1, n2, n3, n4, n5, n6, Or.inr ⟨z, rfl, rfl⟩⟩
theorem m_save {n B H : Nat} {nm : Nat → Nat} {nl : Nat} {hd : Int32} {f : Nat → F6} {be : Nat → Nat} {h0 g0 : Mm} (x : CX n B H nm nl hd f be h0 g0) {b : Nat} (hb : b < B) {L d : Nat} {row sl : Int32} (rf : Int32 → Int32 → Int32 → Int32 → Mm → Option (Unit × Mm)) (hd6 : d ≤ 6) : ∀ (dd q j : Nat) (g : Mm), j + dd = 31 → dd < q → KG n nl hd f g0 g → ∃ g1, X12_goRoster_34 n rf q (zN b) (zN L) sl row (zN d) (zN j) g = X12_goRoster_70 n rf n (zN b) (zN L) sl row (zN d) 0 g1 ∧ KG n nl hd f g0 g1 ∧ (∀ i, i ≠ 269 → g1.1 i = g.1 i) ∧ (∀ i, j ≤ i → i ≤ 30 → g1.1 269 (31 * d + i) = g.1 265 i) ∧ (∀ i, (i < 31 * d + j ∨ 31 * d + 30 < i) → g1.1 269 i = g.1 269 i) := by
  intro dd
  induction dd with
  | zero =>
    intro q j g hj hq kg
    obtain ⟨q, rfl⟩ : ∃ m, q = m + 1 := ⟨q - 1, by omega⟩
    unfold X12_goRoster_34
    rw [show (30 : Int32) = zN 30 from rfl, if_pos (show zN 30 < zN j from (zN_lt (by decide) (by omega)).mpr (by omega))]
    exact ⟨g, rfl, kg, fun _ _ => rfl, fun i h1 h2 => by omega, fun _ _ => rfl⟩
  | succ dd ih =>
    intro q j g hj hq kg
    obtain ⟨q, rfl⟩ : ∃ m, q = m + 1 := ⟨q - 1, by omega⟩
    unfold X12_goRoster_34
    rw [show (30 : Int32) = zN 30 from rfl, if_neg (show ¬ zN 30 < zN j by rw [zN_lt (by decide) (by omega)]; omega), if_pos (by rw [al_265, zN_inB (by omega)]; omega), show (31 : Int32) = zN 31 from rfl, zN_mul, zN_add, if_pos (by rw [al_269, zN_inB (by omega)]; omega), zN_ix (by omega), zN_ix (by omega), sN1]
    obtain ⟨g1, r1, r2, r3, r4, r5⟩ := ih q (j + 1) (wI g 269 (31 * d + j) (g.1 265 j)) (by omega) (by omega) (kg.w (by omega))
    refine ⟨g1, r1, r2, fun i hi => by rw [r3 i hi, w_ne hi], fun i h1 h2 => ?_, fun i hi => by rw [r5 i (by omega), w_eq, u_ne (by omega)]⟩
    by_cases c : i = j
    · subst c; rw [r5 _ (by omega), w_eq, u_eq]
    · rw [r4 i (by omega) h2, w_ne (by decide)]
theorem m_rest {n B H : Nat} {nm : Nat → Nat} {nl : Nat} {hd : Int32} {f : Nat → F6} {be : Nat → Nat} {h0 g0 : Mm} (x : CX n B H nm nl hd f be h0 g0) {b : Nat} (hb : b < B) {L d k : Nat} {row sl : Int32} (rf : Int32 → Int32 → Int32 → Int32 → Mm → Option (Unit × Mm)) (K : Int32 → Int32 → Int32 → Int32 → Int32 → Int32 → Mm → Option (Unit × Mm)) (hd6 : d ≤ 6) : ∀ (dd q j : Nat) (g : Mm), j + dd = 31 → dd < q → KG n nl hd f g0 g → ∃ g1, X12_goRoster_171 n rf K q (zN b) (zN L) sl row (zN d) (zN k) (zN j) g = K (zN b) (zN L) sl row (zN d) (zN (k + 1)) g1 ∧ KG n nl hd f g0 g1 ∧ (∀ i, i ≠ 265 → g1.1 i = g.1 i) ∧ (∀ i, j ≤ i → i ≤ 30 → g1.1 265 i = g.1 269 (31 * d + i)) ∧ (∀ i, i < j → g1.1 265 i = g.1 265 i) := by
  intro dd
  induction dd with
  | zero =>
    intro q j g hj hq kg
    obtain ⟨q, rfl⟩ : ∃ m, q = m + 1 := ⟨q - 1, by omega⟩
    unfold X12_goRoster_171 X12_goRoster_204
    rw [show (30 : Int32) = zN 30 from rfl, if_pos (show zN 30 < zN j from (zN_lt (by decide) (by omega)).mpr (by omega)), sN1]
    exact ⟨g, rfl, kg, fun _ _ => rfl, fun i h1 h2 => by omega, fun _ _ => rfl⟩
  | succ dd ih =>
    intro q j g hj hq kg
    obtain ⟨q, rfl⟩ : ∃ m, q = m + 1 := ⟨q - 1, by omega⟩
    unfold X12_goRoster_171
    rw [show (30 : Int32) = zN 30 from rfl, if_neg (show ¬ zN 30 < zN j by rw [zN_lt (by decide) (by omega)]; omega), show (31 : Int32) = zN 31 from rfl, zN_mul, zN_add, if_pos (by rw [al_269, zN_inB (by omega)]; omega), if_pos (by rw [al_265, zN_inB (by omega)]; omega), zN_ix (by omega), zN_ix (by omega), sN1]
    obtain ⟨g1, r1, r2, r3, r4, r5⟩ := ih q (j + 1) (wI g 265 j (g.1 269 (31 * d + j))) (by omega) (by omega) (kg.w (by omega))
    refine ⟨g1, r1, r2, fun i hi => by rw [r3 i hi, w_ne hi], fun i h1 h2 => ?_, fun i hi => by rw [r5 i (by omega), w_eq, u_ne (by omega)]⟩
    by_cases c : i = j
    · subst c; rw [r5 _ (by omega), w_eq, u_eq]
    · rw [r4 i (by omega) h2, w_ne (by decide)]
theorem ros_sim {n B H : Nat} {nm : Nat → Nat} {nl : Nat} {hd : Int32} {f : Nat → F6} {be : Nat → Nat} {h0 g0 : Mm} (x : CX n B H nm nl hd f be h0 g0) {b : Nat} (hb : b < B) : ∀ (d e e' N U L c bo : Nat) (row sl : Int32) (h g : Mm), N + d = H → d < e → d < e' → KC n nl hd f h0 h → KG n nl hd f g0 g → h.1 246 8 = zN b → h.1 246 6 = g.1 251 44 → h.1 246 7 = g.1 251 45 → U < 64 → L < 64 → (∀ i, i < H → U.testBit i = !L.testBit i) → pc L = d → c ≤ 99 → bo ≤ 9 → RtR H nm be b (h0.1 27 9) N L c bo (g.1 265) →
    ∃ h' g', X6_growRoster n e (zN N) (zN U) row sl (zN c) (zN bo) h = some ((), h') ∧ X12_goRoster n e' (zN b) (zN L) sl row g = some ((), g') ∧ KC n nl hd f h0 h' ∧ KG n nl hd f g0 g' ∧ h'.1 246 8 = zN b ∧ h'.1 246 6 = g'.1 251 44 ∧ h'.1 246 7 = g'.1 251 45 ∧ (∀ j, 31 * (d + 1) ≤ j → g'.1 269 j = g.1 269 j) := by
  obtain ⟨x1, x2, -, -, -⟩ := id x
  have hH := x2.2.1.2.1
  have hB6 := x2.2.1.1
  have pgb := x2.2.2.2.2.2.2.1 b hb
  intro d
  induction d with
  | zero =>
    intro e e' N U L c bo row sl h g hN he he' kc kg e8 e6 e7 hU hL64 hUL hpc hc hbo rt
    obtain ⟨e, rfl⟩ : ∃ m, e = m + 1 := ⟨e - 1, by omega⟩
    obtain ⟨e', rfl⟩ : ∃ m, e' = m + 1 := ⟨e' - 1, by omega⟩
    have L0 : L = 0 := (pc_0 L hL64).mp hpc
    rw [X6_growRoster, X12_goRoster]
    unfold X6_growRoster_b X12_goRoster_b
    rw [c_houses, bp_some, (x.lc kc).1.2.1, if_neg (show ¬ zN N < zN H by rw [zN_lt (by omega) (by omega)]; omega), if_pos (show zN L = 0 by rw [L0]; rfl), e7]
    by_cases z : sl ≤ g.1 251 45
    · rw [if_pos z, if_neg (Int32.not_lt.mpr z)]
      exact ⟨h, g, rfl, rfl, kc, kg, e8, e6, e7, fun _ _ => rfl⟩
    · rw [if_neg z, if_pos (Int32.not_le.mp z)]
      refine ⟨_, _, rfl, rfl, (kc.w (by omega)).w (by omega), (kg.f (k := 45) rfl (by decide) (by decide)).f (k := 44) rfl (by decide) (by decide), ?_, ?_, ?_, fun j _ => by rw [w_ne (by decide), w_ne (by decide)]⟩
      · rw [w_eq, u_ne (by decide), w_eq, u_ne (by decide)]; exact e8
      · rw [w_eq, u_eq, w_eq, u_eq]
      · rw [w_eq, u_ne (by decide), w_eq, u_eq, w_eq, u_ne (by decide), w_eq, u_eq]
  | succ d ih =>
    intro e e' N U L c bo row sl h g hN he he' kc kg e8 e6 e7 hU hL64 hUL hpc hc hbo rt
    obtain ⟨e, rfl⟩ : ∃ m, e = m + 1 := ⟨e - 1, by omega⟩
    obtain ⟨e', rfl⟩ : ∃ m, e' = m + 1 := ⟨e' - 1, by omega⟩
    have Ln : ¬ L = 0 := fun z => by have := (pc_0 L hL64).mpr z; omega
    rw [X6_growRoster, X12_goRoster]
    unfold X6_growRoster_b X12_goRoster_b
    obtain ⟨g1, m1, m2, m3, m4, m5⟩ := m_save x hb (L := L) (d := d + 1) (row := row) (sl := sl) (X12_goRoster n e') (by omega) 31 n 0 g (by omega) (by omega) kg
    have m1' : X12_goRoster_34 n (X12_goRoster n e') n (zN b) (zN L) sl row (zN (d + 1)) 0 g = _ := m1
    rw [c_houses, bp_some, (x.lc kc).1.2.1, if_pos (show zN N < zN H from (zN_lt (by omega) (by omega)).mpr (by omega)), e8, c_pages (x.lc kc) hb, bp_some, if_neg (show ¬ zN L = 0 by rw [zN_lit, zN_eq (by omega) (by decide)]; exact Ln), pc_val L hL64, bp_some, hpc, m1']
    -- over the houses
    have loop : ∀ (dd q q' k : Nat) (h2 g2 : Mm), k + dd = H → dd < q → dd < q' → KC n nl hd f h0 h2 → KG n nl hd f g0 g2 → h2.1 246 8 = zN b → h2.1 246 6 = g2.1 251 44 → h2.1 246 7 = g2.1 251 45 → (∀ j, j ≤ 30 → g2.1 265 j = g.1 265 j) → (∀ j, j ≤ 30 → g2.1 269 (31 * (d + 1) + j) = g.1 265 j) → (∀ j, 31 * (d + 1 + 1) ≤ j → g2.1 269 j = g.1 269 j) →
        ∃ h' g', X6_growRoster_48 n (X6_growRoster n e) q (zN N) (zN U) row sl (zN c) (zN bo) (zN (nm (3 + 3 * b))) (zN k) h2 = some ((), h') ∧ X12_goRoster_70 n (X12_goRoster n e') q' (zN b) (zN L) sl row (zN (d + 1)) (zN k) g2 = some ((), g') ∧ KC n nl hd f h0 h' ∧ KG n nl hd f g0 g' ∧ h'.1 246 8 = zN b ∧ h'.1 246 6 = g'.1 251 44 ∧ h'.1 246 7 = g'.1 251 45 ∧ (∀ j, 31 * (d + 1 + 1) ≤ j → g'.1 269 j = g.1 269 j) := by
      intro dd
      induction dd with
      | zero =>
        intro q q' k h2 g2 hk hq hq' k1 k2 a8 a6 a7 s1 s2 s3
        obtain ⟨q, rfl⟩ : ∃ m, q = m + 1 := ⟨q - 1, by omega⟩
        obtain ⟨q', rfl⟩ : ∃ m, q' = m + 1 := ⟨q' - 1, by omega⟩
        unfold X6_growRoster_48 X12_goRoster_70
        rw [c_houses, bp_some, (x.lc k1).1.2.1, (x.lm k2).1.2.2.2, if_pos (show zN H ≤ zN k from (zN_le (by omega) (by omega)).mpr (by omega)), if_pos (show zN H ≤ zN k from (zN_le (by omega) (by omega)).mpr (by omega))]
        exact ⟨h2, g2, rfl, rfl, k1, k2, a8, a6, a7, s3⟩
      | succ dd ihd =>
        intro q q' k h2 g2 hk hq hq' k1 k2 a8 a6 a7 s1 s2 s3
        obtain ⟨q, rfl⟩ : ∃ m, q = m + 1 := ⟨q - 1, by omega⟩
        obtain ⟨q', rfl⟩ : ∃ m, q' = m + 1 := ⟨q' - 1, by omega⟩
        have hkH : k < H := by omega
        have ul := hUL k hkH
        by_cases z : L.testBit k = true
        · rw [z] at ul
          obtain ⟨h3, c1, bo1, r1, r2, r3, r4, r5, r6⟩ := c_ros x hb (N := N) (U := U) (c := c) (bo := bo) (k := k) (q := q) (row := row) (sl := sl) (X6_growRoster n e) k1 a8 (by omega) hU hkH ul hc hbo
          obtain ⟨g3, c2, bo2, t1, t2, t3, t4, t5, t6, t7⟩ := m_ros x hb (N := N) (L := L) (c := c) (bo := bo) (k := k) (q := q') (row := row) (sl := sl) (dm := zN (d + 1)) (X12_goRoster n e') k2 (by omega) hL64 hkH z hc hbo (rt.cg hH (by omega) s1)
          have ec : c2 = c1 ∧ bo2 = bo1 := by
            rcases r6 with ⟨y1, y2, y3⟩ | ⟨y1, y2, y3⟩
            · rcases t7 with ⟨w1, w2, w3⟩ | ⟨w1, w2, w3⟩
              · exact ⟨by rw [w2, y2], by rw [w3, y3]⟩
              · exact absurd y1 w1
            · rcases t7 with ⟨w1, w2, w3⟩ | ⟨w1, w2, w3⟩
              · exact absurd w1 y1
              · exact ⟨by rw [w2, y2], by rw [w3, y3]⟩
          obtain ⟨rfl, rfl⟩ := ec
          have so := set_or U hU k (by omega)
          have sa := set_an L hL64 k (by omega)
          obtain ⟨h4, g4, u1, u2, u3, u4, u5, u6, u7, u8⟩ := ih e e' (N + 1) (U ||| 2 ^ k) (L &&& (63 ^^^ 2 ^ k)) (ncalm nm c2) (bo2 - 1) (row * 10 + zN k) (sl + zN (slN nm c2 k)) h3 g3 (by omega) (by omega) (by omega) r2 t2 (by rw [r3]; exact a8) (by rw [r3, t3]; exact a6) (by rw [r3, t4]; exact a7) so.2 sa.2.1 (fun i hi => by
            rw [tb_or k (by omega) i (by omega) U hU, tb_an k (by omega) i (by omega) L hL64, hUL i hi]
            cases L.testBit i <;> cases decide (i = k) <;> rfl) (by have := sa.2.2 z; omega) (ncalm_le r4) (by omega) t6
          rw [r1, t1, u1, bd_some, show 10 * row + zN k = row * 10 + zN k by rw [Int32.mul_comm], u2, bd_some]
          obtain ⟨g5, w1, w2, w3, w4, -⟩ := m_rest x hb (L := L) (d := d + 1) (k := k) (row := row) (sl := sl) (X12_goRoster n e') (X12_goRoster_70 n (X12_goRoster n e') q') (by omega) 31 n 0 g4 (by omega) (by omega) u4
          have w1' : X12_goRoster_171 n (X12_goRoster n e') (X12_goRoster_70 n (X12_goRoster n e') q') n (zN b) (zN L) sl row (zN (d + 1)) (zN k) 0 g4 = _ := w1
          rw [w1']
          exact ihd q q' (k + 1) h4 g5 (by omega) (by omega) (by omega) u3 w2 u5 (by rw [w3 251 (by decide)]; exact u6) (by rw [w3 251 (by decide)]; exact u7) (fun j hj => by rw [w4 j (by omega) hj, u8 _ (by omega), t5, s2 j hj]) (fun j hj => by rw [w3 269 (by decide), u8 _ (by omega), t5, s2 j hj]) (fun j hj => by rw [w3 269 (by decide), u8 _ (by omega), t5, s3 j hj])
        · rw [Bool.not_eq_true] at z
          rw [z] at ul
          unfold X6_growRoster_48 X12_goRoster_70 X6_growRoster_274 X12_goRoster_204 X12_has
          rw [c_houses, bp_some, (x.lc k1).1.2.1, (x.lm k2).1.2.2.2, if_neg (show ¬ zN H ≤ zN k by rw [zN_le (by omega) (by omega)]; omega), if_neg (show ¬ zN H ≤ zN k by rw [zN_le (by omega) (by omega)]; omega), bt1 (by omega), bit_N (by omega), bt1 (by omega), bit_N (by omega), ul, z, if_neg (show ¬ (if (!false) = true then (1 : Int32) else 0) = 0 by decide), if_neg (show ¬ (if false = true then (1 : Int32) else 0) = 1 by decide), bp_some, if_neg (show ¬ (false = true) by decide), sN1]
          exact ihd q q' (k + 1) h2 g2 (by omega) (by omega) (by omega) k1 k2 a8 a6 a7 s1 s2 s3
    exact loop H n n 0 h g1 (by omega) (by omega) (by omega) kc m2 e8 (by rw [m3 251 (by decide)]; exact e6) (by rw [m3 251 (by decide)]; exact e7) (fun j _ => by rw [m3 265 (by decide)]) (fun j hj => m4 j (by omega) hj) (fun j hj => m5 j (by omega))
theorem sim_roster (n : Nat) (hn : 20000 ≤ n) : Sim_roster n (R n) := by
  intro x1 x2 h g hR
  have hR0 := hR.thr 0
  obtain ⟨B, H, nm, nl, hd, f, be, x, ex⟩ := R.cx hn hR0
  unfold X11_roster X12_roster
  generalize wI g 251 0 (0 : Int32) = g0 at *
  obtain ⟨-, hL, ⟨q1, q2, q3, q4, q5, q6, q7, q8⟩, -, -⟩ := id x
  have hH := hL.2.1.2.1
  have hB6 := hL.2.1.1
  rcases idx x1 B with ⟨b, hb, rfl⟩ | hx
  · rw [c_hasBook_y hL hb, m_isBook_y hL hb, bp_some, bp_some, if_pos rfl, if_pos rfl]
    rcases what x2 1 (by decide) with ⟨w, hw, rfl⟩ | ⟨hx, -⟩
    · rw [m_in (m := 1) (L := 0) (U := 1) (by decide) ⟨w, hw, rfl⟩ rfl rfl, bp_some, if_pos rfl, if_neg (show ¬ zN w < 0 from zN_neg0 (by omega)), if_pos (show zN w ≤ 1 from (zN_le (b := 1) (by omega) (by decide)).mpr hw)]
      have pgb := hL.2.2.2.2.2.2.1 b hb
      obtain ⟨g1, m1, m2, m3, m4⟩ := m_trial x x.g
      rw [m1, bd_some]
      unfold X6_findRoster
      have kc1 : KC n nl hd f h (wI (wI (wI h 246 6 (-1)) 246 7 (-1)) 246 8 (zN b)) := ((x.c.w (by omega)).w (by omega)).w (by omega)
      have k8 : (wI (wI (wI h 246 6 (-1)) 246 7 (-1)) 246 8 (zN b)).1 246 8 = zN b := by simp (disch := omega) only [w_eq, u_eq]
      have k7 : (wI (wI (wI h 246 6 (-1)) 246 7 (-1)) 246 8 (zN b)).1 246 7 = -1 := by simp (disch := omega) only [w_eq, u_eq, u_ne]
      have k6 : (wI (wI (wI h 246 6 (-1)) 246 7 (-1)) 246 8 (zN b)).1 246 6 = -1 := by simp (disch := omega) only [w_eq, u_eq, u_ne]
      generalize wI (wI (wI h 246 6 (-1)) 246 7 (-1)) 246 8 (zN b) = h1 at *
      have kg2 : KG n nl hd f g0 (wI (wI g1 251 44 (-1)) 251 45 (-1)) := (m2.f (k := 44) rfl (by decide) (by decide)).f (k := 45) rfl (by decide) (by decide)
      have r265 : (wI (wI g1 251 44 (-1)) 251 45 (-1)).1 265 = g1.1 265 := by rw [w_ne (by decide), w_ne (by decide)]
      have e44 : (wI (wI g1 251 44 (-1)) 251 45 (-1)).1 251 44 = -1 := by rw [w_eq, u_ne (by decide), w_eq, u_eq]
      have e45 : (wI (wI g1 251 44 (-1)) 251 45 (-1)).1 251 45 = -1 := by rw [w_eq, u_eq]
      generalize wI (wI g1 251 44 (-1)) 251 45 (-1) = g2 at *
      have pf := pc_full H hH
      have bk := q2 (nm (3 + (3 * b + 2))) (by omega)
      obtain ⟨h2, g3, s1, s2, s3, s4, s5, s6, s7, -⟩ := ros_sim x hb H 9 9 0 0 (2 ^ H - 1) (be 22) (be (18 + nm (3 + (3 * b + 2)))) 0 0 h1 g2 (by omega) (by omega) (by omega) kc1 kg2 k8 (by rw [k6, e44]) (by rw [k7, e45]) (by decide) pf.2.1 (fun i hi => by rw [tb_full H hH i (by omega), decide_eq_true hi]; exact Nat.zero_testBit i) pf.2.2 q3.2.2 bk.2.2 ⟨by rw [r265, m3 _ (by omega)]; exact q3.2.1, by rw [r265, m3 _ (by omega)]; exact bk.2.1, by rw [r265, m3 _ (by omega)]; exact q5.2.1, by rw [r265]; exact m4, fun i hi _ => by rw [r265, m3 _ (by omega)]; exact (q1 i hi).2.1.1, fun i hi => by rw [r265, m3 _ (by omega)]; exact (q1 i hi).2.1.2.1, by rw [r265, m3 _ (by omega), ← q6.2.2]; rfl⟩
      have s1' : X6_growRoster n 9 0 0 0 0 (zN (be 22)) (zN (be (18 + nm (3 + (3 * b + 2))))) h1 = some ((), h2) := s1
      have s2' : X12_goRoster n 9 (zN b) (zN (2 ^ H - 1)) 0 0 g2 = some ((), g3) := s2
      rw [c_kind (x.lc kc1) hb, bp_some, at_28 (by omega), bp_some, kc1.i 28 (by omega), bk.1, kc1.i 27 (by omega), q3.1, s1', bd_some, bd_some, (x.lm kg2).1.2.2.2, pf.1, s2', bd_some, s6, s7]
      by_cases z : zN w = 0
      · rw [if_pos z, if_pos z]; exact ⟨_, h2, g3, rfl, rfl, ex _ _ s3 s4⟩
      · rw [if_neg z, if_neg z]; exact ⟨_, h2, g3, rfl, rfl, ex _ _ s3 s4⟩
    · rw [m_out (m := 1) (L := 0) (U := 1) hx rfl rfl]
      refine ⟨-1, h, g0, ?_, rfl, hR0⟩
      exact ifout (m := 1) hx
  · rw [c_hasBook_n hL hx, m_isBook_n hL hx]
    exact ⟨_, h, g0, rfl, rfl, hR0⟩
