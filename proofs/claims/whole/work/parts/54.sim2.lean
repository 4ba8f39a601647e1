/-! more simple answers -/
theorem zN_div {a b : Nat} (ha : a < 2147483648) (hb : b < 2147483648) : zN a / zN b = zN (a / b) := by
  apply Int32.toInt_inj.mp
  rw [Int32.toInt_div, zN_ti ha, zN_ti hb, zN_ti (Nat.lt_of_le_of_lt (Nat.div_le_self a b) ha), ← Int.ofNat_tdiv]
  have h1 := Nat.div_le_self a b
  generalize a / b = q at *
  exact Int.bmod_eq_of_le (by omega) (by omega)
theorem zN_mod {a b : Nat} (ha : a < 2147483648) (hb : b < 2147483648) : zN a - zN a / zN b * zN b = zN (a % b) := by
  rw [zN_div ha hb, zN_mul, zN_sub (Nat.div_mul_le_self a b)]
  congr 1
  have := Nat.div_add_mod a b
  rw [Nat.mul_comm] at this
  omega
theorem m_isIn_ex (a b c : Int64) (h : Mm) : ∃ r, X12_isIn a b c h = some r := by
  unfold X12_isIn
  by_cases p : lg_cmp a b < 0
  · rw [if_pos p]; exact ⟨_, rfl⟩
  · rw [if_neg p]
    by_cases q : 0 < lg_cmp a c
    · rw [if_pos q]; exact ⟨_, rfl⟩
    · rw [if_neg q]; exact ⟨_, rfl⟩
theorem sim_count (n : Nat) : Sim_count n (R n) := by
  intro x1 h g hR
  have hR0 := hR.thr 0
  obtain ⟨B, H, nm, A, nx, E, nw, sn, s, tp, nl, hd, f, hL, hP, hI, hW, hS, hT, hC, hM, hu⟩ := id hR0
  obtain ⟨⟨p1, p2, p3, p4, p5⟩, -, ⟨be, hB, hn1, hn2, hlog⟩, -⟩ := id hP
  obtain ⟨b1, b2, b3, b4, b5, b6, b7, b8⟩ := id hB
  unfold X11_count X11_countOfNow X12_count X5_lengthOf
  generalize wI g 251 0 (0 : Int32) = g0 at *
  rcases what x1 15 (by decide) with ⟨k, hk, rfl⟩ | ⟨hx, hx2⟩
  · obtain rfl | rfl | rfl | rfl | rfl | rfl | rfl | rfl | rfl | rfl | rfl | rfl | rfl | rfl | rfl | rfl : k = 0 ∨ k = 1 ∨ k = 2 ∨ k = 3 ∨ k = 4 ∨ k = 5 ∨ k = 6 ∨ k = 7 ∨ k = 8 ∨ k = 9 ∨ k = 10 ∨ k = 11 ∨ k = 12 ∨ k = 13 ∨ k = 14 ∨ k = 15 := by omega
    · exact ⟨_, g0, (bp_id _).trans c_houses, by rw [hL.1.2.1, ← hL.1.2.2.2]; rfl, hR0⟩
    · exact ⟨_, g0, (bp_id _).trans c_books, by rw [hL.1.1, ← hL.1.2.2.1]; rfl, hR0⟩
    · exact ⟨h.1 16 5, g0, rfl, by rw [hC.1.2.1, ← hM.1.2.1]; rfl, hR0⟩
    · exact ⟨h.1 9 5, g0, rfl, by rw [hW.1.2.1, ← hW.1.2.2]; rfl, hR0⟩
    · exact ⟨h.1 1 1, g0, rfl, by rw [hT.1.2.1, ← hT.1.2.2]; rfl, hR0⟩
    · exact ⟨h.1 16 6, g0, rfl, by rw [hC.1.2.2.1, ← hM.1.2.2.1]; rfl, hR0⟩
    · exact ⟨h.1 27 6, g0, rfl, by rw [b5.1, ← b5.2.1]; rfl, hR0⟩
    · exact ⟨h.1 27 5, g0, rfl, by rw [b4.1, ← b4.2.1]; rfl, hR0⟩
    · exact ⟨h.1 27 7, g0, rfl, by rw [b6.1]; rfl, hR0⟩
    · exact ⟨h.1 27 8, g0, rfl, by rw [b6.2.1]; rfl, hR0⟩
    · have e1 : (bp (if h.1 27 11 = 0 then some (0 : Int32) else some 1) (fun r => some r)) = some (g0.1 264 25) := by
        rw [b7.1, b7.2.1]
        obtain e | e : be 25 = 0 ∨ be 25 = 1 := by omega
        · rw [e]; rfl
        · rw [e]; rfl
      exact ⟨g0.1 264 25, g0, e1, rfl, hR0⟩
    · have e1 : (bp (if h.1 27 12 = 0 then some (0 : Int32) else some 1) (fun r => some r)) = some (g0.1 264 26) := by
        rw [b8.1, b8.2.1]
        obtain e | e : be 26 = 0 ∨ be 26 = 1 := by omega
        · rw [e]; rfl
        · rw [e]; rfl
      exact ⟨g0.1 264 26, g0, e1, rfl, hR0⟩
    · exact ⟨h.1 0 12, g0, rfl, by rw [hu]; rfl, hR0⟩
    · exact ⟨h.1 249 4, g0, rfl, by rw [hS.1.2.1, ← hS.1.2.2]; rfl, hR0⟩
    · have e1 : (bp (bp (bp (J9_min_7cf53 (h.1 27 10) (60 : Int32) h) (fun r => some r)) (fun r => some r)) (fun r => some r)) = some (g0.1 264 30) := by
        rw [bp_id, bp_id, bp_id, hn2, hlog.1]
        have z := b5.2.2
        rw [hn1] at z
        simp (disch := omega) only [zN_lit, j_min, zN_lt]
        by_cases c : 60 < E A
        · rw [if_pos c, Nat.min_eq_right (by omega)]
        · rw [if_neg c, Nat.min_eq_left (by omega)]
      exact ⟨g0.1 264 30, g0, e1, rfl, hR0⟩
    · exact ⟨h.1 37 5, g0, rfl, by rw [p3, ← p4]; rfl, hR0⟩
  · have q0 := hx2 0 (by decide); have q1 := hx2 1 (by decide); have q2 := hx2 2 (by decide); have q3 := hx2 3 (by decide); have q4 := hx2 4 (by decide); have q5 := hx2 5 (by decide); have q6 := hx2 6 (by decide); have q7 := hx2 7 (by decide)
    have q8 := hx2 8 (by decide); have q9 := hx2 9 (by decide); have q10 := hx2 10 (by decide); have q11 := hx2 11 (by decide); have q12 := hx2 12 (by decide); have q13 := hx2 13 (by decide); have q14 := hx2 14 (by decide); have q15 := hx2 15 (by decide)
    simp only [zN_lit, zN_add, zN_mul, bp_some, bd_some, w_eq, w_2, wl_1, u_eq, wr_eq, wr_2, Nat.reduceAdd, Nat.reduceMul, Nat.reduceSub, if_neg q0, if_neg q1, if_neg q2, if_neg q3, if_neg q4, if_neg q5, if_neg q6, if_neg q7, if_neg q8, if_neg q9, if_neg q10, if_neg q11, if_neg q12, if_neg q13, if_neg q14, if_neg q15]
    exact ⟨_, _, rfl, rfl, hR0⟩
theorem pages_loop {n B H : Nat} {nm : Nat → Nat} {h g : Mm} (hL : LandR B H nm (h.1 14) (h.1 15) (g.1 251) (g.1 256) (g.1 258) (g.1 260)) (x : Int32) : ∀ (d f f' k : Nat) (p : Int32), k + d = B → d < f → d < f' → ∃ r, X11_pages_23 n f x p (zN k) h = some r ∧ X12_pages_30 n f' x p (zN k) g = some (r, g) := by
  have z := hL.2.1.1
  intro d
  induction d with
  | zero =>
    intro f f' k p hk hf hf'
    obtain ⟨f, rfl⟩ : ∃ m, f = m + 1 := ⟨f - 1, by omega⟩
    obtain ⟨f', rfl⟩ : ∃ m, f' = m + 1 := ⟨f' - 1, by omega⟩
    unfold X11_pages_23 X12_pages_30
    simp (disch := omega) only [zN_lit, zN_add, zN_mul, bp_some, bd_some, w_eq, w_2, wl_1, u_eq, wr_eq, wr_2, Nat.reduceAdd, Nat.reduceMul, Nat.reduceSub, zN_le, c_books, hL.1.1, hL.1.2.2.1, if_pos (show B ≤ k by omega)]
    exact ⟨_, rfl, rfl⟩
  | succ d ih =>
    intro f f' k p hk hf hf'
    have hb : k < B := by omega
    obtain ⟨f, rfl⟩ : ∃ m, f = m + 1 := ⟨f - 1, by omega⟩
    obtain ⟨f', rfl⟩ : ∃ m, f' = m + 1 := ⟨f' - 1, by omega⟩
    unfold X11_pages_23 X12_pages_30 X11_pages_59 X12_pages_57
    simp (disch := omega) only [zN_lit, zN_add, zN_mul, bp_some, bd_some, w_eq, w_2, wl_1, u_eq, wr_eq, wr_2, Nat.reduceAdd, Nat.reduceMul, Nat.reduceSub, zN_le, c_books, hL.1.1, hL.1.2.2.1, if_neg (show ¬ B ≤ k by omega), c_kind hL hb, m_kind hL hb, c_pages hL hb, m_pages hL hb]
    by_cases q : zN (nm (3 + (3 * k + 2))) = x
    · simp only [if_pos q]; exact ih f f' (k + 1) _ (by omega) (by omega) (by omega)
    · simp only [if_neg q]; exact ih f f' (k + 1) _ (by omega) (by omega) (by omega)
theorem sim_pages (n : Nat) (hn : 20000 ≤ n) : Sim_pages n (R n) := by
  intro x1 h g hR
  have hR0 := hR.thr 0
  obtain ⟨B, H, nm, A, nx, E, nw, sn, s, tp, nl, hd, f, hL, -⟩ := id hR0
  unfold X11_pages X12_pages
  generalize wI g 251 0 (0 : Int32) = g0 at *
  have z := hL.2.1.2.1
  have z1 := hL.2.1.1
  simp (disch := omega) only [c_stands hL, hL.1.2.2.2, zN_lit, zN_add, zN_mul, bp_some, bd_some, w_eq, w_2, wl_1, u_eq, wr_eq, wr_2, Nat.reduceAdd, Nat.reduceMul, Nat.reduceSub, zN_eq]
  by_cases hH : H = 0
  · subst hH
    exact ⟨_, _, rfl, rfl, hR0⟩
  · rw [decide_eq_true (show 0 < H by omega), if_pos rfl, if_neg hH]
    rcases what x1 3 (by decide) with ⟨k, hk, rfl⟩ | ⟨hx, hx2⟩
    · rw [m_in (m := 3) (L := 0) (U := 3) (by decide) ⟨k, hk, rfl⟩ rfl rfl, c_isKind_y (by omega)]
      obtain ⟨r, e1, e2⟩ := pages_loop (n := n) hL (zN k) B n n 0 (zN 0) (by omega) (by omega) (by omega)
      simp only [bp_some, if_true, e1, e2]
      exact ⟨_, _, rfl, rfl, hR0⟩
    · rw [m_out (m := 3) (L := 0) (U := 3) hx rfl rfl, c_isKind_n hx]
      exact ⟨_, _, rfl, rfl, hR0⟩
theorem c_floorMod {k : Nat} {h : Mm} (hk : k < 2147483648) : J9_floorMod_7cf53 (zN k) (zN 100) h = some (zN (k % 100)) := by
  unfold J9_floorMod_7cf53 J9_floorMod_7cf53_18
  simp only [zN_lit, zN_add, zN_mul, bp_some, bd_some, w_eq, w_2, wl_1, u_eq, wr_eq, wr_2, Nat.reduceAdd, Nat.reduceMul, Nat.reduceSub]
  rw [if_pos (by decide), zN_mod hk (by decide)]
  have e : zN 0 ≤ zN k ^^^ zN 100 := by
    rw [Int32.le_iff_toInt_le]
    have e1 : (zN k ^^^ zN 100) = zN (k ^^^ 100) := by
      apply Int32.toBitVec_inj.mp
      show (zN k).toBitVec ^^^ (zN 100).toBitVec = (zN (k ^^^ 100)).toBitVec
      show BitVec.ofNat 32 k ^^^ BitVec.ofNat 32 100 = BitVec.ofNat 32 (k ^^^ 100)
      exact (BitVec.ofNat_xor ..).symm
    have e2 : k ^^^ 100 < 2147483648 := Nat.xor_lt_two_pow (n := 31) hk (by decide)
    rw [e1, zN_ti e2, zN_ti (by decide)]; omega
  rw [if_pos e]
theorem sim_log (n : Nat) : Sim_log n (R n) := by
  intro x1 x2 h g hR
  have hR0 := hR.thr 0
  obtain ⟨B, H, nm, A, nx, E, nw, sn, s, tp, nl, hd, f, hL, hP, hI, hW, hS, hT, hC, hM, hu⟩ := id hR0
  obtain ⟨-, -, ⟨be, hB, hn1, hn2, hlog⟩, -⟩ := id hP
  obtain ⟨b1, b2, b3, b4, b5, b6, b7, b8⟩ := id hB
  unfold X11_log X5_logged X12_log X5_lengthOf
  generalize wI g 251 0 (0 : Int32) = g0 at *
  have hE : E A ≤ 9999 := by rw [← hn1]; exact b5.2.2
  obtain ⟨l1, l2⟩ := id hlog
  have em : (if zN 60 < zN (E A) then zN 60 else zN (E A)) = zN (min (E A) 60) := by
    simp (disch := omega) only [zN_lt]
    by_cases c : 60 < E A
    · rw [if_pos c, Nat.min_eq_right (by omega)]
    · rw [if_neg c, Nat.min_eq_left (by omega)]
  have emi : (zN (min (E A) 60) - 1).toInt64 = (zI ((min (E A) 60 : Nat) - 1 : Int)).toInt64 := by rw [zN_lit, zN_subI]; rfl
  have ei : ∀ x : Int32, X12_isIn x.toInt64 0 ((zN (min (E A) 60) - 1).toInt64) g0 = some (decide (zN 0 ≤ x ∧ x ≤ zI ((min (E A) 60 : Nat) - 1 : Int))) := by
    intro x
    rw [emi, show (0 : Int64) = (zN 0).toInt64 from rfl, m_isIn]
  have l1' : g0.1 264 (Int32.toNatClampNeg 30) = zN (min (E A) 60) := l1
  have i30 : inB (30 : Int32) (aln 264) := by rw [al_264]; decide
  simp only [if_pos i30, l1', ei, bp_some]
  simp only [hn2, zN_lit, j_min, bp_some, em]
  rcases i32_cases x1 with q | ⟨k, hk, rfl⟩
  · rw [if_pos q, decide_eq_false (fun z => Int32.not_le.mpr q z.1)]
    exact ⟨_, _, rfl, rfl, hR0⟩
  · simp (disch := omega) only [if_neg (zN_neg0 hk), zN_le]
    by_cases c : min (E A) 60 ≤ k
    · rw [if_pos c, decide_eq_false (fun z => by have z2 := z.2; rw [← zI_N, zI_le (by omega) (by omega) (by omega) (by omega)] at z2; omega)]
      exact ⟨_, _, rfl, rfl, hR0⟩
    · rw [if_neg c, decide_eq_true ⟨(by omega), (by rw [← zI_N, zI_le (by omega) (by omega) (by omega) (by omega)]; omega)⟩, if_pos rfl]
      rcases what x2 2 (by decide) with ⟨w, hw, rfl⟩ | ⟨hx, hx2⟩
      · rw [m_in (m := 2) (L := 0) (U := 2) (by decide) ⟨w, hw, rfl⟩ rfl rfl, bp_some, if_pos rfl]
        rw [if_neg (zN_neg0 (by omega)), if_pos ((zN_lt (by omega) (by decide)).mpr (by omega))]
        rw [zN_sub (show 1 ≤ E A by omega), zN_sub (show k ≤ E A - 1 by omega), c_floorMod (by omega)]
        simp (disch := omega) only [zN_lit, zN_sub, zN_add, zN_mul, bp_some, at_39, zN_inB, zN_ix, al_264]
        rw [if_pos (by omega)]
        have z := l2 (min (E A) 60 - 1 - k) w (by omega) (by omega)
        refine ⟨_, _, rfl, ?_, hR0⟩
        rw [show 31 + 3 * (min (E A) 60 - 1 - k) + w = 31 + 3 * (min (E A) 60 - 1 - k) + w from rfl, z]
        congr 3
        have : E A - min (E A) 60 + (min (E A) 60 - 1 - k) = E A - 1 - k := by omega
        rw [this, Nat.mul_comm]
      · rw [m_out (m := 2) (L := 0) (U := 2) hx rfl rfl]
        have e : (if x2 < zN 0 then some (-zN 1) else if x2 < zN 3 then (bp (J9_floorMod_7cf53 (zN (E A) - zN 1 - zN k) (zN 100) h) fun r9 => X11_at 39 (r9 * zN 3 + x2) h) else some (-zN 1)) = some (-zN 1) := by
          rcases hx with q | q
          · rw [if_pos q]
          · rcases i32_cases x2 with c | ⟨w, hw, rfl⟩
            · rw [if_pos c]
            · rw [if_neg (zN_neg0 hw), if_neg]
              rw [zN_lt (by decide) hw] at q
              rw [zN_lt hw (by decide)]; omega
        simp only [bp_id]
        exact ⟨_, _, e, rfl, hR0⟩
theorem c_hasWeek_y {h : Mm} {nw k : Nat} (e : h.1 9 5 = zN nw) (hw : nw ≤ 4) (hk : k < nw) : X10_has (zN k) h = some true := by
  unfold X10_has
  rw [e, zN_lit, if_neg (zN_neg0 (by omega)), if_neg (by rw [zN_le (by omega) (by omega)]; omega)]
theorem c_hasWeek_n {h : Mm} {nw : Nat} {x : Int32} (e : h.1 9 5 = zN nw) (hw : nw ≤ 4) (hx : ∀ k, k < nw → x ≠ zN k) : X10_has x h = some false := by
  unfold X10_has
  rw [e, zN_lit]
  rcases i32_cases x with c | ⟨k, hk, rfl⟩
  · rw [if_pos c]
  · rw [if_neg (zN_neg0 hk), if_pos (by rw [zN_le (by omega) hk]; exact Nat.not_lt.mp fun q => hx k q rfl)]
theorem m_isWeek_y {g : Mm} {nw k : Nat} (e : g.1 251 30 = zN nw) (hw : nw ≤ 4) (hk : k < nw) : X12_isWeek (zN k) g = some true := by
  unfold X12_isWeek
  rw [e, zN_lit, if_neg (zN_neg0 (by omega)), if_neg (by rw [zN_le (by omega) (by omega)]; omega)]
theorem m_isWeek_n {g : Mm} {nw : Nat} {x : Int32} (e : g.1 251 30 = zN nw) (hw : nw ≤ 4) (hx : ∀ k, k < nw → x ≠ zN k) : X12_isWeek x g = some false := by
  unfold X12_isWeek
  rw [e, zN_lit]
  rcases i32_cases x with c | ⟨k, hk, rfl⟩
  · rw [if_pos c]
  · rw [if_neg (zN_neg0 hk), if_pos (by rw [zN_le (by omega) hk]; exact Nat.not_lt.mp fun q => hx k q rfl)]
theorem c_sort {x : Nat} {h : Mm} (hx : x < 2147483648) : X10_sortOf (zN x) h = some (zN (x / 100)) := by
  unfold X10_sortOf; rw [zN_lit, zN_div hx (by decide)]
theorem c_digit1 {x : Nat} {h : Mm} (hx : x < 2147483648) : X10_digitOf (zN x) 1 h = some (zN (x / 10 % 10)) := by
  unfold X10_digitOf; rw [if_pos rfl, zN_lit, zN_div hx (by decide), zN_mod (Nat.lt_of_le_of_lt (Nat.div_le_self x 10) hx) (by decide)]
theorem c_digit2 {x : Nat} {h : Mm} (hx : x < 2147483648) : X10_digitOf (zN x) 2 h = some (zN (x % 10)) := by
  unfold X10_digitOf; rw [if_neg (by decide), zN_lit, zN_mod hx (by decide)]
theorem c_hasStep_y {nw j z i : Nat} {h : Mm} (e : h.1 9 5 = zN nw) (hw : nw ≤ 4) (hj : j < nw) (ez : h.1 12 j = zN z) (hz : z ≤ 16) (hi : i < z) : X10_hasStep (zN j) (zN i) h = some true := by
  unfold X10_hasStep X10_sizeOf
  rw [c_hasWeek_y e hw hj, bp_some, if_pos rfl, zN_lit, if_neg (zN_neg0 (by omega)), at_12 (by omega), ez]
  simp only [bp_some]
  rw [if_neg (by rw [zN_le (by omega) (by omega)]; omega)]
theorem c_stepOf {nw j z i : Nat} {h : Mm} (e : h.1 9 5 = zN nw) (hw : nw ≤ 4) (hj : j < nw) (ez : h.1 12 j = zN z) (hz : z ≤ 16) (hi : i < z) : X10_stepOf (zN j) (zN i) h = some (h.1 11 (16 * j + i)) := by
  unfold X10_stepOf
  rw [c_hasStep_y e hw hj ez hz hi, bp_some, if_pos rfl, zN_lit, zN_mul, zN_add, at_11 (by omega), bp_some, Nat.mul_comm]
theorem sim_step (n : Nat) : Sim_step n (R n) := by
  intro x1 x2 x3 h g hR
  have hR0 := hR.thr 0
  obtain ⟨B, H, nm, A, nx, E, nw, sn, s, tp, nl, hd, f, hL, hP, hI, hW, hS, hT, hC, hM, hu⟩ := id hR0
  unfold X11_step X12_step X11_step_21 X12_step_61
  generalize wI g 251 0 (0 : Int32) = g0 at *
  obtain ⟨⟨w1, w2, w3⟩, w4⟩ := id hW
  rcases what x3 2 (by decide) with ⟨k, hk, rfl⟩ | ⟨hx, hx2⟩
  · simp only [zN_lit, ifin' hk (by decide)]
    rcases idx x1 nw with ⟨j, hj, rfl⟩ | hx
    · obtain ⟨z, z1, z2, z3, z4, z5⟩ := w4 j hj
      rw [m_isWeek_y w3 w1 hj, bp_some, if_pos rfl, if_pos ((zN_inB (by omega)).mpr (by rw [al_263]; omega)), zN_ix (by omega), z4]
      have emi : (zN z - zN 1).toInt64 = (zN (z - 1)).toInt64 := by rw [zN_sub (by omega)]
      rw [emi]
      rcases what x2 (z - 1) (by omega) with ⟨i, hi, rfl⟩ | ⟨hx, hx2⟩
      · rw [m_in (m := z - 1) (L := 0) (U := (zN (z - 1)).toInt64) (by omega) ⟨i, hi, rfl⟩ rfl rfl, c_hasStep_y w2 w1 hj z3 z2 (show i < z by omega)]
        simp only [bp_some, if_true]
        rw [m_in (m := 2) (L := 0) (U := 2) (by decide) ⟨k, hk, rfl⟩ rfl rfl, c_stepOf w2 w1 hj z3 z2 (show i < z by omega)]
        simp (disch := omega) only [bp_some, if_true, zN_lit, zN_mul, zN_add, zN_inB, zN_ix, al_262]
        rw [if_pos (show 3 * (16 * j + i) + k < 240 by omega)]
        obtain ⟨so, a, b, s1, s2, s3, s4, s5, s6⟩ := z5 i (by omega)
        rw [s4]
        simp (disch := omega) only [c_sort, X10_hasDigit, c_digit1, c_digit2, bp_some, bp_id]
        have d1 : (100 * so + 10 * a + b) / 100 = so := by omega
        have d2 : (100 * so + 10 * a + b) / 10 % 10 = a := by omega
        have d3 : (100 * so + 10 * a + b) % 10 = b := by omega
        rw [d1, at_1006 (by omega), bp_some]
        have ex : EX 1006 so = zN (if so ≤ 1 then 2 else if so = 4 then 1 else 0) := by
          obtain rfl | rfl | rfl | rfl | rfl : so = 0 ∨ so = 1 ∨ so = 2 ∨ so = 3 ∨ so = 4 := by omega
          all_goals rfl
        rw [ex]
        obtain rfl | rfl | rfl : k = 0 ∨ k = 1 ∨ k = 2 := by omega
        · rw [if_pos rfl, Nat.add_zero, s5]; exact ⟨_, _, rfl, rfl, hR0⟩
        · rw [if_neg (by decide), show zN 1 = 1 from rfl, c_digit1 (by omega), d2]
          rcases s6 with ⟨q1, q2, q3⟩ | ⟨q1, q2, q3, q4⟩ | ⟨q1, q2, q3, q4, q5⟩
          · rw [q2, if_pos q1]; exact ⟨_, _, rfl, rfl, hR0⟩
          · simp only [q2, if_neg (show ¬ so ≤ 1 by omega), if_pos q1]; exact ⟨_, _, rfl, rfl, hR0⟩
          · simp only [q4, if_neg (show ¬ so ≤ 1 by omega), if_neg (show ¬ so = 4 by omega)]; exact ⟨_, _, rfl, rfl, hR0⟩
        · rw [if_neg (by decide), show zN 2 = 2 from rfl, c_digit2 (by omega), d3]
          rcases s6 with ⟨q1, q2, q3⟩ | ⟨q1, q2, q3, q4⟩ | ⟨q1, q2, q3, q4, q5⟩
          · rw [q3, if_pos q1]; exact ⟨_, _, rfl, rfl, hR0⟩
          · simp only [q4, if_neg (show ¬ so ≤ 1 by omega), if_pos q1]; exact ⟨_, _, rfl, rfl, hR0⟩
          · simp only [q5, if_neg (show ¬ so ≤ 1 by omega), if_neg (show ¬ so = 4 by omega)]; exact ⟨_, _, rfl, rfl, hR0⟩
      · rw [m_out (m := z - 1) (L := 0) (U := (zN (z - 1)).toInt64) hx rfl rfl]
        have e : X10_hasStep (zN j) x2 h = some false := by
          unfold X10_hasStep X10_sizeOf
          rw [c_hasWeek_y w2 w1 hj, bp_some, if_pos rfl, zN_lit, at_12 (by omega), z3]
          rcases i32_cases x2 with c | ⟨w, hw, rfl⟩
          · rw [if_pos c]
          · rw [if_neg (zN_neg0 hw)]
            simp only [bp_some]
            rw [if_pos]
            rcases hx with q | q
            · exact absurd q (zN_neg0 hw)
            · rw [zN_lt (by omega) hw] at q
              rw [zN_le (by omega) hw]; omega
        rw [e]
        exact ⟨_, _, rfl, rfl, hR0⟩
    · have e : X10_hasStep x1 x2 h = some false := by
        unfold X10_hasStep
        rw [c_hasWeek_n w2 w1 hx]; rfl
      rw [m_isWeek_n w3 w1 hx, e]
      exact ⟨_, _, rfl, rfl, hR0⟩
  · simp only [zN_lit, ifout' hx]
    rcases idx x1 nw with ⟨j, hj, rfl⟩ | hx3
    · obtain ⟨z, z1, z2, z3, z4, z5⟩ := w4 j hj
      rw [m_isWeek_y w3 w1 hj, bp_some, if_pos rfl, if_pos ((zN_inB (by omega)).mpr (by rw [al_263]; omega))]
      obtain ⟨b, hb⟩ := m_isIn_ex x2.toInt64 0 ((g0.1 263 (zN j).toNatClampNeg - zN 1).toInt64) g0
      rw [hb, m_out (m := 2) (L := 0) (U := 2) hx rfl rfl]
      cases b
      · exact ⟨_, _, rfl, rfl, hR0⟩
      · exact ⟨_, _, rfl, rfl, hR0⟩
    · rw [m_isWeek_n w3 w1 hx3]
      exact ⟨_, _, rfl, rfl, hR0⟩
