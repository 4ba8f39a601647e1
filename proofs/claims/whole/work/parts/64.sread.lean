/-! may it be read -/
theorem zN_m1 {p : Nat} (h : 1 ≤ p) : zN p - (1 : Int32) = zN (p - 1) := by rw [show (1 : Int32) = zN 1 from rfl, zN_sub h]
def heard (sk : Bool) (p : Nat) : Nat := if sk then p - 1 else p
theorem can_read {a r B H : Nat} {nm be : Nat → Nat} {h g : Mm} (hL : LandR B H nm (h.1 14) (h.1 15) (g.1 251) (g.1 256) (g.1 258) (g.1 260)) (hb : a < 900) (a2 : aln (a + 2) = 6) (hr : aln r = 211)
    (hB : BedR H be (h.1 (a + 1)) (h.1 (a + 2)) (h.1 (a + 3)) (h.1 (a + 4)) (h.1 a) (g.1 r)) (x1 x2 : Int32) (sk : Bool) :
    (∃ x p, x < B ∧ x1 = zN x ∧ x2 = zN p ∧ 1 ≤ p ∧ p ≤ nm (3 + 3 * x) ∧ (sk = true → 2 ≤ p) ∧ be (3 * be 23) + heard sk p ≤ nm (21 + (3 * be 23 + 1)) ∧ X12_canRead r x1 x2 sk g = some true ∧
      ((X9_canRead a x1 x2 sk h = some true ∧ X12_mayRead r x1 x2 sk g = some true ∧ (h.1 a 9 >>> (zN x &&& 31)) &&& 1 = 0) ∨ (X9_canRead a x1 x2 sk h = some false ∧ X12_mayRead r x1 x2 sk g = some false ∧ (h.1 a 9 >>> (zN x &&& 31)) &&& 1 = 1))) ∨
    (X12_canRead r x1 x2 sk g = some false ∧ X9_canRead a x1 x2 sk h = some false ∧ X12_mayRead r x1 x2 sk g = some false ∧
      ∀ x p, x < B → x1 = zN x → x2 = zN p → 1 ≤ p → p ≤ nm (3 + 3 * x) → (sk = true → 2 ≤ p) → ¬ be (3 * be 23) + heard sk p ≤ nm (21 + (3 * be 23 + 1))) := by
  have hH := hL.2.1.2.1
  have hB6 := hL.2.1.1
  have hB' := hL.2.1.2.2
  obtain ⟨q1, q2, q3, q4, q5, q6, q7, q8⟩ := hB
  have may : ∀ v, X12_canRead r x1 x2 sk g = some v → v = false → X12_mayRead r x1 x2 sk g = some false := fun v e z => by
    unfold X12_mayRead; rw [e, z, bp_some, if_neg (by decide)]
  rcases idx x1 B with ⟨x, hx, rfl⟩ | hx
  · have hf : be 23 < H := by omega
    obtain ⟨⟨t1, -, -⟩, ⟨u1, -, -⟩, v1, -, -⟩ := q1 _ hf
    have st := (hL.2.2.2.2.2.2.2 _ hf).2.1
    have pg := (hL.2.2.2.2.2.2.1 x hx)
    have i23 : inB (23 : Int32) (aln r) := by rw [hr]; decide
    have i24 : inB (24 : Int32) (aln r) := by rw [hr]; decide
    have x23 : (23 : Int32).toNatClampNeg = 23 := by decide
    have x24 : (24 : Int32).toNatClampNeg = 24 := by decide
    have ei : (3 : Int32) * zN (be 23) + (0 : Int32) = zN (3 * be 23) := by simp only [zN_lit, zN_mul, zN_add, Nat.add_zero]
    have i3 : inB (zN (3 * be 23)) (aln r) := by rw [hr, zN_inB (by omega)]; omega
    have mm : ∀ (x2 : Int32) (lo : Nat) (L : Int64), L = (zN lo).toInt64 → X12_canRead_22 r (zN x) x2 sk x2.toInt64 L g = (if zN lo ≤ x2 ∧ x2 ≤ zN (nm (3 + 3 * x)) then (if sk = true then X12_canRead_56 r (zN (be (3 * be 23))) (x2 - 1) g else X12_canRead_56 r (zN (be (3 * be 23))) x2 g) else some false) := fun x2 lo L eL => by
      unfold X12_canRead_22
      rw [m_pages hL hx, bp_some, m_isIn_l x2 lo (nm (3 + 3 * x)) g eL rfl, bp_some, if_pos i23, x23, q4.2.1, ei, if_pos i3, zN_ix (by omega), u1]
      by_cases z : zN lo ≤ x2 ∧ x2 ≤ zN (nm (3 + 3 * x))
      · rw [decide_eq_true z, if_pos rfl, if_pos z]
      · rw [decide_eq_false z, if_neg (by decide), if_neg z]
    have m56 : ∀ m, m < 1000 → X12_canRead_56 r (zN (be (3 * be 23))) (zN m) g = some (decide (be (3 * be 23) + m ≤ nm (21 + (3 * be 23 + 1)))) := fun m hm => by
      unfold X12_canRead_56
      rw [if_pos i23, x23, q4.2.1, m_strength hL hf, bp_some, zN_add]
      simp (disch := omega) only [zN_lt]
      by_cases z : be (3 * be 23) + m ≤ nm (21 + (3 * be 23 + 1))
      · rw [if_neg (by omega), decide_eq_true z]
      · rw [if_pos (by omega), decide_eq_false z]
    have c41 : ∀ m, m < 1000 → X9_canRead_41 a (zN m) h = some (decide (be (3 * be 23) + m ≤ nm (21 + (3 * be 23 + 1)))) := fun m hm => by
      unfold X9_canRead_41 X9_leftOf
      rw [q4.1, c_strength hL hf, bp_some, atN a2 (by decide) (by omega) (by omega), bp_some, bp_some, t1, zN_subI]
      simp (disch := omega) only [zI_ltN]
      by_cases z : be (3 * be 23) + m ≤ nm (21 + (3 * be 23 + 1))
      · rw [if_neg (by omega), decide_eq_true z]
      · rw [if_pos (by omega), decide_eq_false z]
    have can : X12_canRead r (zN x) x2 sk g = X12_canRead_22 r (zN x) x2 sk x2.toInt64 (zN (if sk then 2 else 1)).toInt64 g := by
      unfold X12_canRead
      rw [m_isBook_y hL hx, bp_some, if_pos rfl]
      cases sk <;> rfl
    rw [mm x2 _ _ rfl] at can
    by_cases ok : ∃ p, x2 = zN p ∧ 1 ≤ p ∧ p ≤ nm (3 + 3 * x) ∧ (sk = true → 2 ≤ p) ∧ be (3 * be 23) + heard sk p ≤ nm (21 + (3 * be 23 + 1))
    · left
      obtain ⟨p, rfl, p1, p2, p3, p4⟩ := ok
      have cr : X12_canRead r (zN x) (zN p) sk g = some true := by
        rw [can]
        cases sk with
        | true =>
          have := p3 rfl
          rw [if_pos ⟨(zN_le (by decide) (by omega)).mpr this, (zN_le (by omega) (by omega)).mpr p2⟩, if_pos rfl, zN_m1 p1, m56 _ (by omega)]
          exact congrArg some (decide_eq_true p4)
        | false =>
          rw [if_pos ⟨(zN_le (by decide) (by omega)).mpr p1, (zN_le (by omega) (by omega)).mpr p2⟩, if_neg (by decide), m56 _ (by omega)]
          exact congrArg some (decide_eq_true p4)
      refine ⟨x, p, hx, rfl, rfl, p1, p2, p3, p4, cr, ?_⟩
      unfold X12_mayRead X9_canRead X9_hasPages X0_wasRead X12_has
      rw [cr, bp_some, if_pos rfl, if_pos i24, x24, c_hasBook_y hL hx, bp_some, if_pos rfl, c_pages hL hx, bp_some, if_neg (by rw [zN_lit, zN_lt (by omega) (by decide)]; omega), if_neg (by rw [zN_lt (by omega) (by omega)]; omega), bp_some, if_pos rfl, q6.2.2]
      have fn : X9_canRead_29 a (zN p) sk h = some true := by
        unfold X9_canRead_29
        cases sk with
        | true => rw [if_pos rfl, zN_m1 p1, c41 _ (by omega)]; exact congrArg some (decide_eq_true p4)
        | false => rw [if_neg (by decide), c41 _ (by omega)]; exact congrArg some (decide_eq_true p4)
      have fin2 : (if sk = true then (if (2 : Int32) ≤ zN p then X9_canRead_29 a (zN p) sk h else some false) else X9_canRead_29 a (zN p) sk h) = some true := by
        cases sk with
        | true => rw [if_pos rfl, if_pos (by rw [zN_lit, zN_le (by decide) (by omega)]; exact p3 rfl)]; exact fn
        | false => rw [if_neg (by decide)]; exact fn
      rcases and1 (g.1 r 24 >>> (zN x &&& 31)) with z | z
      · have z' : (g.1 r 24 >>> (zN x &&& 31)) &&& 1 = 0 := z
        left
        rw [z']
        exact ⟨fin2, rfl, rfl⟩
      · have z' : (g.1 r 24 >>> (zN x &&& 31)) &&& 1 = 1 := z
        right
        rw [z']
        exact ⟨rfl, rfl, rfl⟩
    · right
      have cr : X12_canRead r (zN x) x2 sk g = some false := by
        rw [can]
        rcases i32_cases x2 with c | ⟨p, hp, rfl⟩
        · rw [if_neg]
          rintro ⟨z, -⟩
          exact Int32.not_le.mpr c (Int32.le_trans ((zN_le (a := 0) (by decide) (by cases sk <;> decide)).mpr (Nat.zero_le _)) z)
        · simp (disch := omega) only [zN_le hp (show nm (3 + 3 * x) < 2147483648 by omega), zN_le (show (if sk then 2 else 1 : Nat) < 2147483648 by cases sk <;> decide) hp]
          cases sk with
          | true =>
            by_cases z : 2 ≤ p ∧ p ≤ nm (3 + 3 * x)
            · rw [if_pos (show (if true = true then 2 else 1) ≤ p ∧ p ≤ nm (3 + 3 * x) from z), if_pos rfl, zN_m1 (by omega), m56 _ (by omega)]
              exact congrArg some (decide_eq_false (fun y => ok ⟨p, rfl, by omega, z.2, fun _ => z.1, y⟩))
            · exact if_neg z
          | false =>
            by_cases z : 1 ≤ p ∧ p ≤ nm (3 + 3 * x)
            · rw [if_pos (show (if false = true then 2 else 1) ≤ p ∧ p ≤ nm (3 + 3 * x) from z), if_neg (by decide), m56 _ (by omega)]
              exact congrArg some (decide_eq_false (fun y => ok ⟨p, rfl, z.1, z.2, (fun w => by cases w), y⟩))
            · exact if_neg z
      refine ⟨cr, ?_, may _ cr rfl, fun x' p hx' e1 e2 k1 k2 k3 k4 => ?_⟩
      · unfold X9_canRead X9_hasPages
        rw [c_hasBook_y hL hx, bp_some, if_pos rfl, c_pages hL hx, bp_some]
        rcases i32_cases x2 with c | ⟨p, hp, rfl⟩
        · rw [if_pos (Int32.lt_trans c (by decide)), bp_some, if_neg (by decide)]
        · simp only [zN_lit, zN_lt hp (show 1 < 2147483648 by decide), zN_lt (show nm (3 + 3 * x) < 2147483648 by omega) hp]
          by_cases z : 1 ≤ p ∧ p ≤ nm (3 + 3 * x)
          · rw [if_neg (by omega), if_neg (by omega), bp_some, if_pos rfl]
            have fn : (sk = true → 2 ≤ p) → X9_canRead_29 a (zN p) sk h = some false := fun y => by
              unfold X9_canRead_29
              cases sk with
              | true => rw [if_pos rfl, zN_m1 z.1, c41 _ (by omega)]; exact congrArg some (decide_eq_false (fun w => ok ⟨p, rfl, z.1, z.2, y, w⟩))
              | false => rw [if_neg (by decide), c41 _ (by omega)]; exact congrArg some (decide_eq_false (fun w => ok ⟨p, rfl, z.1, z.2, y, w⟩))
            have fin2 : (if sk = true then (if zN 2 ≤ zN p then X9_canRead_29 a (zN p) sk h else some false) else X9_canRead_29 a (zN p) sk h) = some false := by
              cases sk with
              | true =>
                rw [if_pos rfl]
                by_cases y : 2 ≤ p
                · rw [if_pos ((zN_le (by decide) hp).mpr y)]; exact fn (fun _ => y)
                · rw [if_neg (by rw [zN_le (by decide) hp]; exact y)]
              | false => rw [if_neg (by decide)]; exact fn (fun y => by cases y)
            rw [fin2]
            unfold X0_wasRead
            by_cases y : (h.1 a 9 >>> (zN x &&& 31)) &&& 1 = 0
            · rw [if_pos y, bp_some, if_neg (by decide)]
            · rw [if_neg y, bp_some, if_pos rfl]
          · by_cases y : p < 1
            · rw [if_pos y, bp_some, if_neg (by decide)]
            · rw [if_neg y, if_pos (by omega), bp_some, if_neg (by decide)]
      · obtain rfl : x = x' := (zN_eq (by omega) (by omega)).mp e1
        exact ok ⟨p, e2, k1, k2, k3, k4⟩
  · right
    have cr : X12_canRead r x1 x2 sk g = some false := by
      unfold X12_canRead; rw [m_isBook_n hL hx, bp_some, if_neg (by decide)]
    refine ⟨cr, ?_, may _ cr rfl, fun x' p hx' e1 => absurd e1 (hx x' hx')⟩
    unfold X9_canRead X9_hasPages
    rw [c_hasBook_n hL hx, bp_some, if_neg (by decide), bp_some, if_neg (by decide)]
theorem LogR.cw {E : Nat} {rows w w' : Nat → Int32} (q : LogR E rows w) (e2 : ∀ k, 30 ≤ k → w' k = w k) : LogR E rows w' := by
  obtain ⟨q1, q2⟩ := q
  refine ⟨by rw [e2 _ (by omega)]; exact q1, fun i c hi hc => ?_⟩
  rw [e2 _ (by omega)]; exact q2 i c hi hc
theorem kp_sc {k : Nat} (h : kp251 k = true) : sc251 k = false := by
  unfold kp251 at h; unfold sc251
  simp only [Bool.or_eq_true, beq_iff_eq] at h
  simp only [Bool.or_eq_false_iff, beq_eq_false_iff_ne]
  omega
theorem AgN.of {h h' : Mm} (e1 : ∀ i, i ≠ 16 → i ≠ 23 → i ≠ 24 → (i < 27 ∨ 31 < i) → h'.1 i = h.1 i) (e2 : ∀ k, k ≠ 7 → h'.1 16 k = h.1 16 k) : AgN h h' := fun i k z y => by
  by_cases c : i = 16
  · subst c
    exact e2 k (fun q => by subst q; revert z; decide)
  · by_cases c2 : i = 23
    · subst c2; exact absurd (show false = true from z) (by decide)
    · by_cases c3 : i = 24
      · subst c3; exact absurd (show false = true from z) (by decide)
      · rw [e1 i c c2 c3 y]
theorem QMr.agt {r : Nat} {g g' : Mm} (q : QMr r g g') (hr : r = 264 ∨ r = 265) : AgT g g' := fun i k z y x => by
  by_cases c : i = 251
  · subst c; exact q.2.1 k (kp_sc (by revert z; unfold kpM; simp))
  · by_cases c2 : i = 255
    · subst c2; exact absurd (show false = true from z) (by decide)
    · by_cases c3 : i = 265
      · subst c3; exact absurd (show false = true from z) (by decide)
      · rw [q.1 i c c2 x (by omega)]
theorem QC.agn {h h' : Mm} (q : QC h h') : AgN h h' := AgN.of (fun i h1 h2 h3 _ => q.1 i h1 h2 h3) q.2.1
/-- a reading as it is now -/
theorem read_now {n B H : Nat} {nm : Nat → Nat} {A nx : Nat} {E : Nat → Nat} {nw sn s : Nat} {tp : Nat → Nat} {nl : Nat} {hd : Int32} {f : Nat → F6} {h g : Mm} {be : Nat → Nat} {x p : Nat} {sk : Bool} (hn : 20000 ≤ n) (q : RW n B H nm A nx E nw sn s tp nl hd f h g) (hB : BedR H be (h.1 28) (h.1 29) (h.1 30) (h.1 31) (h.1 27) (g.1 264)) (hx : x < B) (p1 : 1 ≤ p) (p2 : p ≤ nm (3 + 3 * x)) (p3 : sk = true → 2 ≤ p) (p4 : be (3 * be 23) + heard sk p ≤ nm (21 + (3 * be 23 + 1))) :
    ∃ h' g', X9_doRead n 27 (zN x) (zN p) sk h = some ((), h') ∧ X12_reads n 264 (zN x) (zN p) sk g = some ((), g') ∧ RW n B H nm A nx E nw sn s tp nl hd f h' g' ∧ h'.1 27 4 = g'.1 264 22 ∧ (∀ i, i ≠ 16 → i ≠ 23 → i ≠ 24 → (i < 27 ∨ 29 < i) → h'.1 i = h.1 i) ∧ (∀ i, i ≠ 25 → h'.2 i = h.2 i) ∧ QMr 264 g g' := by
  obtain ⟨hL, ⟨pp, pE, ⟨be0, hB0, hn1, hn2, hlog⟩, pS⟩, hI, hW, hS, hT, hC, hM, hu⟩ := id q
  have hH := hL.2.1.2.1
  have hB' := hL.2.1.2.2
  have hf : be 23 < H := by have := hB.2.2.2.1.2.2; omega
  have st := (hL.2.2.2.2.2.2.2 _ hf).2.1
  have pg := (hL.2.2.2.2.2.2.1 x hx)
  have e29 : be 29 = be0 29 := by
    have e := hB.2.2.2.2.1.1.symm.trans hB0.2.2.2.2.1.1
    exact (zN_eq (by have := hB.2.2.2.2.1.2.2; omega) (by have := hB0.2.2.2.2.1.2.2; omega)).mp e
  obtain ⟨h', g', be', c1, m1, lc, lm, bb, ⟨b29, b22⟩, f1, f2, f3, f4, f5, f6⟩ := read_bed (a := 27) (r := 264) (x := x) (m := heard sk p) (p := p) (sk := sk) hn hL hC hM (by decide) (by decide) al_28 al_29 al_30 al_264 (Or.inl rfl) hB hx (by unfold heard; cases sk <;> simp <;> omega) (by omega) (by
    unfold heard
    cases sk with
    | true => have := p3 rfl; simp only [if_true]; omega
    | false => rfl)
  refine ⟨h', g', c1, m1, q.now (AgN.of (fun i i1 i2 i3 i4 => f1 i i1 i2 i3 (by omega)) f2) (f5.agt (Or.inl rfl)) ⟨be', bb, by rw [b29, e29]; exact hn1, by rw [f3]; exact hn2, ?_⟩ lc lm, ?_, f1, f4, f5⟩
  · rw [f1 39 (by decide) (by decide) (by decide) (by omega)]
    exact hlog.cw f6
  · exact bb.2.2.1.1.trans bb.2.2.1.2.1.symm
theorem sim_read (n : Nat) (hn : 20000 ≤ n) : Sim_read n (R n) := by
  intro x1 x2 sk h g hR
  have hR0 := hR.thr 0
  obtain ⟨B, H, nm, A, nx, E, nw, sn, s, tp, nl, hd, f, hR1⟩ := id hR0
  have hQ : RW n B H nm A nx E nw sn s tp nl hd f h (wI g 251 0 0) := hR1
  obtain ⟨hL, ⟨-, -, ⟨be, hB, hn1, -, -⟩, -⟩, -⟩ := id hR1
  unfold X11_read X12_read
  generalize wI g 251 0 (0 : Int32) = g0 at *
  have z := hL.2.1.2.1
  have z2 := hL.2.1.2.2
  have no : X9_canRead 27 x1 x2 sk h = some false → X12_mayRead 264 x1 x2 sk g0 = some false → ∃ r h2 g2, (bp (X9_canRead 27 x1 x2 sk h) (fun r9 => (if r9 = true then (bd (X5_keep 27 h) (fun _ h13 => (bd (X9_doRead n 27 x1 x2 sk h13) (fun _ h16 => (some ((h16.1 27 4), h16)))))) else (some ((-1 : Int32), h))))) = some (r, h2) ∧ (if (g0.1 251 27) = 0 then (some ((-1 : Int32), g0)) else (bp (X12_mayRead 264 x1 x2 sk g0) (fun r9 => (if r9 = true then (bd (X12_remember n g0) (fun _ h13 => (bd (X12_reads n 264 x1 x2 sk h13) (fun _ h16 => (if inB (22 : Int32) (aln 264) then (some ((h16.1 264 (22 : Int32).toNatClampNeg), h16)) else none))))) else (some ((-1 : Int32), g0)))))) = some (r, g2) ∧ R n h2 g2 := fun e1 e2 => by
    rw [e1, e2]
    refine ⟨-1, h, g0, rfl, ?_, hR0⟩
    by_cases c : g0.1 251 27 = 0
    · rw [if_pos c]
    · rw [if_neg c]; rfl
  rcases can_read (a := 27) (r := 264) hL (by decide) al_29 al_264 hB x1 x2 sk with ⟨x, p, hx, rfl, rfl, p1, p2, p3, p4, -, ⟨c1, m1, -⟩ | ⟨c1, m1, -⟩⟩ | ⟨-, c1, m1, -⟩
  · rw [c1, m1, bp_some, bp_some, if_pos rfl, if_pos rfl, if_neg (by rw [hL.1.2.2.2, zN_lit, zN_eq (by omega) (by decide)]; omega)]
    obtain ⟨h1, g1, A', nx', E', k1, k2, k3, ⟨k4, k5, k6⟩, s1, s2, s3, s4, s5⟩ := R.keepW hn hQ
    obtain ⟨h2, g2, d1, d2, d3, d4, -⟩ := read_now (be := be) (sk := sk) hn k3 (by rw [s1 28 (by decide) (by omega), s1 29 (by decide) (by omega), s1 30 (by decide) (by omega), s1 31 (by decide) (by omega), s1 27 (by decide) (by omega), s3 264 (by decide) (by decide)]; exact hB) hx p1 p2 p3 p4
    rw [k1, k2, bd_some, bd_some, d1, d2, bd_some, bd_some, if_pos (by rw [al_264]; decide), d4]
    exact ⟨_, h2, g2, rfl, rfl, d3.r⟩
  · exact no c1 m1
  · exact no c1 m1
