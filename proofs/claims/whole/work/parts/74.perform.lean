/-! a WEEK performed -/
theorem perform_loop {n B H nw j z : Nat} {nm : Nat → Nat} {sn s : Nat} {tp : Nat → Nat} {nl : Nat} {hd : Int32} {f : Nat → F6} (hn : 20000 ≤ n) (hp : 0 < H) (hj : j < nw) : ∀ (d q q' i A nx : Nat) (E : Nat → Nat) (h g : Mm), i + d = z → d < q → d < q' → RW n B H nm A nx E nw sn s tp nl hd f h g → h.1 12 j = zN z → z ≤ 16 →
    ∃ r h' g', X11_perform_34 n q (zN j) (zN z) (zN i) h = some (r, h') ∧ X12_perform_24 n q' (zN j) (zN i) g = some (r, g') ∧ R n h' g' := by
  have s16 : ∀ i : Nat, (3 : Int32) * ((16 : Int32) * zN j + zN i) = zN (3 * (16 * j + i)) := fun i => by simp only [zN_lit, zN_mul, zN_add]
  intro d
  induction d with
  | zero =>
    intro q q' i A nx E h g hi hq hq' hR ez hz
    obtain ⟨q, rfl⟩ : ∃ m, q = m + 1 := ⟨q - 1, by omega⟩
    obtain ⟨q', rfl⟩ : ∃ m, q' = m + 1 := ⟨q' - 1, by omega⟩
    obtain ⟨⟨w1, w2, w3⟩, w4⟩ := hR.2.2.2.1
    have ij : inB (zN j) (aln 263) := by rw [al_263, zN_inB (by omega)]; omega
    obtain ⟨z', z1, z2, z3, z4, z5⟩ := w4 j hj
    have e : z' = z := (zN_eq (by omega) (by omega)).mp (z3.symm.trans ez)
    rw [e] at z4
    unfold X11_perform_34 X12_perform_24
    rw [if_pos ij, zN_ix (by omega), z4, if_pos (show zN z ≤ zN i from (zN_le (by omega) (by omega)).mpr (by omega)), if_pos (show zN z ≤ zN i from (zN_le (by omega) (by omega)).mpr (by omega))]
    exact ⟨_, h, g, rfl, rfl, hR.r⟩
  | succ d ih =>
    intro q q' i A nx E h g hi hq hq' hR ez hz
    obtain ⟨q, rfl⟩ : ∃ m, q = m + 1 := ⟨q - 1, by omega⟩
    obtain ⟨q', rfl⟩ : ∃ m, q' = m + 1 := ⟨q' - 1, by omega⟩
    obtain ⟨hL, ⟨-, -, ⟨be, hB, hn1, -, -⟩, -⟩, -, ⟨⟨w1, w2, w3⟩, w4⟩, -⟩ := id hR
    have hH := hL.2.1.2.1
    have hB6 := hL.2.1.1
    have ij : inB (zN j) (aln 263) := by rw [al_263, zN_inB (by omega)]; omega
    obtain ⟨z', z1, z2, z3, z4, z5⟩ := w4 j hj
    have e : z' = z := (zN_eq (by omega) (by omega)).mp (z3.symm.trans ez)
    subst e
    obtain ⟨so, a, b, s1, s2, s3, s4, s5, s6⟩ := z5 i (by omega)
    obtain ⟨ok, c1, c2, c3⟩ := can_step (a := 27) (r := 264) (row := 3 * (16 * j + i)) hL hp (by decide) al_29 al_264 hB s1 s2 s3 (by omega) s5 s6
    have eo : X10_stepOf (zN j) (zN i) h = some (zN (100 * so + 10 * a + b)) := by
      rw [c_stepOf (nw := nw) (z := z') w2 w1 hj z3 z2 (show i < z' by omega), s4]
    unfold X11_perform_34 X12_perform_24
    rw [if_pos ij, zN_ix (by omega), z4, if_neg (show ¬ zN z' ≤ zN i by rw [zN_le (by omega) (by omega)]; omega), if_neg (show ¬ zN z' ≤ zN i by rw [zN_le (by omega) (by omega)]; omega), eo, bp_some, c1, bp_some, s16, c2, bp_some]
    cases ok with
    | false =>
      exact ⟨_, h, g, rfl, rfl, hR.r⟩
    | true =>
      obtain ⟨g1', g2', g3'⟩ := c3 rfl
      obtain ⟨h1, g1, A1, nx1, E1, k1, k2, k3, ⟨k4, k5, k6⟩, k7, -, k8, k9, -⟩ := R.keepW hn hR
      have f12 : h1.1 12 = h.1 12 := k7 12 (by decide) (by omega)
      have f262 : g1.1 262 = g.1 262 := k8 262 (by decide) (by decide)
      have d1 : (100 * so + 10 * a + b) / 100 = so := by omega
      have d2 : (100 * so + 10 * a + b) / 10 % 10 = a := by omega
      have d3 : (100 * so + 10 * a + b) % 10 = b := by omega
      have i0 : inB (zN (3 * (16 * j + i))) (aln 262) := by rw [al_262, zN_inB (by omega)]; omega
      have i1 : inB (zN (3 * (16 * j + i) + 1)) (aln 262) := by rw [al_262, zN_inB (by omega)]; omega
      have i2 : inB (zN (3 * (16 * j + i) + 2)) (aln 262) := by rw [al_262, zN_inB (by omega)]; omega
      have er1 : zN (3 * (16 * j + i)) + 1 = zN (3 * (16 * j + i) + 1) := by rw [show (1 : Int32) = zN 1 from rfl, zN_add]
      have er2 : zN (3 * (16 * j + i)) + 2 = zN (3 * (16 * j + i) + 2) := by rw [show (2 : Int32) = zN 2 from rfl, zN_add]
      have hB1 : BedR H be (h1.1 28) (h1.1 29) (h1.1 30) (h1.1 31) (h1.1 27) (g1.1 264) := by
        rw [k7 28 (by decide) (by omega), k7 29 (by decide) (by omega), k7 30 (by decide) (by omega), k7 31 (by decide) (by omega), k7 27 (by decide) (by omega), k8 264 (by decide) (by decide)]; exact hB
      have next : ∀ A2 nx2 E2 h2 g2, RW n B H nm A2 nx2 E2 nw sn s tp nl hd f h2 g2 → h2.1 12 = h1.1 12 → ∃ r h' g', X11_perform_115 n (X11_perform_34 n q) (zN j) (zN z') (zN i) h2 = some (r, h') ∧ X12_perform_24 n q' (zN j) (zN (i + 1)) g2 = some (r, g') ∧ R n h' g' := fun A2 nx2 E2 h2 g2 q2 e2 => by
        unfold X11_perform_115
        rw [sN1]
        exact ih q q' (i + 1) A2 nx2 E2 h2 g2 (by omega) (by omega) (by omega) q2 (by rw [e2, f12]; exact ez) hz
      rw [bp_some, if_pos rfl, if_pos rfl, k1, bd_some, k2, bd_some, c_sort (by omega), bp_some, d1]
      unfold X9_doStep X12_steps X12_steps_36 X12_steps_69
      rw [c_digit1 (by omega), bp_some, c_digit2 (by omega), bp_some, c_sort (by omega), bp_some, d1, d2, d3]
      simp only [if_pos i0, er1, er2, if_pos i1, if_pos i2, zN_ix (show 3 * (16 * j + i) < 2147483648 by omega), zN_ix (show 3 * (16 * j + i) + 1 < 2147483648 by omega), zN_ix (show 3 * (16 * j + i) + 2 < 2147483648 by omega), f262, s5, sN1]
      obtain rfl | rfl | rfl | rfl | rfl : so = 0 ∨ so = 1 ∨ so = 2 ∨ so = 3 ∨ so = 4 := by omega
      · rcases s6 with ⟨-, e1, e2⟩ | ⟨z, -⟩ | ⟨z, -⟩
        · obtain ⟨t1, t2, t3, t4, t5⟩ := g1' (by omega)
          obtain ⟨h2, g2, u1, u2, u3, -, u5, -, -⟩ := read_now (be := be) (sk := false) hn k3 hB1 t1 t2 t3 (fun z => by cases z) t5
          rw [if_neg (show ¬ zN 0 = 3 by decide), if_pos (show zN 0 = 0 from rfl), if_pos (show zN 0 = 0 from rfl), if_neg (show ¬ zN 0 = 1 by decide), e1, e2, u1, bd_some, bd_some, u2, bd_some, bd_some]
          exact next _ _ _ h2 g2 u3 (u5 12 (by decide) (by decide) (by decide) (by omega))
        · omega
        · omega
      · rcases s6 with ⟨-, e1, e2⟩ | ⟨z, -⟩ | ⟨z, -⟩
        · obtain ⟨t1, t2, t3, t4, t5⟩ := g1' (by omega)
          obtain ⟨h2, g2, u1, u2, u3, -, u5, -, -⟩ := read_now (be := be) (sk := true) hn k3 hB1 t1 t2 t3 (fun _ => t4 rfl) t5
          rw [if_neg (show ¬ zN 1 = 3 by decide), if_neg (show ¬ zN 1 = 0 by decide), if_neg (show ¬ zN 1 = 0 by decide)]
          simp only [if_pos (show zN 1 = 1 from rfl)]
          rw [e1, e2, u1, bd_some, bd_some, u2, bd_some, bd_some]
          exact next _ _ _ h2 g2 u3 (u5 12 (by decide) (by decide) (by decide) (by omega))
        · omega
        · omega
      · obtain ⟨v, hv, v1, v2, v3⟩ := k3.drink
        rw [if_neg (show ¬ zN 2 = 3 by decide), if_neg (show ¬ zN 2 = 0 by decide), if_neg (show ¬ zN 2 = 0 by decide), if_neg (show ¬ zN 2 = 1 by decide), if_neg (show ¬ zN 2 = 1 by decide), if_pos (show zN 2 = 2 from rfl), if_pos (show zN 2 = 2 from rfl), v1, bd_some, bd_some, v2, bd_some, bd_some]
        exact next _ _ _ _ _ v3 (by rw [w_ne (by decide), w_ne (by decide)])
      · obtain ⟨h2, g2, r, u1, u2, u3, u4, -⟩ := night_now hn k3 k4 k5 hp (by have := g2' rfl; omega)
        rw [if_pos (show zN 3 = 3 from rfl), if_neg (show ¬ zN 3 = 0 by decide), if_neg (show ¬ zN 3 = 1 by decide), if_neg (show ¬ zN 3 = 2 by decide), if_pos (show zN 3 = 3 from rfl), u1, bd_some, u2, bd_some, bd_some]
        exact next _ _ _ h2 g2 u3 (u4 12 (by omega) (by decide))
      · rcases s6 with ⟨z, -⟩ | ⟨-, e1, -⟩ | ⟨z, -⟩
        · omega
        · have i23 : inB (23 : Int32) (aln 264) := by rw [al_264]; decide
          have t23 : (23 : Int32).toNatClampNeg = 23 := by decide
          have i26 : inB (26 : Int32) (aln 264) := by rw [al_264]; decide
          have t26 : (26 : Int32).toNatClampNeg = 26 := by decide
          rw [if_neg (show ¬ zN 4 = 3 by decide), if_neg (show ¬ zN 4 = 0 by decide), if_neg (show ¬ zN 4 = 0 by decide), if_neg (show ¬ zN 4 = 1 by decide), if_neg (show ¬ zN 4 = 1 by decide), if_neg (show ¬ zN 4 = 2 by decide), if_neg (show ¬ zN 4 = 2 by decide), if_neg (show ¬ zN 4 = 3 by decide), if_neg (show ¬ zN 4 = 3 by decide), e1, if_pos i23, t23, if_pos i26, t26]
          unfold X9_go
          rw [bd_some, bd_some, bd_some]
          exact next _ _ _ _ _ (k3.go (g3' rfl)) (by rw [w_ne (by decide), w_ne (by decide)])
        · omega
theorem sim_perform (n : Nat) (hn : 20000 ≤ n) : Sim_perform n (R n) := by
  intro x1 h g hR
  have hR0 := hR.thr 0
  obtain ⟨B, H, nm, A, nx, E, nw, sn, s, tp, nl, hd, f, hR1⟩ := id hR0
  have hQ : RW n B H nm A nx E nw sn s tp nl hd f h (wI g 251 0 0) := hR1
  unfold X11_perform X12_perform
  generalize wI g 251 0 (0 : Int32) = g0 at *
  obtain ⟨hL, -, -, hW, -⟩ := id hQ
  have hH := hL.2.1.2.1
  obtain ⟨⟨w1, w2, w3⟩, w4⟩ := id hW
  rw [c_stands hL, bp_some, hL.1.2.2.2]
  rcases idx x1 nw with ⟨j, hj, rfl⟩ | hx
  · rw [c_hasWeek_y w2 w1 hj, m_isWeek_y w3 w1 hj, bp_some, bp_some, if_pos rfl, if_pos rfl]
    by_cases c : H = 0
    · subst c; exact ⟨_, _, _, rfl, rfl, hR0⟩
    · obtain ⟨z, z1, z2, z3, z4, z5⟩ := w4 j hj
      rw [decide_eq_true (show 0 < H by omega), if_pos rfl, if_neg (show ¬ zN H = 0 by rw [zN_lit, zN_eq (by omega) (by decide)]; exact c)]
      unfold X10_sizeOf
      rw [at_12 (by omega), z3, bp_some, bp_some]
      exact perform_loop hn (show 0 < H by omega) hj z n n 0 A nx E h g0 (by omega) (by omega) (by omega) hQ z3 z2
  · rw [c_hasWeek_n w2 w1 hx, m_isWeek_n w3 w1 hx]
    refine ⟨-1, h, g0, ?_, rfl, hR0⟩
    by_cases z : decide (0 < H) = true
    · rw [if_pos z]; rfl
    · rw [if_neg z]
