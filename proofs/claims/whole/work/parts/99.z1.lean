theorem in1 : (M0.1 14 1 = zN 0 ∧ M0.1 14 2 = zN 0 ∧ M0.1 251 26 = zN 0 ∧ M0.1 251 27 = zN 0) ∧ (∀ k, k < 3 → M0.1 15 k = zN 0 ∧ M0.1 256 k = zN 0) := by decide +kernel
theorem in2 : (M0.1 37 5 = zN 0 ∧ M0.1 251 39 = zN 0 ∧ M0.1 37 6 = zN 0) ∧ (∀ k, k < 4 → M0.1 28 k = zN 0 ∧ M0.1 264 (18 + k) = zN 0) ∧ (∀ k, k < 13 → 4 ≤ k → M0.1 27 k = zN 0) ∧ (∀ k, k < 31 → M0.1 264 k = zN 0) := by decide +kernel
theorem in3 : (M0.1 37 4 = zN 0 ∧ M0.1 251 50 = zN 0) ∧ (M0.1 9 5 = zN 0 ∧ M0.1 251 30 = zN 0) ∧ (M0.1 249 4 = zN 0 ∧ M0.1 251 47 = zN 0) ∧ (M0.1 1 1 = zN 0 ∧ M0.1 251 6 = zN 0) ∧ (M0.1 16 5 = zN 0 ∧ M0.1 16 6 = -1) ∧ (M0.1 251 7 = zN 0 ∧ M0.1 251 34 = -1) ∧ M0.1 0 12 = M0.1 251 35 := by decide +kernel
theorem ring_2 : ∀ (k : Nat) (M : Mm), (ringM M k).2 = M.2 := by
  intro k
  induction k with
  | zero => intro M; rfl
  | succ k ih => intro M; simp only [ringM, i_X0, w_2, ih]
theorem in4 : ∀ a b, M0.2 a b = 0 := by
  intro a b
  simp only [M0, i_X12, i_X11, i_X8, i_X6, i_X5, i_X5a, i_X0, i_X9, i_X4, i_X1, i_X10, i_X3, i_X2, i_X7, mnaM, w_2, ring_2, ZM]
theorem R_init (n : Nat) : R n M0 M0 := by
  have d4 := in4
  obtain ⟨a1, a2⟩ := in1
  obtain ⟨b1, b2, b3, b4⟩ := in2
  obtain ⟨c1, c2, c3, c4, c5, c6, c7⟩ := in3
  generalize M0 = m at *
  refine ⟨0, 0, fun _ => 0, 0, 0, fun _ => 0, 0, 0, 0, fun _ => 0, 0, -1, fun _ _ _ _ _ _ _ => 0, ?_, ?_, ?_, ?_, ?_, ?_, ?_, ?_, c7⟩
  · exact ⟨⟨a1.1, a1.2.1, a1.2.2.1, a1.2.2.2⟩, ⟨by decide, by decide, Iff.rfl⟩, a2, fun k hk => absurd hk (Nat.not_lt_zero k), fun k hk => absurd hk (Nat.not_lt_zero k), ⟨by decide, by decide, by decide⟩, fun b hb => absurd hb (Nat.not_lt_zero b), fun x hx => absurd hx (Nat.not_lt_zero x)⟩
  · refine ⟨⟨by decide, by decide, b1.1, b1.2.1, b1.2.2⟩, fun i j _ _ => ⟨Nat.le_refl _, Nat.zero_le _⟩, ⟨fun _ => 0, ⟨fun x hx => absurd hx (Nat.not_lt_zero x), fun k hk => ⟨(b2 k hk).1, (b2 k hk).2, Nat.zero_le _⟩, ⟨b3 4 (by decide) (by decide), b4 22 (by decide), by decide⟩, ⟨b3 5 (by decide) (by decide), b4 23 (by decide), Or.inr ⟨rfl, rfl⟩⟩, ⟨b3 6 (by decide) (by decide), b4 29 (by decide), by decide⟩, ⟨(b3 7 (by decide) (by decide)).trans (b4 27 (by decide)).symm, (b3 8 (by decide) (by decide)).trans (b4 28 (by decide)).symm, (b3 9 (by decide) (by decide)).trans (b4 24 (by decide)).symm⟩, ⟨b3 11 (by decide) (by decide), b4 25 (by decide), by decide⟩, ⟨b3 12 (by decide) (by decide), b4 26 (by decide), by decide⟩⟩, rfl, b3 10 (by decide) (by decide), ⟨b4 30 (by decide), fun i c hi _ => absurd hi (Nat.not_lt_zero i)⟩⟩, fun j hj => absurd hj (Nat.not_lt_zero j)⟩
  · exact ⟨c1.1.trans c1.2.symm, Or.inl c1.1⟩
  · exact ⟨⟨by decide, c2.1, c2.2⟩, fun j hj => absurd hj (Nat.not_lt_zero j)⟩
  · exact ⟨⟨by decide, c3.1, c3.2⟩, fun j hj => absurd hj (Nat.not_lt_zero j)⟩
  · exact ⟨⟨by decide, c4.1, c4.2⟩, fun j hj => absurd hj (Nat.not_lt_zero j)⟩
  · exact ⟨⟨by decide, c5.1, c5.2, Or.inl rfl⟩, fun j hj => absurd hj (Nat.not_lt_zero j), fun s _ => Or.inl (d4 25 s)⟩
  · exact ⟨⟨by decide, c6.1, c6.2, Or.inl rfl⟩, fun j hj => absurd hj (Nat.not_lt_zero j), fun s _ => Or.inl (d4 266 s)⟩
