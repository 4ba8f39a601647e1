/-! ALL -/
theorem m_val0 {n B H : Nat} {nm : Nat → Nat} {nl : Nat} {hd : Int32} {f : Nat → F6} {be : Nat → Nat} {h0 g0 : Mm} (x : CX n B H nm nl hd f be h0 g0) {k : Nat} (hk : k < H) : X12_valueOf (zN 0) (zN k) g0 = some (zI (-(be (3 * k + 2) : Int))) := by
  obtain ⟨-, x2, ⟨q1, -⟩, -, -⟩ := id x
  have hH := x2.2.1.2.1
  have e := (q1 k hk).2.1.2.2
  unfold X12_valueOf
  rw [if_pos (show zN 0 = 0 from rfl), show (3 : Int32) = zN 3 from rfl, show (2 : Int32) = zN 2 from rfl, zN_mul, zN_add, if_pos (by rw [al_264, zN_inB (by omega)]; omega), zN_ix (by omega), e, ← zI_N, zI_neg]
theorem m_val2 {n B H : Nat} {nm : Nat → Nat} {nl : Nat} {hd : Int32} {f : Nat → F6} {be : Nat → Nat} {h0 g0 : Mm} (x : CX n B H nm nl hd f be h0 g0) {k : Nat} (hk : k < H) : X12_valueOf (zN 2) (zN k) g0 = some (zI ((nm (21 + (3 * k + 1)) : Int) - be (3 * k))) := by
  obtain ⟨-, x2, ⟨q1, -⟩, -, -⟩ := id x
  have hH := x2.2.1.2.1
  have e := (q1 k hk).2.1.1
  unfold X12_valueOf
  rw [if_neg (show ¬ zN 2 = 0 by decide), if_neg (show ¬ zN 2 = 1 by decide), if_pos (show zN 2 = 2 from rfl), m_strength x2 hk, bp_some, show (3 : Int32) = zN 3 from rfl, show (0 : Int32) = zN 0 from rfl, zN_mul, zN_add, Nat.add_zero, if_pos (by rw [al_264, zN_inB (by omega)]; omega), zN_ix (by omega), e, zN_subI]
theorem m_val3 {n B H : Nat} {nm : Nat → Nat} {nl : Nat} {hd : Int32} {f : Nat → F6} {be : Nat → Nat} {h0 g0 : Mm} (x : CX n B H nm nl hd f be h0 g0) {k : Nat} (hk : k < H) : X12_valueOf (zN 3) (zN k) g0 = some (zN (be (3 * k + 1))) := by
  obtain ⟨-, x2, ⟨q1, -⟩, -, -⟩ := id x
  have hH := x2.2.1.2.1
  have e := (q1 k hk).2.1.2.1
  unfold X12_valueOf
  rw [if_neg (show ¬ zN 3 = 0 by decide), if_neg (show ¬ zN 3 = 1 by decide), if_neg (show ¬ zN 3 = 2 by decide), if_pos (show zN 3 = 3 from rfl), show (3 : Int32) = zN 3 from rfl, show (1 : Int32) = zN 1 from rfl, zN_mul, zN_add, if_pos (by rw [al_264, zN_inB (by omega)]; omega), zN_ix (by omega), e]
theorem m_val4 {n B H : Nat} {nm : Nat → Nat} {nl : Nat} {hd : Int32} {f : Nat → F6} {be : Nat → Nat} {h0 g0 : Mm} (x : CX n B H nm nl hd f be h0 g0) {k : Nat} (hk : k < H) : X12_valueOf (zN 4) (zN k) g0 = some (zN (nm (21 + 3 * k))) := by
  obtain ⟨-, x2, -, -, -⟩ := id x
  have hH := x2.2.1.2.1
  unfold X12_valueOf X12_valueOf_72
  rw [if_neg (show ¬ zN 4 = 0 by decide), if_neg (show ¬ zN 4 = 1 by decide), if_neg (show ¬ zN 4 = 2 by decide), if_neg (show ¬ zN 4 = 3 by decide), show (3 : Int32) = zN 3 from rfl, zN_mul, if_pos (by rw [al_260, zN_inB (by omega)]; omega), zN_ix (by omega), (x2.2.2.2.2.1 (3 * k) (by omega)).2]

theorem c_leftN {n B H : Nat} {nm : Nat → Nat} {nl : Nat} {hd : Int32} {f : Nat → F6} {be : Nat → Nat} {h0 g0 : Mm} (x : CX n B H nm nl hd f be h0 g0) {k : Nat} (hk : k < H) : X9_leftOf 27 (zN k) h0 = some (zI ((nm (21 + (3 * k + 1)) : Int) - be (3 * k))) := by
  obtain ⟨-, x2, ⟨q1, -⟩, -, -⟩ := id x
  have hH := x2.2.1.2.1
  unfold X9_leftOf
  rw [c_strength x2 hk, bp_some, show 27 + 2 = 29 from rfl, at_29 (by omega), bp_some, (q1 k hk).1.1, zN_subI]

theorem all_fair {n B H : Nat} {nm : Nat → Nat} {nl : Nat} {hd : Int32} {f : Nat → F6} {be : Nat → Nat} {h0 g0 : Mm} (x : CX n B H nm nl hd f be h0 g0) : ∀ (d q q' k b : Nat), k + d = H → b < H → d < q → d < q' → ∃ r, X6_fairest_4 n q (zN b) (zN k) h0 = some r ∧ X12_all_166 n q' (zN 0) (zN b) (zN k) g0 = some (r, g0) := by
  obtain ⟨x1, x2, ⟨q1, -⟩, -, -⟩ := id x
  have hH := x2.2.1.2.1
  intro d
  induction d with
  | zero =>
    intro q q' k b hk hb hq hq'
    obtain ⟨q, rfl⟩ : ∃ m, q = m + 1 := ⟨q - 1, by omega⟩
    obtain ⟨q', rfl⟩ : ∃ m, q' = m + 1 := ⟨q' - 1, by omega⟩
    unfold X6_fairest_4 X12_all_166
    rw [c_houses, bp_some, x2.1.2.1, x2.1.2.2.2, if_pos (show zN H ≤ zN k from (zN_le (by omega) (by omega)).mpr (by omega)), if_pos (show zN H ≤ zN k from (zN_le (by omega) (by omega)).mpr (by omega))]
    exact ⟨_, rfl, rfl⟩
  | succ d ih =>
    intro q q' k b hk hb hq hq'
    obtain ⟨q, rfl⟩ : ∃ m, q = m + 1 := ⟨q - 1, by omega⟩
    obtain ⟨q', rfl⟩ : ∃ m, q' = m + 1 := ⟨q' - 1, by omega⟩
    have hk' : k < H := by omega
    have z1 := q1 k hk'
    have z2 := q1 b hb
    have z3 := x2.2.2.2.2.2.2.2 k hk'
    have z4 := x2.2.2.2.2.2.2.2 b hb
    have z5 := x.2.2.1.2.2.2.2.1.2.2
    unfold X6_fairest_4 X12_all_166 X6_fairest_45 X12_all_197
    rw [c_houses, bp_some, x2.1.2.1, x2.1.2.2.2, if_neg (show ¬ zN H ≤ zN k by rw [zN_le (by omega) (by omega)]; omega), if_neg (show ¬ zN H ≤ zN k by rw [zN_le (by omega) (by omega)]; omega), at_31 (by omega), bp_some, at_31 (by omega), bp_some, z1.1.2.2, z2.1.2.2, m_val0 x hk', m_val0 x hb, bp_some, bp_some, sN1]
    by_cases c : be (3 * b + 2) ≤ be (3 * k + 2)
    · rw [if_pos ((zN_le (by omega) (by omega)).mpr c), if_pos ((zI_le (by omega) (by omega) (by omega) (by omega)).mpr (by omega))]; exact ih q q' (k + 1) b (by omega) hb (by omega) (by omega)
    · rw [if_neg (show ¬ zN (be (3 * b + 2)) ≤ zN (be (3 * k + 2)) by rw [zN_le (by omega) (by omega)]; exact c), if_neg (show ¬ zI (-(be (3 * k + 2) : Int)) ≤ zI (-(be (3 * b + 2) : Int)) by rw [zI_le (by omega) (by omega) (by omega) (by omega)]; omega)]; exact ih q q' (k + 1) k (by omega) hk' (by omega) (by omega)

theorem all_strong {n B H : Nat} {nm : Nat → Nat} {nl : Nat} {hd : Int32} {f : Nat → F6} {be : Nat → Nat} {h0 g0 : Mm} (x : CX n B H nm nl hd f be h0 g0) : ∀ (d q q' k b : Nat), k + d = H → b < H → d < q → d < q' → ∃ r, X6_strongest_4 n q (zN b) (zN k) h0 = some r ∧ X12_all_166 n q' (zN 2) (zN b) (zN k) g0 = some (r, g0) := by
  obtain ⟨x1, x2, ⟨q1, -⟩, -, -⟩ := id x
  have hH := x2.2.1.2.1
  intro d
  induction d with
  | zero =>
    intro q q' k b hk hb hq hq'
    obtain ⟨q, rfl⟩ : ∃ m, q = m + 1 := ⟨q - 1, by omega⟩
    obtain ⟨q', rfl⟩ : ∃ m, q' = m + 1 := ⟨q' - 1, by omega⟩
    unfold X6_strongest_4 X12_all_166
    rw [c_houses, bp_some, x2.1.2.1, x2.1.2.2.2, if_pos (show zN H ≤ zN k from (zN_le (by omega) (by omega)).mpr (by omega)), if_pos (show zN H ≤ zN k from (zN_le (by omega) (by omega)).mpr (by omega))]
    exact ⟨_, rfl, rfl⟩
  | succ d ih =>
    intro q q' k b hk hb hq hq'
    obtain ⟨q, rfl⟩ : ∃ m, q = m + 1 := ⟨q - 1, by omega⟩
    obtain ⟨q', rfl⟩ : ∃ m, q' = m + 1 := ⟨q' - 1, by omega⟩
    have hk' : k < H := by omega
    have z1 := q1 k hk'
    have z2 := q1 b hb
    have z3 := x2.2.2.2.2.2.2.2 k hk'
    have z4 := x2.2.2.2.2.2.2.2 b hb
    have z5 := x.2.2.1.2.2.2.2.1.2.2
    unfold X6_strongest_4 X12_all_166 X6_strongest_47 X12_all_197
    rw [c_houses, bp_some, x2.1.2.1, x2.1.2.2.2, if_neg (show ¬ zN H ≤ zN k by rw [zN_le (by omega) (by omega)]; omega), if_neg (show ¬ zN H ≤ zN k by rw [zN_le (by omega) (by omega)]; omega), c_leftN x hk', c_leftN x hb, bp_some, bp_some, m_val2 x hk', m_val2 x hb, bp_some, bp_some, sN1]
    by_cases c : zI ((nm (21 + (3 * k + 1)) : Int) - be (3 * k)) ≤ zI ((nm (21 + (3 * b + 1)) : Int) - be (3 * b))
    · rw [if_pos c, if_pos c]; exact ih q q' (k + 1) b (by omega) hb (by omega) (by omega)
    · rw [if_neg c, if_neg c]; exact ih q q' (k + 1) k (by omega) hk' (by omega) (by omega)

theorem all_loud {n B H : Nat} {nm : Nat → Nat} {nl : Nat} {hd : Int32} {f : Nat → F6} {be : Nat → Nat} {h0 g0 : Mm} (x : CX n B H nm nl hd f be h0 g0) : ∀ (d q q' k b : Nat), k + d = H → b < H → d < q → d < q' → ∃ r, X6_loudest_4 n q (zN b) (zN k) h0 = some r ∧ X12_all_166 n q' (zN 3) (zN b) (zN k) g0 = some (r, g0) := by
  obtain ⟨x1, x2, ⟨q1, -⟩, -, -⟩ := id x
  have hH := x2.2.1.2.1
  intro d
  induction d with
  | zero =>
    intro q q' k b hk hb hq hq'
    obtain ⟨q, rfl⟩ : ∃ m, q = m + 1 := ⟨q - 1, by omega⟩
    obtain ⟨q', rfl⟩ : ∃ m, q' = m + 1 := ⟨q' - 1, by omega⟩
    unfold X6_loudest_4 X12_all_166
    rw [c_houses, bp_some, x2.1.2.1, x2.1.2.2.2, if_pos (show zN H ≤ zN k from (zN_le (by omega) (by omega)).mpr (by omega)), if_pos (show zN H ≤ zN k from (zN_le (by omega) (by omega)).mpr (by omega))]
    exact ⟨_, rfl, rfl⟩
  | succ d ih =>
    intro q q' k b hk hb hq hq'
    obtain ⟨q, rfl⟩ : ∃ m, q = m + 1 := ⟨q - 1, by omega⟩
    obtain ⟨q', rfl⟩ : ∃ m, q' = m + 1 := ⟨q' - 1, by omega⟩
    have hk' : k < H := by omega
    have z1 := q1 k hk'
    have z2 := q1 b hb
    have z3 := x2.2.2.2.2.2.2.2 k hk'
    have z4 := x2.2.2.2.2.2.2.2 b hb
    have z5 := x.2.2.1.2.2.2.2.1.2.2
    unfold X6_loudest_4 X12_all_166 X6_loudest_45 X12_all_197
    rw [c_houses, bp_some, x2.1.2.1, x2.1.2.2.2, if_neg (show ¬ zN H ≤ zN k by rw [zN_le (by omega) (by omega)]; omega), if_neg (show ¬ zN H ≤ zN k by rw [zN_le (by omega) (by omega)]; omega), at_30 (by omega), bp_some, at_30 (by omega), bp_some, z1.1.2.1, z2.1.2.1, m_val3 x hk', m_val3 x hb, bp_some, bp_some, sN1]
    by_cases c : zN (be (3 * k + 1)) ≤ zN (be (3 * b + 1))
    · rw [if_pos c, if_pos c]; exact ih q q' (k + 1) b (by omega) hb (by omega) (by omega)
    · rw [if_neg c, if_neg c]; exact ih q q' (k + 1) k (by omega) hk' (by omega) (by omega)

theorem all_full {n B H : Nat} {nm : Nat → Nat} {nl : Nat} {hd : Int32} {f : Nat → F6} {be : Nat → Nat} {h0 g0 : Mm} (x : CX n B H nm nl hd f be h0 g0) : ∀ (d q q' k b : Nat), k + d = H → b < H → d < q → d < q' → ∃ r, X6_fullest_4 n q (zN b) (zN k) h0 = some r ∧ X12_all_166 n q' (zN 4) (zN b) (zN k) g0 = some (r, g0) := by
  obtain ⟨x1, x2, ⟨q1, -⟩, -, -⟩ := id x
  have hH := x2.2.1.2.1
  intro d
  induction d with
  | zero =>
    intro q q' k b hk hb hq hq'
    obtain ⟨q, rfl⟩ : ∃ m, q = m + 1 := ⟨q - 1, by omega⟩
    obtain ⟨q', rfl⟩ : ∃ m, q' = m + 1 := ⟨q' - 1, by omega⟩
    unfold X6_fullest_4 X12_all_166
    rw [c_houses, bp_some, x2.1.2.1, x2.1.2.2.2, if_pos (show zN H ≤ zN k from (zN_le (by omega) (by omega)).mpr (by omega)), if_pos (show zN H ≤ zN k from (zN_le (by omega) (by omega)).mpr (by omega))]
    exact ⟨_, rfl, rfl⟩
  | succ d ih =>
    intro q q' k b hk hb hq hq'
    obtain ⟨q, rfl⟩ : ∃ m, q = m + 1 := ⟨q - 1, by omega⟩
    obtain ⟨q', rfl⟩ : ∃ m, q' = m + 1 := ⟨q' - 1, by omega⟩
    have hk' : k < H := by omega
    have z1 := q1 k hk'
    have z2 := q1 b hb
    have z3 := x2.2.2.2.2.2.2.2 k hk'
    have z4 := x2.2.2.2.2.2.2.2 b hb
    have z5 := x.2.2.1.2.2.2.2.1.2.2
    unfold X6_fullest_4 X12_all_166 X6_fullest_39 X12_all_197
    rw [c_houses, bp_some, x2.1.2.1, x2.1.2.2.2, if_neg (show ¬ zN H ≤ zN k by rw [zN_le (by omega) (by omega)]; omega), if_neg (show ¬ zN H ≤ zN k by rw [zN_le (by omega) (by omega)]; omega), c_children x2 hk', c_children x2 hb, bp_some, bp_some, m_val4 x hk', m_val4 x hb, bp_some, bp_some, sN1]
    by_cases c : zN (nm (21 + 3 * k)) ≤ zN (nm (21 + 3 * b))
    · rw [if_pos c, if_pos c]; exact ih q q' (k + 1) b (by omega) hb (by omega) (by omega)
    · rw [if_neg c, if_neg c]; exact ih q q' (k + 1) k (by omega) hk' (by omega) (by omega)

theorem all_long {n B H : Nat} {nm : Nat → Nat} {nl : Nat} {hd : Int32} {f : Nat → F6} {be : Nat → Nat} {h0 g0 : Mm} (x : CX n B H nm nl hd f be h0 g0) : ∀ (d q q' k b : Nat), k + d = B → b < B → d < q → d < q' → ∃ r, X6_longest_4 n q (zN b) (zN k) h0 = some r ∧ X12_longest_4 n q' (zN b) (zN k) g0 = some r := by
  obtain ⟨x1, x2, ⟨q1, -⟩, -, -⟩ := id x
  have hH := x2.2.1.1
  intro d
  induction d with
  | zero =>
    intro q q' k b hk hb hq hq'
    obtain ⟨q, rfl⟩ : ∃ m, q = m + 1 := ⟨q - 1, by omega⟩
    obtain ⟨q', rfl⟩ : ∃ m, q' = m + 1 := ⟨q' - 1, by omega⟩
    unfold X6_longest_4 X12_longest_4
    rw [c_books, bp_some, x2.1.1, x2.1.2.2.1, if_pos (show zN B ≤ zN k from (zN_le (by omega) (by omega)).mpr (by omega)), if_pos (show zN B ≤ zN k from (zN_le (by omega) (by omega)).mpr (by omega))]
    exact ⟨_, rfl, rfl⟩
  | succ d ih =>
    intro q q' k b hk hb hq hq'
    obtain ⟨q, rfl⟩ : ∃ m, q = m + 1 := ⟨q - 1, by omega⟩
    obtain ⟨q', rfl⟩ : ∃ m, q' = m + 1 := ⟨q' - 1, by omega⟩
    have hk' : k < B := by omega
    unfold X6_longest_4 X12_longest_4 X6_longest_39 X12_longest_30
    rw [c_books, bp_some, x2.1.1, x2.1.2.2.1, if_neg (show ¬ zN B ≤ zN k by rw [zN_le (by omega) (by omega)]; omega), if_neg (show ¬ zN B ≤ zN k by rw [zN_le (by omega) (by omega)]; omega), c_pages x2 hk', c_pages x2 hb, m_pages x2 hk', m_pages x2 hb, bp_some, bp_some, bp_some, bp_some, sN1]
    by_cases c : zN (nm (3 + 3 * k)) ≤ zN (nm (3 + 3 * b))
    · rw [if_pos c, if_pos c]; exact ih q q' (k + 1) b (by omega) hb (by omega) (by omega)
    · rw [if_neg c, if_neg c]; exact ih q q' (k + 1) k (by omega) hk' (by omega) (by omega)
theorem all_fresh {n B H : Nat} {nm : Nat → Nat} {nl : Nat} {hd : Int32} {f : Nat → F6} {be : Nat → Nat} {h0 g0 : Mm} (x : CX n B H nm nl hd f be h0 g0) : ∀ (d q q' k : Nat) (s : Int32), k + d = 4 → d < q → d < q' → ∃ r, X6_freshKinds_4 n q s (zN k) h0 = some r ∧ X12_all_71 n q' (zN 6) s (zN k) g0 = some (r, g0) := by
  obtain ⟨x1, x2, ⟨q1, q2, -⟩, -, -⟩ := id x
  intro d
  induction d with
  | zero =>
    intro q q' k s hk hq hq'
    obtain ⟨q, rfl⟩ : ∃ m, q = m + 1 := ⟨q - 1, by omega⟩
    obtain ⟨q', rfl⟩ : ∃ m, q' = m + 1 := ⟨q' - 1, by omega⟩
    unfold X6_freshKinds_4 X12_all_71 X12_all_104 X12_all_154
    rw [show (4 : Int32) = zN 4 from rfl, if_pos (show zN 4 ≤ zN k from (zN_le (by omega) (by omega)).mpr (by omega)), if_pos (show zN 4 ≤ zN k from (zN_le (by omega) (by omega)).mpr (by omega)), if_neg (show ¬ zN 6 = 7 by decide), if_neg (show ¬ zN 6 ≤ 5 by decide)]
    exact ⟨_, rfl, rfl⟩
  | succ d ih =>
    intro q q' k s hk hq hq'
    obtain ⟨q, rfl⟩ : ∃ m, q = m + 1 := ⟨q - 1, by omega⟩
    obtain ⟨q', rfl⟩ : ∃ m, q' = m + 1 := ⟨q' - 1, by omega⟩
    obtain ⟨b1, b2, b3⟩ := q2 k (by omega)
    have i18 : inB (zN (18 + k)) (aln 264) := by rw [al_264, zN_inB (by omega)]; omega
    unfold X6_freshKinds_4 X12_all_71 X6_freshKinds_31 X12_all_96
    rw [show (4 : Int32) = zN 4 from rfl, if_neg (show ¬ zN 4 ≤ zN k by rw [zN_le (by omega) (by omega)]; omega), if_neg (show ¬ zN 4 ≤ zN k by rw [zN_le (by omega) (by omega)]; omega), at_28 (by omega), bp_some, b1, show (18 : Int32) = zN 18 from rfl, zN_add, if_pos i18, zN_ix (by omega), b2, sN1]
    by_cases c : zN (be (18 + k)) = 0
    · rw [if_pos c, if_pos c]; exact ih q q' (k + 1) _ (by omega) (by omega) (by omega)
    · rw [if_neg c, if_neg c]; exact ih q q' (k + 1) _ (by omega) (by omega) (by omega)
theorem all_open {n B H : Nat} {nm : Nat → Nat} {nl : Nat} {hd : Int32} {f : Nat → F6} {be : Nat → Nat} {h0 g0 : Mm} (x : CX n B H nm nl hd f be h0 g0) : ∀ (d q q' k : Nat) (s : Int32), k + d = B → d < q → d < q' → ∃ r, X6_openBooks_4 n q s (zN k) h0 = some r ∧ X12_all_112 n q' (zN 7) s (zN k) g0 = some (r, g0) := by
  obtain ⟨x1, x2, hB, -, -⟩ := id x
  have hH := x2.2.1.1
  intro d
  induction d with
  | zero =>
    intro q q' k s hk hq hq'
    obtain ⟨q, rfl⟩ : ∃ m, q = m + 1 := ⟨q - 1, by omega⟩
    obtain ⟨q', rfl⟩ : ∃ m, q' = m + 1 := ⟨q' - 1, by omega⟩
    unfold X6_openBooks_4 X12_all_112 X12_all_154
    rw [c_books, bp_some, x2.1.1, x2.1.2.2.1, if_pos (show zN B ≤ zN k from (zN_le (by omega) (by omega)).mpr (by omega)), if_pos (show zN B ≤ zN k from (zN_le (by omega) (by omega)).mpr (by omega)), if_neg (show ¬ zN 7 ≤ 5 by decide)]
    exact ⟨_, rfl, rfl⟩
  | succ d ih =>
    intro q q' k s hk hq hq'
    obtain ⟨q, rfl⟩ : ∃ m, q = m + 1 := ⟨q - 1, by omega⟩
    obtain ⟨q', rfl⟩ : ∃ m, q' = m + 1 := ⟨q' - 1, by omega⟩
    have hk' : k < B := by omega
    unfold X6_openBooks_4 X12_all_112 X6_openBooks_47 X12_all_146
    rw [c_books, bp_some, x2.1.1, x2.1.2.2.1, if_neg (show ¬ zN B ≤ zN k by rw [zN_le (by omega) (by omega)]; omega), if_neg (show ¬ zN B ≤ zN k by rw [zN_le (by omega) (by omega)]; omega), c_pages x2 hk', m_pages x2 hk', bp_some, bp_some, sN1]
    rcases can_read (a := 27) (r := 264) x2 (by decide) al_29 al_264 hB (zN k) (zN (nm (3 + 3 * k))) false with ⟨y, p, -, -, -, -, -, -, -, -, ⟨c1, m1, -⟩ | ⟨c1, m1, -⟩⟩ | ⟨-, c1, m1, -⟩
    · rw [c1, m1, bp_some, bp_some, if_pos rfl, if_pos rfl]; exact ih q q' (k + 1) _ (by omega) (by omega) (by omega)
    · rw [c1, m1, bp_some, bp_some, if_neg (show ¬ (false = true) by decide), if_neg (show ¬ (false = true) by decide)]; exact ih q q' (k + 1) _ (by omega) (by omega) (by omega)
    · rw [c1, m1, bp_some, bp_some, if_neg (show ¬ (false = true) by decide), if_neg (show ¬ (false = true) by decide)]; exact ih q q' (k + 1) _ (by omega) (by omega) (by omega)
theorem sim_all (n : Nat) (hn : 20000 ≤ n) : Sim_all n (R n) := by
  intro x1 h g hR
  have hR0 := hR.thr 0
  obtain ⟨B, H, nm, nl, hd, f, be, x, ex⟩ := R.cx hn hR0
  unfold X11_all X12_all
  generalize wI g 251 0 (0 : Int32) = g0 at *
  obtain ⟨-, hL, hB, -, -⟩ := id x
  have hH := hL.2.1.2.1
  have hB6 := hL.2.1.1
  have hB' := hL.2.1.2.2
  have en := hL.2.2.2.2.2.1
  rw [c_stands hL, bp_some, hL.1.2.2.2]
  by_cases c : H = 0
  · subst c; exact ⟨_, _, rfl, rfl, hR0⟩
  · rw [decide_eq_true (show 0 < H by omega), if_pos rfl, if_neg (show ¬ zN H = 0 by rw [zN_lit, zN_eq (by omega) (by decide)]; exact c)]
    rcases what x1 7 (by decide) with ⟨k, hk, rfl⟩ | ⟨hx, hx2⟩
    · rw [m_in (m := 7) (L := 0) (U := 7) (by decide) ⟨k, hk, rfl⟩ rfl rfl, bp_some, if_pos rfl]
      obtain rfl | rfl | rfl | rfl | rfl | rfl | rfl | rfl : k = 0 ∨ k = 1 ∨ k = 2 ∨ k = 3 ∨ k = 4 ∨ k = 5 ∨ k = 6 ∨ k = 7 := by omega
      · obtain ⟨r, e1, e2⟩ := all_fair x (H - 1) n n 1 0 (by omega) (by omega) (by omega) (by omega)
        refine ⟨r, g0, ?_, ?_, hR0⟩
        · rw [if_pos (show zN 0 = 0 from rfl)]; unfold X6_fairest; have e1' : X6_fairest_4 n n 0 1 h = _ := e1; rw [e1']; rfl
        · exact e2
      · obtain ⟨q1, q2, q3, -⟩ := hB
        have i22 : inB (22 : Int32) (aln 264) := by rw [al_264]; decide
        have t22 : (22 : Int32).toNatClampNeg = 22 := by decide
        rw [if_neg (show ¬ zN 1 = 0 by decide), if_pos (show zN 1 = 1 from rfl), if_pos (show zN 1 = 1 from rfl), if_pos i22, t22, q3.2.1, q3.1, c_enough hL, bp_some, m_isEnough hL (by omega), bp_some]
        by_cases z : nm 1 ≤ be 22
        · rw [if_neg (show ¬ zN (be 22) < zN (nm 1) by rw [zN_lt (by omega) (by omega)]; omega), decide_eq_true z]; exact ⟨_, _, rfl, rfl, hR0⟩
        · rw [if_pos ((zN_lt (by omega) (by omega)).mpr (by omega)), decide_eq_false z]; exact ⟨_, _, rfl, rfl, hR0⟩
      · obtain ⟨r, e1, e2⟩ := all_strong x (H - 1) n n 1 0 (by omega) (by omega) (by omega) (by omega)
        refine ⟨r, g0, ?_, ?_, hR0⟩
        · rw [if_neg (show ¬ zN 2 = 0 by decide), if_neg (show ¬ zN 2 = 1 by decide), if_pos (show zN 2 = 2 from rfl)]; unfold X6_strongest; have e1' : X6_strongest_4 n n 0 1 h = _ := e1; rw [e1']; rfl
        · exact e2
      · obtain ⟨r, e1, e2⟩ := all_loud x (H - 1) n n 1 0 (by omega) (by omega) (by omega) (by omega)
        refine ⟨r, g0, ?_, ?_, hR0⟩
        · rw [if_neg (show ¬ zN 3 = 0 by decide), if_neg (show ¬ zN 3 = 1 by decide), if_neg (show ¬ zN 3 = 2 by decide), if_pos (show zN 3 = 3 from rfl)]; unfold X6_loudest; have e1' : X6_loudest_4 n n 0 1 h = _ := e1; rw [e1']; rfl
        · exact e2
      · obtain ⟨r, e1, e2⟩ := all_full x (H - 1) n n 1 0 (by omega) (by omega) (by omega) (by omega)
        refine ⟨r, g0, ?_, ?_, hR0⟩
        · rw [if_neg (show ¬ zN 4 = 0 by decide), if_neg (show ¬ zN 4 = 1 by decide), if_neg (show ¬ zN 4 = 2 by decide), if_neg (show ¬ zN 4 = 3 by decide), if_pos (show zN 4 = 4 from rfl)]; unfold X6_fullest; have e1' : X6_fullest_4 n n 0 1 h = _ := e1; rw [e1']; rfl
        · exact e2
      · obtain ⟨r, e1, e2⟩ := all_long x (B - 1) n n 1 0 (by omega) (by omega) (by omega) (by omega)
        refine ⟨r, g0, ?_, ?_, hR0⟩
        · rw [if_neg (show ¬ zN 5 = 0 by decide), if_neg (show ¬ zN 5 = 1 by decide), if_neg (show ¬ zN 5 = 2 by decide), if_neg (show ¬ zN 5 = 3 by decide), if_neg (show ¬ zN 5 = 4 by decide), if_pos (show zN 5 = 5 from rfl)]; unfold X6_longest; have e1' : X6_longest_4 n n 0 1 h = _ := e1; rw [e1']; rfl
        · rw [if_neg (show ¬ zN 5 = 1 by decide), if_pos (show zN 5 = 5 from rfl)]; unfold X12_longest; have e2' : X12_longest_4 n n 0 1 g0 = _ := e2; rw [e2']; rfl
      · obtain ⟨r, e1, e2⟩ := all_fresh x 4 n n 0 0 (by omega) (by omega) (by omega)
        refine ⟨r, g0, ?_, ?_, hR0⟩
        · rw [if_neg (show ¬ zN 6 = 0 by decide), if_neg (show ¬ zN 6 = 1 by decide), if_neg (show ¬ zN 6 = 2 by decide), if_neg (show ¬ zN 6 = 3 by decide), if_neg (show ¬ zN 6 = 4 by decide), if_neg (show ¬ zN 6 = 5 by decide), if_pos (show zN 6 = 6 from rfl)]; unfold X6_freshKinds; have e1' : X6_freshKinds_4 n n 0 0 h = _ := e1; rw [e1']; rfl
        · rw [if_neg (show ¬ zN 6 = 1 by decide), if_neg (show ¬ zN 6 = 5 by decide), if_pos (show zN 6 = 6 from rfl)]; exact e2
      · obtain ⟨r, e1, e2⟩ := all_open x B n n 0 0 (by omega) (by omega) (by omega)
        refine ⟨r, g0, ?_, ?_, hR0⟩
        · rw [if_neg (show ¬ zN 7 = 0 by decide), if_neg (show ¬ zN 7 = 1 by decide), if_neg (show ¬ zN 7 = 2 by decide), if_neg (show ¬ zN 7 = 3 by decide), if_neg (show ¬ zN 7 = 4 by decide), if_neg (show ¬ zN 7 = 5 by decide), if_neg (show ¬ zN 7 = 6 by decide), if_pos (show zN 7 = 7 from rfl)]; unfold X6_openBooks; have e1' : X6_openBooks_4 n n 0 0 h = _ := e1; rw [e1']; rfl
        · rw [if_neg (show ¬ zN 7 = 1 by decide), if_neg (show ¬ zN 7 = 5 by decide), if_neg (show ¬ zN 7 = 6 by decide)]; exact e2
    · rw [m_out (m := 7) (L := 0) (U := 7) hx rfl rfl]
      have q0 := hx2 0 (by decide); have q1 := hx2 1 (by decide); have q2 := hx2 2 (by decide); have q3 := hx2 3 (by decide); have q4 := hx2 4 (by decide); have q5 := hx2 5 (by decide); have q6 := hx2 6 (by decide); have q7 := hx2 7 (by decide)
      simp only [zN_lit, zN_add, zN_mul, bp_some, bd_some, w_eq, w_2, wl_1, u_eq, wr_eq, wr_2, Nat.reduceAdd, Nat.reduceMul, Nat.reduceSub, if_neg q0, if_neg q1, if_neg q2, if_neg q3, if_neg q4, if_neg q5, if_neg q6, if_neg q7]
      exact ⟨_, _, rfl, rfl, hR0⟩
