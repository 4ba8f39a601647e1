/-! a STEP -/
def heardI (s y : Nat) : Nat := heard (decide (s = 1)) y
def StGo (B H : Nat) (nm be : Nat → Nat) (s x y : Nat) : Prop := (s ≤ 1 → x < B ∧ 1 ≤ y ∧ y ≤ nm (3 + 3 * x) ∧ (decide (s = 1) = true → 2 ≤ y) ∧ be (3 * be 23) + heardI s y ≤ nm (21 + (3 * be 23 + 1))) ∧ (s = 3 → be 29 < 9999) ∧ (s = 4 → x < H)
def StM (s x y : Nat) (b c : Int32) : Prop := (s ≤ 1 ∧ b = zN x ∧ c = zN y) ∨ (s = 4 ∧ b = zN x ∧ y = 0 ∧ c = -1) ∨ ((s = 2 ∨ s = 3) ∧ x = 0 ∧ y = 0 ∧ b = -1 ∧ c = -1)
theorem can_step {a r B H s x y row : Nat} {nm be : Nat → Nat} {h g : Mm} (hL : LandR B H nm (h.1 14) (h.1 15) (g.1 251) (g.1 256) (g.1 258) (g.1 260)) (h0 : 0 < H) (hb : a < 900) (a2 : aln (a + 2) = 6) (hr : aln r = 211)
    (hB : BedR H be (h.1 (a + 1)) (h.1 (a + 2)) (h.1 (a + 3)) (h.1 (a + 4)) (h.1 a) (g.1 r)) (hs : s ≤ 4) (hx : x ≤ 9) (hy : y ≤ 9) (hrow : row + 2 < 240) (e0 : g.1 262 row = zN s) (em : StM s x y (g.1 262 (row + 1)) (g.1 262 (row + 2))) :
    ∃ ok, X9_canStep a (zN (100 * s + 10 * x + y)) h = some ok ∧ X12_canStep r (zN row) g = some ok ∧ (ok = true → StGo B H nm be s x y) := by
  have hH := hL.2.1.2.1
  have hB6 := hL.2.1.1
  have d1 : (100 * s + 10 * x + y) / 100 = s := by omega
  have d2 : (100 * s + 10 * x + y) / 10 % 10 = x := by omega
  have d3 : (100 * s + 10 * x + y) % 10 = y := by omega
  have i0 : inB (zN row) (aln 262) := by rw [al_262, zN_inB (by omega)]; omega
  have i1 : inB (zN (row + 1)) (aln 262) := by rw [al_262, zN_inB (by omega)]; omega
  have i2 : inB (zN (row + 2)) (aln 262) := by rw [al_262, zN_inB (by omega)]; omega
  have er1 : zN row + 1 = zN (row + 1) := by rw [show (1 : Int32) = zN 1 from rfl, zN_add]
  have er2 : zN row + 2 = zN (row + 2) := by rw [show (2 : Int32) = zN 2 from rfl, zN_add]
  unfold X9_canStep X12_canStep
  rw [c_digit1 (by omega), bp_some, c_digit2 (by omega), bp_some, c_sort (by omega), bp_some, d1, d2, d3, if_pos i0, zN_ix (by omega), e0, er1, er2]
  simp only [if_pos i1, if_pos i2, zN_ix (show row + 1 < 2147483648 by omega), zN_ix (show row + 2 < 2147483648 by omega)]
  have rd : ∀ sk : Bool, g.1 262 (row + 1) = zN x → g.1 262 (row + 2) = zN y → ∃ ok, X9_canRead a (zN x) (zN y) sk h = some ok ∧ X12_mayRead r (g.1 262 (row + 1)) (g.1 262 (row + 2)) sk g = some ok ∧ (ok = true → x < B ∧ 1 ≤ y ∧ y ≤ nm (3 + 3 * x) ∧ (sk = true → 2 ≤ y) ∧ be (3 * be 23) + heard sk y ≤ nm (21 + (3 * be 23 + 1))) := fun sk e1 e2 => by
    rw [e1, e2]
    rcases can_read (a := a) (r := r) hL hb a2 hr hB (zN x) (zN y) sk with ⟨x', p, hx', e3, e4, p1, p2, p3, p4, -, ⟨c1, m1, -⟩ | ⟨c1, m1, -⟩⟩ | ⟨-, c1, m1, -⟩
    · obtain rfl : x = x' := (zN_eq (by omega) (by omega)).mp e3
      have pg := hL.2.2.2.2.2.2.1 x hx'
      obtain rfl : y = p := (zN_eq (by omega) (by omega)).mp e4
      exact ⟨true, c1, m1, fun _ => ⟨hx', p1, p2, p3, p4⟩⟩
    · exact ⟨false, c1, m1, fun z => by cases z⟩
    · exact ⟨false, c1, m1, fun z => by cases z⟩
  obtain ⟨q1, q2, q3, q4, q5, q6, q7, q8⟩ := hB
  obtain rfl | rfl | rfl | rfl | rfl : s = 0 ∨ s = 1 ∨ s = 2 ∨ s = 3 ∨ s = 4 := by omega
  · rcases em with ⟨-, e1, e2⟩ | ⟨z, -⟩ | ⟨z, -⟩
    · obtain ⟨ok, c1, m1, c2⟩ := rd false e1 e2
      rw [if_pos (show zN 0 = 0 from rfl), if_pos (show zN 0 = 0 from rfl), c1, m1]
      exact ⟨ok, rfl, rfl, fun z => ⟨fun _ => c2 z, fun z => by omega, fun z => by omega⟩⟩
    · omega
    · omega
  · rcases em with ⟨-, e1, e2⟩ | ⟨z, -⟩ | ⟨z, -⟩
    · obtain ⟨ok, c1, m1, c2⟩ := rd true e1 e2
      rw [if_neg (show ¬ zN 1 = 0 by decide), if_neg (show ¬ zN 1 = 0 by decide), if_pos (show zN 1 = 1 from rfl), if_pos (show zN 1 = 1 from rfl), c1, m1]
      exact ⟨ok, rfl, rfl, fun z => ⟨fun _ => c2 z, fun z => by omega, fun z => by omega⟩⟩
    · omega
    · omega
  · have i25 : inB (25 : Int32) (aln r) := by rw [hr]; decide
    have t25 : (25 : Int32).toNatClampNeg = 25 := by decide
    rw [if_neg (show ¬ zN 2 = 0 by decide), if_neg (show ¬ zN 2 = 0 by decide), if_neg (show ¬ zN 2 = 1 by decide), if_neg (show ¬ zN 2 = 1 by decide), if_pos (show zN 2 = 2 from rfl), if_pos (show zN 2 = 2 from rfl), if_pos i25, t25]
    unfold X9_canDrink
    rw [c_stands hL, bp_some, decide_eq_true h0, if_pos rfl, q7.1, q7.2.1]
    by_cases z : zN (be 25) = 0
    · simp only [if_pos z]; exact ⟨true, rfl, rfl, fun _ => ⟨fun z => by omega, fun z => by omega, fun z => by omega⟩⟩
    · simp only [if_neg z]; exact ⟨false, rfl, rfl, fun z => by cases z⟩
  · have i29 : inB (29 : Int32) (aln r) := by rw [hr]; decide
    have t29 : (29 : Int32).toNatClampNeg = 29 := by decide
    rw [if_neg (show ¬ zN 3 = 0 by decide), if_neg (show ¬ zN 3 = 0 by decide), if_neg (show ¬ zN 3 = 1 by decide), if_neg (show ¬ zN 3 = 1 by decide), if_neg (show ¬ zN 3 = 2 by decide), if_neg (show ¬ zN 3 = 2 by decide), if_pos (show zN 3 = 3 from rfl), if_pos (show zN 3 = 3 from rfl), if_pos i29, t29]
    unfold X9_canPass
    rw [c_stands hL, bp_some, decide_eq_true h0, if_pos rfl, q5.1, q5.2.1]
    by_cases z : (9999 : Int32) ≤ zN (be 29)
    · simp only [if_pos z]; exact ⟨false, rfl, rfl, fun z => by cases z⟩
    · simp only [if_neg z]
      rw [zN_lit, zN_le (by decide) (by omega)] at z
      exact ⟨true, rfl, rfl, fun _ => ⟨fun z => by omega, fun _ => by omega, fun z => by omega⟩⟩
  · have i23 : inB (23 : Int32) (aln r) := by rw [hr]; decide
    have t23 : (23 : Int32).toNatClampNeg = 23 := by decide
    have i26 : inB (26 : Int32) (aln r) := by rw [hr]; decide
    have t26 : (26 : Int32).toNatClampNeg = 26 := by decide
    rcases em with ⟨z, -⟩ | ⟨-, e1, -⟩ | ⟨z, -⟩
    · omega
    · rw [if_neg (show ¬ zN 4 = 0 by decide), if_neg (show ¬ zN 4 = 0 by decide), if_neg (show ¬ zN 4 = 1 by decide), if_neg (show ¬ zN 4 = 1 by decide), if_neg (show ¬ zN 4 = 2 by decide), if_neg (show ¬ zN 4 = 2 by decide), if_neg (show ¬ zN 4 = 3 by decide), if_neg (show ¬ zN 4 = 3 by decide), e1]
      unfold X9_canGo X12_canGo
      rcases idx (zN x) H with ⟨x', hx', e3⟩ | hx'
      · obtain rfl : x = x' := (zN_eq (by omega) (by omega)).mp e3
        rw [c_hasHouse_y hL hx', m_isHouse_y hL hx', bp_some, bp_some, if_pos rfl, if_pos rfl, if_pos i23, t23, if_pos i26, t26, q4.1, q4.2.1, q8.1, q8.2.1]
        by_cases z : zN x = zN (be 23)
        · simp only [if_pos z, if_pos z.symm]; exact ⟨false, rfl, rfl, fun z => by cases z⟩
        · simp only [if_neg z, if_neg (show ¬ zN (be 23) = zN x from fun w => z w.symm)]
          by_cases z : zN (be 26) = 0
          · simp only [if_pos z]; exact ⟨true, rfl, rfl, fun _ => ⟨fun z => by omega, fun z => by omega, fun _ => hx'⟩⟩
          · simp only [if_neg z]; exact ⟨false, rfl, rfl, fun z => by cases z⟩
      · rw [c_hasHouse_n hL hx', m_isHouse_n hL hx']; exact ⟨false, rfl, rfl, fun z => by cases z⟩
    · omega
/-- what a STEP apart may change -/
def FR (h h' : Mm) : Prop := (∀ i, i ≠ 16 → i ≠ 23 → i ≠ 24 → (i < 32 ∨ 36 < i) → h'.1 i = h.1 i) ∧ (∀ k, k ≠ 7 → h'.1 16 k = h.1 16 k) ∧ ∀ i, i ≠ 25 → h'.2 i = h.2 i
theorem FR.rf {h : Mm} : FR h h := ⟨fun _ _ _ _ _ => rfl, fun _ _ => rfl, fun _ _ => rfl⟩
theorem FR.tr {a b c : Mm} (p : FR a b) (q : FR b c) : FR a c := ⟨fun i h1 h2 h3 h4 => (q.1 i h1 h2 h3 h4).trans (p.1 i h1 h2 h3 h4), fun k hk => (q.2.1 k hk).trans (p.2.1 k hk), fun i hi => (q.2.2 i hi).trans (p.2.2 i hi)⟩
theorem FR.w {h : Mm} {i k : Nat} {v : Int32} (hi : 32 ≤ i ∧ i ≤ 36) : FR h (wI h i k v) := ⟨fun j _ _ _ h4 => w_ne (by omega), fun k _ => by rw [w_ne (by omega)], fun _ _ => rfl⟩
theorem heard_p {s y : Nat} (h1 : 1 ≤ y) (h2 : decide (s = 1) = true → 2 ≤ y) : y = if decide (s = 1) then heardI s y + 1 else heardI s y := by
  unfold heardI heard
  by_cases c : s = 1
  · have := h2 (decide_eq_true c)
    rw [decide_eq_true c, if_pos rfl, if_pos rfl]; omega
  · rw [decide_eq_false c, if_neg (by decide), if_neg (by decide)]
theorem heard_le {s y : Nat} : heardI s y ≤ y := by unfold heardI heard; split <;> omega
theorem do_step {n nl B H s x y row L : Nat} {nm be : Nat → Nat} {hd : Int32} {f : Nat → F6} {h g : Mm} (hn : 20000 ≤ n) (hL : LandR B H nm (h.1 14) (h.1 15) (g.1 251) (g.1 256) (g.1 258) (g.1 260)) (hC : LawC n nl hd f h) (hM : LawM n nl hd f g) (h0 : 0 < H)
    (hB : BedR H be (h.1 33) (h.1 34) (h.1 35) (h.1 36) (h.1 32) (g.1 265)) (eL : g.1 265 30 = zN L) (hl : L < 60) (hs : s ≤ 4) (hx : x ≤ 9) (hy : y ≤ 9) (hrow : row + 2 < 240) (e0 : g.1 262 row = zN s) (em : StM s x y (g.1 262 (row + 1)) (g.1 262 (row + 2))) (go : StGo B H nm be s x y) :
    ∃ v h' g' be' L', X9_doStep n 32 (zN (100 * s + 10 * x + y)) h = some (v, h') ∧ X12_steps n 265 (zN row) g = some (v, g') ∧ LawC n nl hd f h' ∧ LawM n nl hd f g' ∧ BedR H be' (h'.1 33) (h'.1 34) (h'.1 35) (h'.1 36) (h'.1 32) (g'.1 265) ∧ FR h h' ∧ QMr 265 g g' ∧ g'.1 265 30 = zN L' ∧ L' ≤ L + 1 := by
  have hH := hL.2.1.2.1
  have hB6 := hL.2.1.1
  have d1 : (100 * s + 10 * x + y) / 100 = s := by omega
  have d2 : (100 * s + 10 * x + y) / 10 % 10 = x := by omega
  have d3 : (100 * s + 10 * x + y) % 10 = y := by omega
  have i0 : inB (zN row) (aln 262) := by rw [al_262, zN_inB (by omega)]; omega
  have i1 : inB (zN (row + 1)) (aln 262) := by rw [al_262, zN_inB (by omega)]; omega
  have i2 : inB (zN (row + 2)) (aln 262) := by rw [al_262, zN_inB (by omega)]; omega
  have er1 : zN row + 1 = zN (row + 1) := by rw [show (1 : Int32) = zN 1 from rfl, zN_add]
  have er2 : zN row + 2 = zN (row + 2) := by rw [show (2 : Int32) = zN 2 from rfl, zN_add]
  unfold X9_doStep X12_steps X12_steps_36 X12_steps_69
  rw [c_digit1 (by omega), bp_some, c_digit2 (by omega), bp_some, c_sort (by omega), bp_some, d1, d2, d3, if_pos i0, if_pos i0, zN_ix (by omega), e0, er1, er2, if_pos i1, if_pos i1, if_pos i2, zN_ix (by omega), zN_ix (by omega)]
  obtain ⟨g1, g2, g3⟩ := go
  have rd : s ≤ 1 → ∃ h' g' be', X9_doRead n 32 (zN x) (zN y) (decide (s = 1)) h = some ((), h') ∧ X12_reads n 265 (zN x) (zN y) (decide (s = 1)) g = some ((), g') ∧ LawC n nl hd f h' ∧ LawM n nl hd f g' ∧ BedR H be' (h'.1 33) (h'.1 34) (h'.1 35) (h'.1 36) (h'.1 32) (g'.1 265) ∧ FR h h' ∧ QMr 265 g g' ∧ g'.1 265 30 = zN L := fun z => by
    obtain ⟨k1, k2, k3, k4, k5⟩ := g1 z
    have hf : be 23 < H := by have := hB.2.2.2.1.2.2; omega
    have st := (hL.2.2.2.2.2.2.2 _ hf).2.1
    have hh := heard_le (s := s) (y := y)
    obtain ⟨h', g', be', c1, m1, lc, lm, bb, -, f1, f2, f3, f4, f5, f6⟩ := read_bed (a := 32) (r := 265) (x := x) (m := heardI s y) (p := y) (sk := decide (s = 1)) hn hL hC hM (by decide) (by decide) (bedlen 32 (by decide)).1 (bedlen 32 (by decide)).2.1 (bedlen 32 (by decide)).2.2.1 al_265 (Or.inr rfl) hB k1 (by omega) (by omega) (heard_p k2 k4)
    exact ⟨h', g', be', c1, m1, lc, lm, bb, ⟨fun i i1 i2 i3 i4 => f1 i i1 i2 i3 (by omega), f2, f4⟩, f5, by rw [f6 30 (by omega)]; exact eL⟩
  obtain rfl | rfl | rfl | rfl | rfl : s = 0 ∨ s = 1 ∨ s = 2 ∨ s = 3 ∨ s = 4 := by omega
  · rcases em with ⟨-, e1, e2⟩ | ⟨z, -⟩ | ⟨z, -⟩
    · obtain ⟨h', g', be', c1, m1, c2, c3, c4, c5, c6, c7⟩ := rd (by omega)
      have c1' : X9_doRead n 32 (zN x) (zN y) false h = some ((), h') := c1
      have m1' : X12_reads n 265 (zN x) (zN y) false g = some ((), g') := m1
      rw [if_pos (show zN 0 = 0 from rfl), if_pos (show zN 0 = 0 from rfl), if_neg (show ¬ zN 0 = 1 by decide), e1, e2, c1', m1', bd_some, bd_some]
      exact ⟨0, h', g', be', L, rfl, rfl, c2, c3, c4, c5, c6, c7, by omega⟩
    · omega
    · omega
  · rcases em with ⟨-, e1, e2⟩ | ⟨z, -⟩ | ⟨z, -⟩
    · obtain ⟨h', g', be', c1, m1, c2, c3, c4, c5, c6, c7⟩ := rd (by omega)
      have c1' : X9_doRead n 32 (zN x) (zN y) true h = some ((), h') := c1
      have m1' : X12_reads n 265 (zN x) (zN y) true g = some ((), g') := m1
      rw [if_neg (show ¬ zN 1 = 0 by decide), if_neg (show ¬ zN 1 = 0 by decide), if_pos (show zN 1 = 1 from rfl), if_pos (show zN 1 = 1 from rfl), if_pos (show zN 1 = 1 from rfl), e1, e2, c1', m1', bd_some, bd_some]
      exact ⟨0, h', g', be', L, rfl, rfl, c2, c3, c4, c5, c6, c7, by omega⟩
    · omega
    · omega
  · rw [if_neg (show ¬ zN 2 = 0 by decide), if_neg (show ¬ zN 2 = 0 by decide), if_neg (show ¬ zN 2 = 1 by decide), if_neg (show ¬ zN 2 = 1 by decide), if_pos (show zN 2 = 2 from rfl), if_pos (show zN 2 = 2 from rfl)]
    obtain ⟨v, hv, k1, k2⟩ := drink_both (a := 32) (r := 265) hB hH al_265
    rw [k1, k2, bd_some, bd_some]
    refine ⟨0, _, _, uN (uN be 22 v) 25 1, L, rfl, rfl, (hC.w246 (by decide)).w246 (by decide), (hM.w265 (by omega)).w265 (by omega), ?_, (FR.w (by decide)).tr (FR.w (by decide)), (QMr.w (by decide)).tr (QMr.w (by decide)), by rw [w_eq, u_ne (by decide), w_eq, u_ne (by decide)]; exact eL, by omega⟩
    have z := hB.drink hH v hv
    simp (disch := omega) only [w_ne, w_eq]; exact z
  · rw [if_neg (show ¬ zN 3 = 0 by decide), if_neg (show ¬ zN 3 = 0 by decide), if_neg (show ¬ zN 3 = 1 by decide), if_neg (show ¬ zN 3 = 1 by decide), if_neg (show ¬ zN 3 = 2 by decide), if_neg (show ¬ zN 3 = 2 by decide), if_pos (show zN 3 = 3 from rfl), if_pos (show zN 3 = 3 from rfl)]
    obtain ⟨h', g', c1, m1, b1, f1, f2, f3, f4, f5, m7, -⟩ := pass_bed (a := 32) (r := 265) hL hn (by decide) (by decide) (bedlen 32 (by decide)).1 (bedlen 32 (by decide)).2.1 (bedlen 32 (by decide)).2.2.2 al_265 (by decide) hB h0 (g2 rfl) eL (by omega)
    rw [c1, m1, bd_some, bd_some]
    refine ⟨_, h', g', _, L + 1, rfl, rfl, ?_, ?_, b1, ⟨fun i i1 i2 i3 i4 => f1 i (by omega), fun k _ => by rw [f1 16 (by omega)], fun i _ => by rw [f2]⟩, ⟨fun i _ _ _ i4 => f4 i i4, fun k _ => by rw [f4 251 (by decide)], fun i _ => by rw [f5]⟩, (m7 hl).1, by omega⟩
    · exact hC.cg (by rw [f1 16 (by omega)]) (by rw [f1 16 (by omega)]) (fun i h1 h2 => f1 i (by omega)) (by rw [f2])
    · exact hM.cg (by rw [f4 251 (by decide)]) (by rw [f4 251 (by decide)]) (f4 253 (by decide)) (f4 254 (by decide)) (by rw [f5]) (f4 267 (by decide))
  · rcases em with ⟨z, -⟩ | ⟨-, e1, -⟩ | ⟨z, -⟩
    · omega
    · have i23 : inB (23 : Int32) (aln 265) := by rw [al_265]; decide
      have t23 : (23 : Int32).toNatClampNeg = 23 := by decide
      have i26 : inB (26 : Int32) (aln 265) := by rw [al_265]; decide
      have t26 : (26 : Int32).toNatClampNeg = 26 := by decide
      rw [if_neg (show ¬ zN 4 = 0 by decide), if_neg (show ¬ zN 4 = 0 by decide), if_neg (show ¬ zN 4 = 1 by decide), if_neg (show ¬ zN 4 = 1 by decide), if_neg (show ¬ zN 4 = 2 by decide), if_neg (show ¬ zN 4 = 2 by decide), if_neg (show ¬ zN 4 = 3 by decide), if_neg (show ¬ zN 4 = 3 by decide), e1, if_pos i23, t23, if_pos i26, t26]
      unfold X9_go
      rw [bd_some]
      refine ⟨0, _, _, uN (uN be 23 x) 26 1, L, rfl, rfl, (hC.w246 (by decide)).w246 (by decide), (hM.w265 (by omega)).w265 (by omega), ?_, (FR.w (by decide)).tr (FR.w (by decide)), (QMr.w (by decide)).tr (QMr.w (by decide)), by rw [w_eq, u_ne (by decide), w_eq, u_ne (by decide)]; exact eL, by omega⟩
      have z := hB.goes hH x (g3 rfl)
      simp (disch := omega) only [w_ne, w_eq]; exact z
    · omega
/-! a WEEK tried -/
theorem run_loop {n nl B H nw j z : Nat} {nm : Nat → Nat} {hd : Int32} {f : Nat → F6} {h0 g0 : Mm} (hn : 20000 ≤ n) (hL : LandR B H nm (h0.1 14) (h0.1 15) (g0.1 251) (g0.1 256) (g0.1 258) (g0.1 260)) (hp : 0 < H) (w2 : h0.1 9 5 = zN nw) (w1 : nw ≤ 4) (hj : j < nw) (z2 : z ≤ 16) (z3 : h0.1 12 j = zN z) (z4 : g0.1 263 j = zN z)
    (z5 : ∀ i, i < z → stepOK (h0.1 11 (16 * j + i)) (g0.1 262 (3 * (16 * j + i))) (g0.1 262 (3 * (16 * j + i) + 1)) (g0.1 262 (3 * (16 * j + i) + 2))) (w : Nat) (hw : w ≤ 1) : ∀ (d q q' i : Nat) (sm : Int32) (be : Nat → Nat) (L : Nat) (h g : Mm), i + d = z → d + 1 < q → d < q' → LawC n nl hd f h → LawM n nl hd f g → FR h0 h → QMr 265 g0 g → BedR H be (h.1 33) (h.1 34) (h.1 35) (h.1 36) (h.1 32) (g.1 265) → g.1 265 30 = zN L → L ≤ i →
    ∃ r h' g', X11_run_63 n q (zN j) (zN w) (zN z) sm (-1) (zN i) h = some (r, h') ∧ X12_run_50 n q' (zN j) (zN w) (zN i) sm g = some (r, g') ∧ LawC n nl hd f h' ∧ LawM n nl hd f g' ∧ FR h0 h' ∧ QMr 265 g0 g' := by
  have ij : inB (zN j) (aln 263) := by rw [al_263, zN_inB (by omega)]; omega
  have s16 : ∀ i : Nat, (3 : Int32) * ((16 : Int32) * zN j + zN i) = zN (3 * (16 * j + i)) := fun i => by simp only [zN_lit, zN_mul, zN_add]
  intro d
  induction d with
  | zero =>
    intro q q' i sm be L h g hi hq hq' hC hM fc fm hB eL hl
    obtain ⟨q, rfl⟩ : ∃ m, q = m + 1 := ⟨q - 1, by omega⟩
    obtain ⟨q', rfl⟩ : ∃ m, q' = m + 1 := ⟨q' - 1, by omega⟩
    have ez : g.1 263 j = zN z := by rw [fm.1 263 (by decide) (by decide) (by decide) (by decide)]; exact z4
    unfold X11_run_63 X12_run_50 X11_run_134 X12_run_106
    rw [if_pos ij, zN_ix (by omega), ez, if_pos (show zN z ≤ zN i from (zN_le (by omega) (by omega)).mpr (by omega)), if_pos (show zN z ≤ zN i from (zN_le (by omega) (by omega)).mpr (by omega)), if_pos ij, if_pos (show zN i = zN z from congrArg zN (by omega))]
    obtain rfl | rfl : w = 0 ∨ w = 1 := by omega
    · exact ⟨_, h, g, rfl, rfl, hC, hM, fc, fm⟩
    · exact ⟨_, h, g, rfl, rfl, hC, hM, fc, fm⟩
  | succ d ih =>
    intro q q' i sm be L h g hi hq hq' hC hM fc fm hB eL hl
    obtain ⟨q, rfl⟩ : ∃ m, q = m + 1 := ⟨q - 1, by omega⟩
    obtain ⟨q', rfl⟩ : ∃ m, q' = m + 1 := ⟨q' - 1, by omega⟩
    have ez : g.1 263 j = zN z := by rw [fm.1 263 (by decide) (by decide) (by decide) (by decide)]; exact z4
    have e262 : g.1 262 = g0.1 262 := fm.1 262 (by decide) (by decide) (by decide) (by decide)
    have hL' : LandR B H nm (h.1 14) (h.1 15) (g.1 251) (g.1 256) (g.1 258) (g.1 260) := QMr.land (hL.cc (fc.1 14 (by decide) (by decide) (by decide) (by omega)) (fc.1 15 (by decide) (by decide) (by decide) (by omega))) fm (by decide)
    obtain ⟨s, a, b, s1, s2, s3, s4, s5, s6⟩ := z5 i (by omega)
    obtain ⟨ok, c1, c2, c3⟩ := can_step (a := 32) (r := 265) (row := 3 * (16 * j + i)) hL' hp (by decide) (bedlen 32 (by decide)).2.1 al_265 hB s1 s2 s3 (by omega) (by rw [e262]; exact s5) (by rw [e262]; exact s6)
    have eo : X10_stepOf (zN j) (zN i) h = some (zN (100 * s + 10 * a + b)) := by
      rw [c_stepOf (nw := nw) (z := z) (by rw [fc.1 9 (by decide) (by decide) (by decide) (by omega)]; exact w2) w1 hj (by rw [fc.1 12 (by decide) (by decide) (by decide) (by omega)]; exact z3) z2 (show i < z by omega), fc.1 11 (by decide) (by decide) (by decide) (by omega), s4]
    unfold X12_run_50
    rw [X11_run_63, if_pos ij, zN_ix (by omega), ez, if_neg (show ¬ zN z ≤ zN i by rw [zN_le (by omega) (by omega)]; omega), if_neg (show ¬ zN z ≤ zN i by rw [zN_le (by omega) (by omega)]; omega), if_pos rfl, eo, bp_some, c1, bp_some, s16, c2, bp_some]
    cases ok with
    | true =>
      obtain ⟨v, h', g', be', L', k1, k2, k3, k4, k5, k6, k7, k8, k9⟩ := do_step (row := 3 * (16 * j + i)) hn hL' hC hM hp hB eL (by omega) s1 s2 s3 (by omega) (by rw [e262]; exact s5) (by rw [e262]; exact s6) (c3 rfl)
      rw [if_pos rfl, if_pos rfl, k1, bd_some, k2, bd_some]
      unfold X11_run_128
      rw [sN1]
      exact ih q q' (i + 1) _ be' L' h' g' (by omega) (by omega) (by omega) k3 k4 (fc.tr k6) (fm.tr k7) k5 k8 (by omega)
    | false =>
      rw [if_neg (show ¬ (false = true) by decide), if_neg (show ¬ (false = true) by decide)]
      unfold X11_run_128 X12_run_106
      obtain ⟨q, rfl⟩ : ∃ m, q = m + 1 := ⟨q - 1, by omega⟩
      rw [X11_run_63, if_pos ij, zN_ix (by omega), ez, if_neg (show ¬ zN i = zN z by rw [zN_eq (by omega) (by omega)]; omega), if_neg (show ¬ zN i = -1 from zN_nm1 (by omega))]
      unfold X11_run_134
      obtain rfl | rfl : w = 0 ∨ w = 1 := by omega
      · refine ⟨zN i, h, g, ?_, rfl, hC, hM, fc, fm⟩
        rw [if_pos (show zN 0 = 0 from rfl), ite_self]
      · refine ⟨sm, h, g, ?_, rfl, hC, hM, fc, fm⟩
        rw [if_neg (show ¬ zN 1 = 0 by decide), ite_self]
theorem sim_run (n : Nat) (hn : 20000 ≤ n) : Sim_run n (R n) := by
  intro x1 x2 h g hR
  have hR0 := hR.thr 0
  obtain ⟨B, H, nm, A, nx, E, nw, sn, s, tp, nl, hd, f, hR1⟩ := id hR0
  have hQ : RW n B H nm A nx E nw sn s tp nl hd f h (wI g 251 0 0) := hR1
  unfold X11_run X12_run X11_run_30 X12_run_30
  generalize wI g 251 0 (0 : Int32) = g0 at *
  obtain ⟨hL, ⟨pp, pE, ⟨be, hB, hn1, hn2, hlog⟩, pS⟩, hI, hW, hS, hT, hC, hM, hu⟩ := id hQ
  have hH := hL.2.1.2.1
  obtain ⟨⟨w1, w2, w3⟩, w4⟩ := id hW
  rw [c_stands hL, bp_some, hL.1.2.2.2]
  rcases idx x1 nw with ⟨j, hj, rfl⟩ | hx
  · rw [c_hasWeek_y w2 w1 hj, m_isWeek_y w3 w1 hj, bp_some, bp_some, if_pos rfl, if_pos rfl]
    by_cases c : H = 0
    · subst c; exact ⟨_, _, _, rfl, rfl, hR0⟩
    · rw [decide_eq_true (show 0 < H by omega), if_pos rfl, if_neg (show ¬ zN H = 0 by rw [zN_lit, zN_eq (by omega) (by decide)]; exact c)]
      rcases what x2 1 (by decide) with ⟨w, hw, rfl⟩ | ⟨hx, -⟩
      · rw [m_in (m := 1) (L := 0) (U := 1) (by decide) ⟨w, hw, rfl⟩ rfl rfl, bp_some, if_pos rfl, if_neg (show ¬ zN w < 0 from zN_neg0 (by omega)), if_pos (show zN w ≤ 1 from (zN_le (b := 1) (by omega) (by decide)).mpr hw)]
        obtain ⟨z, z1, z2, z3, z4, z5⟩ := w4 j hj
        have bits := hQ.2.1.2.2.1.bit
        obtain ⟨h1, c1, c2, c3, c4, c5, c6, c7, c8⟩ := c_copyFrom (a0 := 32) (a1 := 27) (h := h) (by decide) (by decide) (by omega) bits.1 bits.2
        obtain ⟨g1, m1, m2, m3, m4, -, m6⟩ := m_copy2 (n := n) 30 n 0 g0 (by omega) (by omega)
        have m1' : X12_copy n 264 265 g0 = some ((), g1) := m1
        rw [c1, bd_some, m1', bd_some]
        unfold X10_sizeOf
        rw [at_12 (by omega), c2 12 (by omega), z3, bp_some]
        have hB1 : BedR H be (h1.1 33) (h1.1 34) (h1.1 35) (h1.1 36) (h1.1 32) (g1.1 265) := hB.cg hH c3 c4 c5 c6 c7 (fun k hk => m4 k (by omega) hk)
        obtain ⟨r, h', g', r1, r2, r3, r4, r5, r6⟩ := run_loop (h0 := h) (g0 := g0) hn hL (show 0 < H by omega) w2 w1 hj z2 z3 z4 z5 w hw z n n 0 0 be 0 h1 g1 (by omega) (by omega) (by omega) (hC.cg (by rw [c2 16 (by omega)]) (by rw [c2 16 (by omega)]) (fun i h1 h2 => c2 i (by omega)) (by rw [c8])) (hM.cg (by rw [m2 251 (by decide)]) (by rw [m2 251 (by decide)]) (m2 253 (by decide)) (m2 254 (by decide)) (by rw [m3]) (m2 267 (by decide))) ⟨fun i _ _ _ i4 => c2 i (by omega), fun k _ => by rw [c2 16 (by omega)], fun i _ => by rw [c8]⟩ ⟨fun i _ _ _ i4 => m2 i i4, fun k _ => by rw [m2 251 (by decide)], fun i _ => by rw [m3]⟩ hB1 m6 (by omega)
        refine ⟨r, h', g', r1, r2, (hQ.now (fun i k z y => ?_) (r6.agt (Or.inr rfl)) ?_ r3 r4).r⟩
        · by_cases k16 : i = 16
          · subst k16; exact r5.2.1 k (fun e => by subst e; revert z; decide)
          · by_cases k23 : i = 23
            · subst k23; exact absurd (show false = true from z) (by decide)
            · by_cases k24 : i = 24
              · subst k24; exact absurd (show false = true from z) (by decide)
              · by_cases k32 : i < 32 ∨ 36 < i
                · rw [r5.1 i k16 k23 k24 k32]
                · obtain rfl | rfl | rfl | rfl | rfl : i = 32 ∨ i = 33 ∨ i = 34 ∨ i = 35 ∨ i = 36 := by omega
                  all_goals exact absurd (show false = true from z) (by decide)
        · exact hQ.2.1.2.2.1.ag (fun i h1 h2 => r5.1 i (by omega) (by omega) (by omega) (by omega)) (r5.1 39 (by decide) (by decide) (by decide) (by omega)) (r6.1 264 (by decide) (by decide) (by decide) (by decide))
      · rw [m_out (m := 1) (L := 0) (U := 1) hx rfl rfl]
        refine ⟨-1000000, h, g0, ?_, rfl, hR0⟩
        exact ifout (m := 1) hx
  · rw [c_hasWeek_n w2 w1 hx, m_isWeek_n w3 w1 hx]
    refine ⟨-1000000, h, g0, ?_, rfl, hR0⟩
    by_cases z : decide (0 < H) = true
    · rw [if_pos z]; rfl
    · rw [if_neg z]
