/-! rests -/
def rsB (en : Nat → Nat → Bool) (i j : Nat) : Nat → Nat → Bool
  | 0, _ => true
  | d + 1, k => if gnI (en k j) k j ≤ gnI (en i j) i j ∧ gnI (en i k) k i ≤ gnI (en i j) j i then rsB en i j d (k + 1) else false
theorem rsB_s (en : Nat → Nat → Bool) (i j d k : Nat) : rsB en i j (d + 1) k = if gnI (en k j) k j ≤ gnI (en i j) i j ∧ gnI (en i k) k i ≤ gnI (en i j) j i then rsB en i j d (k + 1) else false := by exact Eq.trans rfl rfl
theorem sN1 (k : Nat) : zN k + 1 = zN (k + 1) := by rw [show (1 : Int32) = zN 1 from rfl, zN_add]
def TabC (en : Nat → Nat → Bool) (P : Nat) (w : Nat → Int32) : Prop := ∀ i j, i ≤ P → j ≤ P → w (10 * i + j) = b2i (en i j)
theorem c_isEn {en : Nat → Nat → Bool} {P i j : Nat} {h : Mm} (t : TabC en P (h.1 248)) (hP : P ≤ 9) (hi : i ≤ P) (hj : j ≤ P) : X6_isEnough (zN i) (zN j) h = some (en i j) := by
  unfold X6_isEnough
  rw [show (10 : Int32) = zN 10 from rfl, zN_mul, zN_add, at_248 (by omega), bp_some, Nat.mul_comm i 10, t i j hi hj]
  cases en i j <;> rfl
theorem c_rest29 {n : Nat} {en : Nat → Nat → Bool} {P i j : Nat} {h : Mm} (t : TabC en P (h.1 248)) (hP : P ≤ 9) (hi : i ≤ P) (hj : j ≤ P) : ∀ (d q k : Nat), k + d = P + 1 → d < q → X6_isRest_29 n q (zN i) (zN j) (zN P) (zI (gnI (en i j) i j)) (zI (gnI (en i j) j i)) (zN k) h = some (rsB en i j d k) := by
  intro d
  induction d with
  | zero =>
    intro q k hk hq
    obtain ⟨q, rfl⟩ : ∃ m, q = m + 1 := ⟨q - 1, by omega⟩
    unfold X6_isRest_29
    rw [if_pos ((zN_lt (by omega) (by omega)).mpr (by omega))]; rfl
  | succ d ih =>
    intro q k hk hq
    obtain ⟨q, rfl⟩ : ∃ m, q = m + 1 := ⟨q - 1, by omega⟩
    have r1 := gnI_rng (en k j) (x := k) j (by omega)
    have r2 := gnI_rng (en i j) (x := i) j (by omega)
    have r3 := gnI_rng (en i k) (x := k) i (by omega)
    have r4 := gnI_rng (en i j) (x := j) i (by omega)
    have f58 : ∀ s0, X6_isRest_58 n (X6_isRest_29 n q) (zN i) (zN j) (zN P) (zI (gnI (en i j) i j)) (zI (gnI (en i j) j i)) (zN k) s0 h = (if s0 = false ∧ gnI (en i k) k i ≤ gnI (en i j) j i then some (rsB en i j d (k + 1)) else some false) := fun s0 => by
      unfold X6_isRest_58 X6_isRest_83
      rw [c_isEn t hP hi (show k ≤ P by omega), bp_some, c_gain (by omega) (by omega), bp_some, sN1, ih q (k + 1) (by omega) (by omega)]
      by_cases c2 : gnI (en i k) k i ≤ gnI (en i j) j i
      · rw [if_pos ((zI_le (by omega) (by omega) (by omega) (by omega)).mpr c2)]
        cases s0 with
        | false => rw [if_neg (show ¬ (false = true) by decide), if_neg (show ¬ (false = true) by decide), if_pos ⟨rfl, c2⟩]
        | true => rw [if_pos rfl, if_neg (fun z => by cases z.1)]
      · rw [if_neg (show ¬ zI (gnI (en i k) k i) ≤ zI (gnI (en i j) j i) by rw [zI_le (by omega) (by omega) (by omega) (by omega)]; exact c2), if_neg (show ¬ (s0 = false ∧ gnI (en i k) k i ≤ gnI (en i j) j i) from fun z => c2 z.2)]
        cases s0 <;> rfl
    rw [X6_isRest_29, if_neg (by rw [zN_lt (by omega) (by omega)]; omega), c_isEn t hP (show k ≤ P by omega) hj, bp_some, c_gain (by omega) (by omega), bp_some, f58, f58, rsB_s]
    by_cases c1 : gnI (en k j) k j ≤ gnI (en i j) i j
    · rw [if_pos ((zI_le (by omega) (by omega) (by omega) (by omega)).mpr c1)]
      by_cases c2 : gnI (en i k) k i ≤ gnI (en i j) j i
      · rw [if_pos (show false = false ∧ gnI (en i k) k i ≤ gnI (en i j) j i from ⟨rfl, c2⟩), if_pos (show gnI (en k j) k j ≤ gnI (en i j) i j ∧ gnI (en i k) k i ≤ gnI (en i j) j i from ⟨c1, c2⟩)]
      · rw [if_neg (show ¬ (false = false ∧ gnI (en i k) k i ≤ gnI (en i j) j i) from fun z => c2 z.2), if_neg (show ¬ (gnI (en k j) k j ≤ gnI (en i j) i j ∧ gnI (en i k) k i ≤ gnI (en i j) j i) from fun z => c2 z.2)]
    · rw [if_neg (show ¬ zI (gnI (en k j) k j) ≤ zI (gnI (en i j) i j) by rw [zI_le (by omega) (by omega) (by omega) (by omega)]; exact c1), if_neg (show ¬ (gnI (en k j) k j ≤ gnI (en i j) i j ∧ gnI (en i k) k i ≤ gnI (en i j) j i) from fun z => c1 z.1), if_neg (show ¬ (true = false ∧ gnI (en i k) k i ≤ gnI (en i j) j i) from fun z => by cases z.1)]
theorem c_isRest {n : Nat} {en : Nat → Nat → Bool} {P i j : Nat} {h : Mm} (hn : 20000 ≤ n) (t : TabC en P (h.1 248)) (hP : P ≤ 9) (hi : i ≤ P) (hj : j ≤ P) : X6_isRest n (zN i) (zN j) (zN P) h = some (rsB en i j (P + 1) 0) := by
  unfold X6_isRest
  rw [c_isEn t hP hi hj, bp_some, c_gain (by omega) (by omega), bp_some, bp_some, c_gain (by omega) (by omega), bp_some]
  exact c_rest29 t hP hi hj (P + 1) n 0 (by omega) (by omega)
def TabM (en : Nat → Nat → Bool) (P : Nat) (w : Nat → Int32) : Prop := ∀ i j, i ≤ P → j ≤ P → w (2 * ((P + 1) * i + j)) = zI (gnI (en i j) i j) ∧ w (2 * ((P + 1) * i + j) + 1) = zI (gnI (en i j) j i)
theorem ixP {P i j : Nat} (hP : P ≤ 9) (hi : i ≤ P) (hj : j ≤ P) : 2 * ((P + 1) * i + j) + 1 < 200 := by
  have : (P + 1) * i ≤ 10 * 9 := Nat.mul_le_mul (by omega) (by omega)
  omega
theorem m_rest114 {n : Nat} {en : Nat → Nat → Bool} {P i j : Nat} {g : Mm} {x4 : Int32} {c : Nat} (t : TabM en P (g.1 271)) (hP : P ≤ 9) (hi : i ≤ P) (hj : j ≤ P) (K91 : Int32 → Int32 → Int32 → Int32 → Mm → Option (Int32 × Mm)) (K101 : Int32 → Int32 → Int32 → Int32 → Int32 → Mm → Option (Int32 × Mm)) : ∀ (d q k : Nat) (b : Bool), k + d = P + 1 → d < q → X12_rests_114 n K91 K101 q x4 (zN (P + 1)) (zN c) (zN i) (zN j) b (zN k) g = (if (b && rsB en i j d k) = true then (if zN c = x4 then some (zN (10 * i + j), g) else K101 x4 (zN (P + 1)) (zN (c + 1)) (zN i) (zN (j + 1)) g) else K101 x4 (zN (P + 1)) (zN c) (zN i) (zN (j + 1)) g) := by
  intro d
  induction d with
  | zero =>
    intro q k b hk hq
    obtain ⟨q, rfl⟩ : ∃ m, q = m + 1 := ⟨q - 1, by omega⟩
    unfold X12_rests_114 X12_rests_236
    rw [if_pos ((zN_le (by omega) (by omega)).mpr (by omega)), sN1, sN1, show (10 : Int32) = zN 10 from rfl, zN_mul, zN_add]
    cases b <;> rfl
  | succ d ih =>
    intro q k b hk hq
    obtain ⟨q, rfl⟩ : ∃ m, q = m + 1 := ⟨q - 1, by omega⟩
    have r1 := gnI_rng (en k j) (x := k) j (by omega)
    have r2 := gnI_rng (en i j) (x := i) j (by omega)
    have r3 := gnI_rng (en i k) (x := k) i (by omega)
    have r4 := gnI_rng (en i j) (x := j) i (by omega)
    have hk' : k ≤ P := by omega
    have z1 := ixP hP hk' hj
    have z2 := ixP hP hi hj
    have z3 := ixP hP hi hk'
    unfold X12_rests_114 X12_rests_200 X12_rests_201
    rw [if_neg (by rw [zN_le (by omega) (by omega)]; omega), show (1 : Int32) = zN 1 from rfl, show (2 : Int32) = zN 2 from rfl]
    simp only [zN_mul, zN_add, al_271]
    rw [ih q (k + 1) true (by omega) (by omega), ih q (k + 1) false (by omega) (by omega)]
    cases b with
    | false => rw [if_neg (show ¬ (false = true) by decide)]; rfl
    | true =>
      rw [if_pos rfl, if_pos ((zN_inB (by omega)).mpr (by omega)), if_pos ((zN_inB (by omega)).mpr (by omega)), if_pos ((zN_inB (by omega)).mpr (by omega)), if_pos ((zN_inB (by omega)).mpr (by omega)), zN_ix (by omega), zN_ix (by omega), zN_ix (by omega), zN_ix (by omega), (t k j hk' hj).1, (t i j hi hj).1, (t i j hi hj).2, (t i k hi hk').2]
      rw [rsB_s]
      by_cases c1 : gnI (en k j) k j ≤ gnI (en i j) i j
      · rw [if_neg (by rw [zI_lt (by omega) (by omega) (by omega) (by omega)]; omega)]
        by_cases c2 : gnI (en i k) k i ≤ gnI (en i j) j i
        · rw [if_neg (by rw [zI_lt (by omega) (by omega) (by omega) (by omega)]; omega)]
          simp only [if_pos (show gnI (en k j) k j ≤ gnI (en i j) i j ∧ gnI (en i k) k i ≤ gnI (en i j) j i from ⟨c1, c2⟩)]
        · rw [if_pos ((zI_lt (by omega) (by omega) (by omega) (by omega)).mpr (by omega))]
          simp only [if_neg (show ¬ (gnI (en k j) k j ≤ gnI (en i j) i j ∧ gnI (en i k) k i ≤ gnI (en i j) j i) from fun z => c2 z.2)]
          rfl
      · rw [if_pos ((zI_lt (by omega) (by omega) (by omega) (by omega)).mpr (by omega))]
        simp only [if_neg (show ¬ (gnI (en k j) k j ≤ gnI (en i j) i j ∧ gnI (en i k) k i ≤ gnI (en i j) j i) from fun z => c1 z.1)]
        rfl
theorem rests_in {n : Nat} {en : Nat → Nat → Bool} {P i : Nat} {h g : Mm} {x4 : Int32} (hn : 20000 ≤ n) (tc : TabC en P (h.1 248)) (tm : TabM en P (g.1 271)) (hP : P ≤ 9) (hi : i ≤ P) (K82 K91 : Int32 → Int32 → Int32 → Int32 → Mm → Option (Int32 × Mm)) : ∀ (d q q' j c : Nat), j + d = P + 1 → d < q → d < q' →
    (∃ r, X6_restsOf_92 n K82 q x4 (zN P) (zN c) (zN i) (zN j) h = some (r, h) ∧ X12_rests_101 n K91 q' x4 (zN (P + 1)) (zN c) (zN i) (zN j) g = some (r, g)) ∨ ∃ c', X6_restsOf_92 n K82 q x4 (zN P) (zN c) (zN i) (zN j) h = K82 x4 (zN P) (zN c') (zN (i + 1)) h ∧ X12_rests_101 n K91 q' x4 (zN (P + 1)) (zN c) (zN i) (zN j) g = K91 x4 (zN (P + 1)) (zN c') (zN (i + 1)) g := by
  intro d
  induction d with
  | zero =>
    intro q q' j c hj hq hq'
    obtain ⟨q, rfl⟩ : ∃ m, q = m + 1 := ⟨q - 1, by omega⟩
    obtain ⟨q', rfl⟩ : ∃ m, q' = m + 1 := ⟨q' - 1, by omega⟩
    right
    unfold X6_restsOf_92 X12_rests_101
    rw [if_pos ((zN_lt (by omega) (by omega)).mpr (by omega)), if_pos ((zN_le (by omega) (by omega)).mpr (by omega)), sN1]
    exact ⟨c, rfl, rfl⟩
  | succ d ih =>
    intro q q' j c hj hq hq'
    obtain ⟨q, rfl⟩ : ∃ m, q = m + 1 := ⟨q - 1, by omega⟩
    obtain ⟨q', rfl⟩ : ∃ m, q' = m + 1 := ⟨q' - 1, by omega⟩
    unfold X6_restsOf_92 X12_rests_101 X6_restsOf_131
    have e1 := m_rest114 (n := n) (x4 := x4) (c := c) tm hP hi (show j ≤ P by omega) K91 (X12_rests_101 n K91 q') (P + 1) n 0 true (by omega) (by omega)
    have e1' : X12_rests_114 n K91 (X12_rests_101 n K91 q') n x4 (zN (P + 1)) (zN c) (zN i) (zN j) true 0 g = _ := e1
    rw [if_neg (show ¬ zN P < zN j by rw [zN_lt (by omega) (by omega)]; omega), if_neg (show ¬ zN (P + 1) ≤ zN j by rw [zN_le (by omega) (by omega)]; omega), c_isRest hn tc hP hi (show j ≤ P by omega), bp_some, e1', Bool.true_and, sN1, sN1, show (10 : Int32) = zN 10 from rfl, zN_mul, zN_add, Nat.mul_comm i 10]
    by_cases z : rsB en i j (P + 1) 0 = true
    · rw [if_pos z, if_pos z]
      by_cases w : zN c = x4
      · rw [if_pos w, if_pos w]; exact Or.inl ⟨_, rfl, rfl⟩
      · rw [if_neg w, if_neg w]; exact ih q q' (j + 1) (c + 1) (by omega) (by omega) (by omega)
    · rw [if_neg z, if_neg z]; exact ih q q' (j + 1) c (by omega) (by omega) (by omega)
theorem rests_out {n : Nat} {en : Nat → Nat → Bool} {P : Nat} {h g : Mm} {x4 : Int32} (hn : 20000 ≤ n) (tc : TabC en P (h.1 248)) (tm : TabM en P (g.1 271)) (hP : P ≤ 9) : ∀ (d q q' i c : Nat), i + d = P + 1 → d < q → d < q' → ∃ r, X6_restsOf_82 n q x4 (zN P) (zN c) (zN i) h = some (r, h) ∧ X12_rests_91 n q' x4 (zN (P + 1)) (zN c) (zN i) g = some (r, g) := by
  intro d
  induction d with
  | zero =>
    intro q q' i c hi hq hq'
    obtain ⟨q, rfl⟩ : ∃ m, q = m + 1 := ⟨q - 1, by omega⟩
    obtain ⟨q', rfl⟩ : ∃ m, q' = m + 1 := ⟨q' - 1, by omega⟩
    unfold X6_restsOf_82 X12_rests_91
    rw [if_pos ((zN_lt (by omega) (by omega)).mpr (by omega)), if_pos ((zN_le (by omega) (by omega)).mpr (by omega))]
    by_cases z : x4 = -1
    · rw [if_pos z, if_pos z]; exact ⟨_, rfl, rfl⟩
    · rw [if_neg z, if_neg z]; exact ⟨_, rfl, rfl⟩
  | succ d ih =>
    intro q q' i c hi hq hq'
    obtain ⟨q, rfl⟩ : ∃ m, q = m + 1 := ⟨q - 1, by omega⟩
    obtain ⟨q', rfl⟩ : ∃ m, q' = m + 1 := ⟨q' - 1, by omega⟩
    unfold X6_restsOf_82 X12_rests_91
    rw [if_neg (by rw [zN_lt (by omega) (by omega)]; omega), if_neg (by rw [zN_le (by omega) (by omega)]; omega)]
    rcases rests_in (x4 := x4) hn tc tm hP (show i ≤ P by omega) (X6_restsOf_82 n q) (X12_rests_91 n q') (P + 1) n n 0 c (by omega) (by omega) (by omega) with ⟨r, e1, e2⟩ | ⟨c', e1, e2⟩
    · exact ⟨r, e1, e2⟩
    · have e1' : X6_restsOf_92 n (X6_restsOf_82 n q) n x4 (zN P) (zN c) (zN i) 0 h = _ := e1
      have e2' : X12_rests_101 n (X12_rests_91 n q') n x4 (zN (P + 1)) (zN c) (zN i) 0 g = _ := e2
      rw [e1', e2']
      exact ih q q' (i + 1) c' (by omega) (by omega) (by omega)

theorem c_fill23 {n B H : Nat} {nm : Nat → Nat} {nl : Nat} {hd : Int32} {f : Nat → F6} {be : Nat → Nat} {h0 g0 : Mm} (x : CX n B H nm nl hd f be h0 g0) {a o b : Nat} (ha : a < H) (ho : o < H) (hb : b < B) (x4 : Int32) {i : Nat} (hi : i ≤ nm (3 + 3 * b)) (K : Int32 → Int32 → Int32 → Int32 → Int32 → Int32 → Mm → Option (Int32 × Mm)) : ∀ (d q k : Nat) (h : Mm), k + d = nm (3 + 3 * b) + 1 → d < q → KC n nl hd f h0 h → ∃ h', X6_restsOf_23 n K q (zN a) (zN o) (zN b) x4 (zN (nm (3 + 3 * b))) (zN i) (zN k) h = K (zN a) (zN o) (zN b) x4 (zN (nm (3 + 3 * b))) (zN (i + 1)) h' ∧ KC n nl hd f h0 h' ∧ (∀ j, k ≤ j → j ≤ nm (3 + 3 * b) → h'.1 248 (10 * i + j) = b2i (enB nm hd f be a o b i j)) ∧ (∀ j, (j < 10 * i + k ∨ 10 * i + 9 < j) → h'.1 248 j = h.1 248 j) := by
  have pg := x.2.1.2.2.2.2.2.2.1 b hb
  intro d
  induction d with
  | zero =>
    intro q k h hk hq kc
    obtain ⟨q, rfl⟩ : ∃ m, q = m + 1 := ⟨q - 1, by omega⟩
    unfold X6_restsOf_23
    rw [if_pos ((zN_lt (by omega) (by omega)).mpr (by omega)), sN1]
    exact ⟨h, rfl, kc, fun j h1 h2 => by omega, fun j _ => rfl⟩
  | succ d ih =>
    intro q k h hk hq kc
    obtain ⟨q, rfl⟩ : ∃ m, q = m + 1 := ⟨q - 1, by omega⟩
    obtain ⟨h1, e1, e2, e3⟩ := c_enBeh x ha ho hb (i := i) (j := k) kc (by omega) (by omega)
    have key : X6_restsOf_23 n K (q + 1) (zN a) (zN o) (zN b) x4 (zN (nm (3 + 3 * b))) (zN i) (zN k) h = X6_restsOf_23 n K q (zN a) (zN o) (zN b) x4 (zN (nm (3 + 3 * b))) (zN i) (zN (k + 1)) (wI h1 248 (10 * i + k) (b2i (enB nm hd f be a o b i k))) := by
      rw [X6_restsOf_23]
      unfold X6_restsOf_61
      rw [if_neg (by rw [zN_lt (by omega) (by omega)]; omega), e1, bd_some, show (10 : Int32) = zN 10 from rfl, zN_mul, zN_add, pu_248 (by omega), pu_248 (by omega), bd_some, bd_some, sN1, Nat.mul_comm i 10]
      cases enB nm hd f be a o b i k <;> rfl
    rw [key]
    obtain ⟨h2, r1, r2, r3, r4⟩ := ih q (k + 1) _ (by omega) (by omega) (e2.w (i := 248) (k := 10 * i + k) (v := b2i (enB nm hd f be a o b i k)) (by omega))
    refine ⟨h2, r1, r2, fun j h3 h4 => ?_, fun j hj => by rw [r4 j (by omega), w_eq, u_ne (by omega), e3]⟩
    by_cases c : j = k
    · subst c; rw [r4 _ (by omega), w_eq, u_eq]
    · exact r3 j (by omega) h4
theorem c_fill13 {n B H : Nat} {nm : Nat → Nat} {nl : Nat} {hd : Int32} {f : Nat → F6} {be : Nat → Nat} {h0 g0 : Mm} (x : CX n B H nm nl hd f be h0 g0) {a o b : Nat} (ha : a < H) (ho : o < H) (hb : b < B) (x4 : Int32) : ∀ (d q k : Nat) (h : Mm), k + d = nm (3 + 3 * b) + 1 → d < q → KC n nl hd f h0 h → (∀ i j, i < k → j ≤ nm (3 + 3 * b) → h.1 248 (10 * i + j) = b2i (enB nm hd f be a o b i j)) → ∃ h', X6_restsOf_13 n q (zN a) (zN o) (zN b) x4 (zN (nm (3 + 3 * b))) (zN k) h = X6_restsOf_82 n n x4 (zN (nm (3 + 3 * b))) 0 0 h' ∧ KC n nl hd f h0 h' ∧ TabC (enB nm hd f be a o b) (nm (3 + 3 * b)) (h'.1 248) := by
  have hn := x.1
  have pg := x.2.1.2.2.2.2.2.2.1 b hb
  intro d
  induction d with
  | zero =>
    intro q k h hk hq kc ht
    obtain ⟨q, rfl⟩ : ∃ m, q = m + 1 := ⟨q - 1, by omega⟩
    unfold X6_restsOf_13
    rw [if_pos ((zN_lt (by omega) (by omega)).mpr (by omega))]
    exact ⟨h, rfl, kc, fun i j hi hj => ht i j (by omega) hj⟩
  | succ d ih =>
    intro q k h hk hq kc ht
    obtain ⟨q, rfl⟩ : ∃ m, q = m + 1 := ⟨q - 1, by omega⟩
    unfold X6_restsOf_13
    obtain ⟨h1, e1, e2, e3, e4⟩ := c_fill23 x ha ho hb x4 (i := k) (by omega) (X6_restsOf_13 n q) (nm (3 + 3 * b) + 1) n 0 h (by omega) (by omega) kc
    have e1' : X6_restsOf_23 n (X6_restsOf_13 n q) n (zN a) (zN o) (zN b) x4 (zN (nm (3 + 3 * b))) (zN k) 0 h = _ := e1
    rw [if_neg (by rw [zN_lt (by omega) (by omega)]; omega), e1']
    refine ih q (k + 1) h1 (by omega) (by omega) e2 (fun i j hi hj => ?_)
    by_cases c : i = k
    · subst c; exact e3 j (by omega) hj
    · rw [e4 _ (by omega)]; exact ht i j (by omega) hj
theorem m_fill35 {n B H : Nat} {nm : Nat → Nat} {nl : Nat} {hd : Int32} {f : Nat → F6} {be : Nat → Nat} {h0 g0 : Mm} (x : CX n B H nm nl hd f be h0 g0) {a o b : Nat} (ha : a < H) (ho : o < H) (hb : b < B) (x4 : Int32) : ∀ (d q k : Nat) (g : Mm), k + d = 2 * (nm (3 + 3 * b) + 1) * (nm (3 + 3 * b) + 1) → d < q → KG n nl hd f g0 g → (∀ i j, i ≤ nm (3 + 3 * b) → j ≤ nm (3 + 3 * b) → (2 * ((nm (3 + 3 * b) + 1) * i + j) < k → g.1 271 (2 * ((nm (3 + 3 * b) + 1) * i + j)) = zI (gnI (enB nm hd f be a o b i j) i j)) ∧ (2 * ((nm (3 + 3 * b) + 1) * i + j) + 1 < k → g.1 271 (2 * ((nm (3 + 3 * b) + 1) * i + j) + 1) = zI (gnI (enB nm hd f be a o b i j) j i))) → ∃ g', X12_rests_35 n q (zN a) (zN o) (zN b) x4 (zN (nm (3 + 3 * b) + 1)) (zN k) g = X12_rests_91 n n x4 (zN (nm (3 + 3 * b) + 1)) 0 0 g' ∧ KG n nl hd f g0 g' ∧ TabM (enB nm hd f be a o b) (nm (3 + 3 * b)) (g'.1 271) := by
  have hn := x.1
  have pg := x.2.1.2.2.2.2.2.2.1 b hb
  generalize nm (3 + 3 * b) = P at *
  have top : 2 * (P + 1) * (P + 1) ≤ 200 := by
    have : (P + 1) * (P + 1) ≤ 10 * 10 := Nat.mul_le_mul (by omega) (by omega)
    rw [Nat.mul_assoc]; omega
  have ixl : ∀ i j, i ≤ P → j ≤ P → 2 * ((P + 1) * i + j) + 2 ≤ 2 * (P + 1) * (P + 1) := fun i j hi hj => by
    have : (P + 1) * i ≤ (P + 1) * P := Nat.mul_le_mul_left _ hi
    have e : 2 * (P + 1) * (P + 1) = 2 * ((P + 1) * P + (P + 1)) := by rw [Nat.mul_assoc, Nat.mul_succ]
    rw [e]; omega
  intro d
  induction d with
  | zero =>
    intro q k g hk hq kg ht
    obtain ⟨q, rfl⟩ : ∃ m, q = m + 1 := ⟨q - 1, by omega⟩
    unfold X12_rests_35
    rw [show (2 : Int32) = zN 2 from rfl, zN_mul, zN_mul, if_pos ((zN_le (by omega) (by omega)).mpr (by omega))]
    refine ⟨g, rfl, kg, fun i j hi hj => ?_⟩
    have := ixl i j hi hj
    exact ⟨(ht i j hi hj).1 (by omega), (ht i j hi hj).2 (by omega)⟩
  | succ d ih =>
    intro q k g hk hq kg ht
    obtain ⟨q, rfl⟩ : ∃ m, q = m + 1 := ⟨q - 1, by omega⟩
    have k2 : k / 2 < (P + 1) * (P + 1) := by
      rw [Nat.mul_assoc] at hk; omega
    have iP : k / 2 / (P + 1) ≤ P := by
      have : k / 2 / (P + 1) < P + 1 := Nat.div_lt_of_lt_mul k2
      omega
    have jP : k / 2 % (P + 1) ≤ P := by
      have : k / 2 % (P + 1) < P + 1 := Nat.mod_lt _ (by omega)
      omega
    have w1 : zN (k % 2) = 0 ↔ k % 2 = 0 := zN_eq (b := 0) (by omega) (by decide)
    obtain ⟨g1, e1, e2, e3⟩ := m_gameOf x ha ho hb (i := k / 2 / (P + 1)) (j := k / 2 % (P + 1)) (w := zN (k % 2)) kg (by omega) (by omega)
    have key : X12_rests_35 n (q + 1) (zN a) (zN o) (zN b) x4 (zN (P + 1)) (zN k) g = X12_rests_35 n q (zN a) (zN o) (zN b) x4 (zN (P + 1)) (zN (k + 1)) (wI g1 271 k (if zN (k % 2) = 0 then zI (gnI (enB nm hd f be a o b (k / 2 / (P + 1)) (k / 2 % (P + 1))) (k / 2 / (P + 1)) (k / 2 % (P + 1))) else zI (gnI (enB nm hd f be a o b (k / 2 / (P + 1)) (k / 2 % (P + 1))) (k / 2 % (P + 1)) (k / 2 / (P + 1))))) := by
      have nz : ¬ zN (P + 1) = 0 := by rw [zN_lit, zN_eq (by omega) (by decide)]; omega
      rw [X12_rests_35]
      rw [show (2 : Int32) = zN 2 from rfl, zN_mul, zN_mul, if_neg (by rw [zN_le (by omega) (by omega)]; omega), if_pos nz, if_pos nz, zN_mod (by omega) (by decide), zN_div (by omega) (by decide), zN_div (by omega) (by omega), show zN (k / 2) - zN (k / 2 / (P + 1)) * zN (P + 1) = zN (k / 2 % (P + 1)) by rw [← zN_mod (by omega) (by omega), zN_div (by omega) (by omega)], e1, bd_some, if_pos (by rw [al_271, zN_inB (by omega)]; omega), zN_ix (by omega), sN1]
    rw [key]
    refine ih q (k + 1) _ (by omega) (by omega) (e2.w (by omega)) (fun i j hi hj => ⟨fun hl => ?_, fun hl => ?_⟩)
    · by_cases c : 2 * ((P + 1) * i + j) = k
      · have h2 : k / 2 = (P + 1) * i + j := by omega
        have h3 : k / 2 / (P + 1) = i := by rw [h2, Nat.mul_add_div (by omega), Nat.div_eq_of_lt (by omega), Nat.add_zero]
        have h4 : k / 2 % (P + 1) = j := by rw [h2, Nat.mul_add_mod, Nat.mod_eq_of_lt (by omega)]
        rw [c, w_eq, u_eq, if_pos (w1.mpr (by omega)), h3, h4]
      · rw [w_eq, u_ne c, e3]; exact (ht i j hi hj).1 (by omega)
    · by_cases c : 2 * ((P + 1) * i + j) + 1 = k
      · have h2 : k / 2 = (P + 1) * i + j := by omega
        have h3 : k / 2 / (P + 1) = i := by rw [h2, Nat.mul_add_div (by omega), Nat.div_eq_of_lt (by omega), Nat.add_zero]
        have h4 : k / 2 % (P + 1) = j := by rw [h2, Nat.mul_add_mod, Nat.mod_eq_of_lt (by omega)]
        rw [c, w_eq, u_eq, if_neg (by rw [w1]; omega), h3, h4]
      · rw [w_eq, u_ne c, e3]; exact (ht i j hi hj).2 (by omega)
theorem sim_rests (n : Nat) (hn : 20000 ≤ n) : Sim_rests n (R n) := by
  intro x1 x2 x3 x4 h g hR
  have hR0 := hR.thr 0
  obtain ⟨B, H, nm, nl, hd, f, be, x, ex⟩ := R.cx hn hR0
  unfold X11_rests X12_rests X6_restsOf
  generalize wI g 251 0 (0 : Int32) = g0 at *
  obtain ⟨-, hL, -, -, -⟩ := id x
  rcases c_play hL x1 x2 x3 with ⟨a, o, b, ha, ho, -, hb, rfl, rfl, rfl, e1, e2⟩ | ⟨e1, e2⟩
  · have pg := hL.2.2.2.2.2.2.1 b hb
    have top : 2 * (nm (3 + 3 * b) + 1) * (nm (3 + 3 * b) + 1) ≤ 200 := by
      have : (nm (3 + 3 * b) + 1) * (nm (3 + 3 * b) + 1) ≤ 10 * 10 := Nat.mul_le_mul (by omega) (by omega)
      rw [Nat.mul_assoc]; omega
    obtain ⟨h1, c1, c2, c3⟩ := c_fill13 x ha ho hb x4 (nm (3 + 3 * b) + 1) n 0 h (by omega) (by omega) x.c (fun i j hi _ => by omega)
    obtain ⟨g1, d1, d2, d3⟩ := m_fill35 x ha ho hb x4 _ n 0 g0 (Nat.zero_add _) (by omega) x.g (fun i j _ _ => ⟨fun z => by omega, fun z => by omega⟩)
    have c1' : X6_restsOf_13 n n (zN a) (zN o) (zN b) x4 (zN (nm (3 + 3 * b))) 0 h = _ := c1
    have d1' : X12_rests_35 n n (zN a) (zN o) (zN b) x4 (zN (nm (3 + 3 * b) + 1)) 0 g0 = _ := d1
    obtain ⟨r, s1, s2⟩ := rests_out (x4 := x4) hn c3 d3 (by omega) (nm (3 + 3 * b) + 1) n n 0 0 (by omega) (by omega) (by omega)
    have s1' : X6_restsOf_82 n n x4 (zN (nm (3 + 3 * b))) 0 0 h1 = _ := s1
    have s2' : X12_rests_91 n n x4 (zN (nm (3 + 3 * b) + 1)) 0 0 g1 = _ := s2
    rw [e1, e2, bp_some, bp_some, if_pos rfl, if_pos rfl, c_pages hL hb, m_pages hL hb, bp_some, bp_some, c1', s1', bd_some, sN1, d1', s2']
    by_cases z : (-1 : Int32) ≤ x4
    · rw [if_pos z]; exact ⟨r, h1, g1, rfl, rfl, ex _ _ c2 d2⟩
    · rw [if_neg z]
      refine ⟨-1, h1, g0, ?_, rfl, ex _ _ c2 x.g⟩
      have lt := Int32.not_le.mp z
      have no : ∀ c : Nat, c < 2147483648 → ¬ zN c = x4 := fun c hc w => by
        rw [← w, Int32.lt_iff_toInt_lt, zN_ti hc] at lt
        have e9 : (-1 : Int32).toInt = -1 := by decide
        omega
      have nm1 : ¬ x4 = -1 := fun w => by rw [w] at lt; exact absurd lt (by decide)
      have inn : ∀ (i : Nat) (K82 : Int32 → Int32 → Int32 → Int32 → Mm → Option (Int32 × Mm)), i ≤ nm (3 + 3 * b) → ∀ (d q j c : Nat), j + d = nm (3 + 3 * b) + 1 → d < q → c + d ≤ 1000 → ∃ c', c' ≤ c + d ∧ X6_restsOf_92 n K82 q x4 (zN (nm (3 + 3 * b))) (zN c) (zN i) (zN j) h1 = K82 x4 (zN (nm (3 + 3 * b))) (zN c') (zN (i + 1)) h1 := fun i K82 hi d => by
        induction d with
        | zero =>
          intro q j c hj hq hc
          obtain ⟨q, rfl⟩ : ∃ m, q = m + 1 := ⟨q - 1, by omega⟩
          unfold X6_restsOf_92
          rw [if_pos ((zN_lt (by omega) (by omega)).mpr (by omega)), sN1]; exact ⟨c, by omega, rfl⟩
        | succ d ih =>
          intro q j c hj hq hc
          obtain ⟨q, rfl⟩ : ∃ m, q = m + 1 := ⟨q - 1, by omega⟩
          unfold X6_restsOf_92 X6_restsOf_131
          rw [if_neg (by rw [zN_lt (by omega) (by omega)]; omega), c_isRest hn c3 (by omega) hi (show j ≤ nm (3 + 3 * b) by omega), bp_some, if_neg (no c (by omega)), sN1, sN1]
          by_cases y : rsB (enB nm hd f be a o b) i j (nm (3 + 3 * b) + 1) 0 = true
          · rw [if_pos y]
            obtain ⟨c', k1, k2⟩ := ih q (j + 1) (c + 1) (by omega) (by omega) (by omega)
            exact ⟨c', by omega, k2⟩
          · rw [if_neg y]
            obtain ⟨c', k1, k2⟩ := ih q (j + 1) c (by omega) (by omega) (by omega)
            exact ⟨c', by omega, k2⟩
      have outl : ∀ (d q i c : Nat), i + d = nm (3 + 3 * b) + 1 → d < q → c + 10 * d ≤ 1000 → X6_restsOf_82 n q x4 (zN (nm (3 + 3 * b))) (zN c) (zN i) h1 = some (-1, h1) := fun d => by
        induction d with
        | zero =>
          intro q i c hi hq hc
          obtain ⟨q, rfl⟩ : ∃ m, q = m + 1 := ⟨q - 1, by omega⟩
          unfold X6_restsOf_82
          rw [if_pos ((zN_lt (by omega) (by omega)).mpr (by omega)), if_neg nm1]
        | succ d ih =>
          intro q i c hi hq hc
          obtain ⟨q, rfl⟩ : ∃ m, q = m + 1 := ⟨q - 1, by omega⟩
          unfold X6_restsOf_82
          obtain ⟨c', k1, k2⟩ := inn i (X6_restsOf_82 n q) (by omega) (nm (3 + 3 * b) + 1) n 0 c (by omega) (by omega) (by omega)
          have k2' : X6_restsOf_92 n (X6_restsOf_82 n q) n x4 (zN (nm (3 + 3 * b))) (zN c) (zN i) 0 h1 = _ := k2
          rw [if_neg (by rw [zN_lt (by omega) (by omega)]; omega), k2']
          exact ih q (i + 1) c' (by omega) (by omega) (by omega)
      have o1 : X6_restsOf_82 n n x4 (zN (nm (3 + 3 * b))) 0 0 h1 = some (-1, h1) := outl (nm (3 + 3 * b) + 1) n 0 0 (by omega) (by omega) (by omega)
      rw [s1'] at o1; exact o1
  · rw [e1, e2]; exact ⟨_, h, g0, rfl, rfl, hR0⟩
