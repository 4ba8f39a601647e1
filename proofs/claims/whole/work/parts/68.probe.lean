/-! which book to try -/
def accF (r : Nat → Bool) : List Nat → Int32 → Int32
  | [], a => a
  | t :: l, a => accF r l (a ||| (if r t then (1 : Int32) <<< (zN t &&& 31) else 0))
theorem acc_bits : ∀ (a0 a1 a2 a3 a9 : Bool) (t : Nat), t < 10 → ((((((0 : Int32) ||| (if a0 then (1 : Int32) <<< (zN 0 &&& 31) else 0)) ||| (if a1 then (1 : Int32) <<< (zN 1 &&& 31) else 0)) ||| (if a2 then (1 : Int32) <<< (zN 2 &&& 31) else 0)) ||| (if a3 then (1 : Int32) <<< (zN 3 &&& 31) else 0)) ||| (if a9 then (1 : Int32) <<< (zN 9 &&& 31) else 0)) >>> (zN t &&& 31) &&& 1 = (if (if t = 0 then a0 else if t = 1 then a1 else if t = 2 then a2 else if t = 3 then a3 else if t = 9 then a9 else false) then 1 else 0) := by decide +kernel
theorem acc_zero : ∀ (a0 a1 a2 a3 a9 : Bool), ((((((0 : Int32) ||| (if a0 then (1 : Int32) <<< (zN 0 &&& 31) else 0)) ||| (if a1 then (1 : Int32) <<< (zN 1 &&& 31) else 0)) ||| (if a2 then (1 : Int32) <<< (zN 2 &&& 31) else 0)) ||| (if a3 then (1 : Int32) <<< (zN 3 &&& 31) else 0)) ||| (if a9 then (1 : Int32) <<< (zN 9 &&& 31) else 0)) = 0 ∨ (a0 || a1 || a2 || a3 || a9) = true := by decide +kernel
theorem acc_b (r : Nat → Bool) (t : Nat) (ht : t < 4 ∨ t = 9) : (accF r (tl 0) 0 >>> (zN t &&& 31)) &&& 1 = if r t then 1 else 0 := by
  have e := acc_bits (r 0) (r 1) (r 2) (r 3) (r 9) t (by omega)
  obtain rfl | rfl | rfl | rfl | rfl : t = 0 ∨ t = 1 ∨ t = 2 ∨ t = 3 ∨ t = 9 := by omega
  all_goals exact e
theorem acc_n (r : Nat → Bool) (t : Nat) (ht : 4 ≤ t) (h9 : t < 9) : (accF r (tl 0) 0 >>> (zN t &&& 31)) &&& 1 = 0 := by
  have e := acc_bits (r 0) (r 1) (r 2) (r 3) (r 9) t (by omega)
  obtain rfl | rfl | rfl | rfl | rfl : t = 4 ∨ t = 5 ∨ t = 6 ∨ t = 7 ∨ t = 8 := by omega
  all_goals exact e
def lnI (r : Nat → Bool) (cB : Nat → Nat) (v : Nat) : List Nat → Int → Int
  | [], a => a
  | t :: l, a => if r t then lnI r cB v l (a + (if cB t < v then -1 else 1)) else lnI r cB v l a
theorem lnI_b (r : Nat → Bool) (cB : Nat → Nat) (v : Nat) : ∀ (l : List Nat) (a : Int), -(a.natAbs : Int) - l.length ≤ lnI r cB v l a ∧ lnI r cB v l a ≤ a.natAbs + l.length
  | [], a => by unfold lnI; simp only [List.length_nil]; omega
  | t :: l, a => by
    unfold lnI
    simp only [List.length_cons]
    have h1 := lnI_b r cB v l a
    have h2 := lnI_b r cB v l (a + (if cB t < v then -1 else 1))
    have h3 : (a + (if cB t < v then -1 else 1)).natAbs ≤ a.natAbs + 1 := by split <;> omega
    split <;> omega
theorem j_abs {a : Int} {h : Mm} (h1 : -1000 ≤ a) (h2 : a ≤ 1000) : J9_abs_0f7a4 (zI a) h = some (zN a.natAbs) := by
  unfold J9_abs_0f7a4
  rw [show (0 : Int32) = zN 0 from rfl]
  by_cases c : 0 ≤ a
  · rw [if_pos ((zN_leI (by omega) (by omega) (by decide)).mpr c), zI_toN (k := a.natAbs) (by omega)]
  · rw [if_neg (by rw [zN_leI (by omega) (by omega) (by decide)]; exact c), zI_neg, zI_toN (k := a.natAbs) (by omega)]
theorem c_apart {n B H : Nat} {nm : Nat → Nat} {nl : Nat} {hd : Int32} {f : Nat → F6} {be : Nat → Nat} {h0 g0 : Mm} (x : CX n B H nm nl hd f be h0 g0) (r : Nat → Bool) {y a v : Nat} (hy : y < B) (ha : a < H) (hv : v ≤ 99) : ∀ (d q k : Nat) (s : Int) (h : Mm), k + d = 5 → d < q → KC n nl hd f h0 h → -(k : Int) ≤ s → s ≤ k → ∃ h', X8_apartBy_16 n q (accF r (tl 0) 0) (zN y) (zN a) (zN v) (zI s) (zN 5) (zN k) h = some (zN (lnI r (fun t => cBy nm hd f be t y (nm (3 + 3 * y)) a) v (tl k) s).natAbs, h') ∧ KC n nl hd f h0 h' := by
  have pg := x.2.1.2.2.2.2.2.2.1 y hy
  intro d
  induction d with
  | zero =>
    intro q k s h hk hq kc h1 h2
    obtain ⟨q, rfl⟩ : ∃ m, q = m + 1 := ⟨q - 1, by omega⟩
    obtain rfl : k = 5 := by omega
    unfold X8_apartBy_16
    rw [if_pos (Int32.le_refl _), j_abs (by omega) (by omega), bp_some]
    exact ⟨h, rfl, kc⟩
  | succ d ih =>
    intro q k s h hk hq kc h1 h2
    obtain ⟨q, rfl⟩ : ∃ m, q = m + 1 := ⟨q - 1, by omega⟩
    have tk : ts k < 4 ∨ ts k = 9 := by unfold ts; split <;> omega
    have eb := acc_b r (ts k) tk
    unfold X8_apartBy_16 X8_apartBy_67 X8_apartBy_70
    rw [if_neg (by rw [zN_le (by decide) (by omega)]; omega), if_pos (by rw [zN_inB (by omega), al_1007]; omega), zN_ix (by omega), rdA_1007, ex1007 k (by omega), eb, tl_s k (by omega), show (1 : Int32) = zN 1 from rfl, zN_add]
    show ∃ h', _ = some (zN (if r (ts k) then lnI r (fun t => cBy nm hd f be t y (nm (3 + 3 * y)) a) v (tl (k + 1)) (s + (if cBy nm hd f be (ts k) y (nm (3 + 3 * y)) a < v then -1 else 1)) else lnI r (fun t => cBy nm hd f be t y (nm (3 + 3 * y)) a) v (tl (k + 1)) s).natAbs, h') ∧ _
    by_cases z : r (ts k) = true
    · obtain ⟨h3, e1, e2⟩ := c_calmBy x kc (tt := ts k) (y := y) (m := nm (3 + 3 * y)) (a := a) hy ha (by omega) (ts_lt (by omega))
      have cl := cBy_le nm hd f be (ts k) y (nm (3 + 3 * y)) a
      simp only [if_pos z]
      rw [if_neg (by decide), c_pages (x.lc kc) hy, bp_some, e1, bd_some]
      by_cases c : cBy nm hd f be (ts k) y (nm (3 + 3 * y)) a < v
      · rw [if_pos ((zN_lt (by omega) (by omega)).mpr c)]
        simp only [if_pos c]
        rw [show (-zN 1 : Int32) = zI (-1) from rfl, zI_add]
        exact ih q (k + 1) _ h3 (by omega) (by omega) e2 (by omega) (by omega)
      · rw [if_neg (by rw [zN_lt (by omega) (by omega)]; exact c)]
        simp only [if_neg c]
        rw [zI_addN]
        exact ih q (k + 1) _ h3 (by omega) (by omega) e2 (by omega) (by omega)
    · simp only [if_neg z]
      rw [if_pos trivial]
      exact ih q (k + 1) s h (by omega) (by omega) kc (by omega) (by omega)
theorem m_apart {n B H : Nat} {nm : Nat → Nat} {nl : Nat} {hd : Int32} {f : Nat → F6} {be : Nat → Nat} {h0 g0 : Mm} (x : CX n B H nm nl hd f be h0 g0) (r : Nat → Bool) {y a v : Nat} (hy : y < B) (ha : a < H) (hv : v ≤ 99) (K : Int32 → Int32 → Int32 → Int32 → Int32 → Int32 → Mm → Option (Int32 × Mm)) (x4 x5 : Int32) : ∀ (d q k : Nat) (s : Int) (g : Mm), k + d = 10 → d < q → KG n nl hd f g0 g → -(k : Int) ≤ s → s ≤ k → (lnI r (fun t => cBy nm hd f be t y (nm (3 + 3 * y)) a) v (ml k) s).natAbs ≤ 1000 → ∃ g', X12_probe_103 n K q (zN a) (zN v) (accF r (tl 0) 0) x4 x5 (zN y) (zI s) (zN k) g = (if x4 = -1 ∨ zN (lnI r (fun t => cBy nm hd f be t y (nm (3 + 3 * y)) a) v (ml k) s).natAbs < x5 then K (zN a) (zN v) (accF r (tl 0) 0) (zN y) (zN (lnI r (fun t => cBy nm hd f be t y (nm (3 + 3 * y)) a) v (ml k) s).natAbs) (zN (y + 1)) g' else K (zN a) (zN v) (accF r (tl 0) 0) x4 x5 (zN (y + 1)) g') ∧ KG n nl hd f g0 g' := by
  have pg := x.2.1.2.2.2.2.2.2.1 y hy
  intro d
  induction d with
  | zero =>
    intro q k s g hk hq kg h1 h2 h3
    obtain ⟨q, rfl⟩ : ∃ m, q = m + 1 := ⟨q - 1, by omega⟩
    obtain rfl : k = 10 := by omega
    unfold X12_probe_103 X12_probe_177 X12_probe_185
    have e0 : lnI r (fun t => cBy nm hd f be t y (nm (3 + 3 * y)) a) v (ml 10) s = s := by exact Eq.trans rfl rfl
    rw [show (10 : Int32) = zN 10 from rfl, if_pos (Int32.le_refl _), j_abs (by omega) (by omega), bp_some, e0, show zN y + 1 = zN (y + 1) by rw [show (1 : Int32) = zN 1 from rfl, zN_add]]
    refine ⟨g, ?_, kg⟩
    by_cases c : x4 = -1
    · rw [if_pos c, if_pos (Or.inl c)]
    · rw [if_neg c]
      by_cases z : zN s.natAbs < x5
      · rw [if_pos z, if_pos (Or.inr z)]
      · rw [if_neg z, if_neg (fun w => w.elim c z)]
  | succ d ih =>
    intro q k s g hk hq kg h1 h2 h3
    obtain ⟨q, rfl⟩ : ∃ m, q = m + 1 := ⟨q - 1, by omega⟩
    unfold X12_probe_103 X12_probe_145 X12_probe_148 X12_has
    rw [show (10 : Int32) = zN 10 from rfl, if_neg (by rw [zN_le (by decide) (by omega)]; omega)]
    rw [ml_s k (by omega)] at h3 ⊢
    by_cases w : k < 4 ∨ k = 9
    · rw [if_pos w] at h3 ⊢
      rw [acc_b r k w]
      by_cases z : r k = true
      · obtain ⟨g3, e1, e2⟩ := m_calmIf x kg (tt := k) (y := y) (m := nm (3 + 3 * y)) (a := a) hy ha (by omega) (by omega)
        have cl := cBy_le nm hd f be k y (nm (3 + 3 * y)) a
        have e5 : lnI r (fun t => cBy nm hd f be t y (nm (3 + 3 * y)) a) v (k :: ml (k + 1)) s = lnI r (fun t => cBy nm hd f be t y (nm (3 + 3 * y)) a) v (ml (k + 1)) (s + (if cBy nm hd f be k y (nm (3 + 3 * y)) a < v then -1 else 1)) := by
          rw [lnI, if_pos z]
        rw [e5] at h3 ⊢
        rw [if_pos z, if_pos rfl, bp_some, if_pos rfl, m_pages (x.lm kg) hy, bp_some, e1, bd_some]
        by_cases c : cBy nm hd f be k y (nm (3 + 3 * y)) a < v
        · rw [if_pos c] at h3 ⊢
          rw [if_pos ((zN_lt (by omega) (by omega)).mpr c), show (-1 : Int32) = zI (-1) from rfl, zI_add, show zN k + 1 = zN (k + 1) by rw [show (1 : Int32) = zN 1 from rfl, zN_add]]
          exact ih q (k + 1) _ g3 (by omega) (by omega) e2 (by omega) (by omega) h3
        · rw [if_neg c] at h3 ⊢
          rw [if_neg (by rw [zN_lt (by omega) (by omega)]; exact c), show zN k + 1 = zN (k + 1) by rw [show (1 : Int32) = zN 1 from rfl, zN_add], show (1 : Int32) = zN 1 from rfl, zI_addN]
          exact ih q (k + 1) _ g3 (by omega) (by omega) e2 (by omega) (by omega) h3
      · have e5 : lnI r (fun t => cBy nm hd f be t y (nm (3 + 3 * y)) a) v (k :: ml (k + 1)) s = lnI r (fun t => cBy nm hd f be t y (nm (3 + 3 * y)) a) v (ml (k + 1)) s := by
          rw [lnI, if_neg z]
        rw [e5] at h3 ⊢
        rw [if_neg z, if_neg (by decide), bp_some, if_neg (show ¬ (false = true) by decide), show zN k + 1 = zN (k + 1) by rw [show (1 : Int32) = zN 1 from rfl, zN_add]]
        exact ih q (k + 1) s g (by omega) (by omega) kg (by omega) (by omega) h3
    · rw [if_neg w] at h3 ⊢
      rw [acc_n r k (by omega) (by omega), if_neg (by decide), bp_some, if_neg (show ¬ (false = true) by decide), show zN k + 1 = zN (k + 1) by rw [show (1 : Int32) = zN 1 from rfl, zN_add]]
      exact ih q (k + 1) s g (by omega) (by omega) kg (by omega) (by omega) h3
def pC : Option (Nat × Nat) → Int32
  | none => zN 6
  | some p => zN p.2
theorem probe_loop {n B H : Nat} {nm : Nat → Nat} {nl : Nat} {hd : Int32} {f : Nat → F6} {be : Nat → Nat} {h0 g0 : Mm} (x : CX n B H nm nl hd f be h0 g0) (r : Nat → Bool) {a v : Nat} (ha : a < H) (hv : v ≤ 99) (hr : accF r (tl 0) 0 ≠ 0) : ∀ (d q q' k : Nat) (st : Option (Nat × Nat)) (h g : Mm), k + d = B → d < q → d < q' → KC n nl hd f h0 h → KG n nl hd f g0 g → (∀ b c, st = some (b, c) → c ≤ 5 ∧ b < 6) →
    ∃ e h' g', X8_bookToTry_69 n q (zN a) (zN v) (accF r (tl 0) 0) (bF st) (pC st) (zN k) h = some (e, h') ∧ X12_probe_88 n q' (zN a) (zN v) (accF r (tl 0) 0) (bF st) (bM st) (zN k) g = some (e, g') ∧ KC n nl hd f h0 h' ∧ KG n nl hd f g0 g' := by
  have hn := x.1
  have hB6 := x.2.1.2.1.1
  intro d
  induction d with
  | zero =>
    intro q q' k st h g hk hq hq' kc kg hs
    obtain ⟨q, rfl⟩ : ∃ m, q = m + 1 := ⟨q - 1, by omega⟩
    obtain ⟨q', rfl⟩ : ∃ m, q' = m + 1 := ⟨q' - 1, by omega⟩
    unfold X8_bookToTry_69 X12_probe_88 X8_bookToTry_117
    rw [c_books, bp_some, (x.lc kc).1.1, (x.lm kg).1.2.2.1, if_pos ((zN_le (by omega) (by omega)).mpr (by omega)), if_pos ((zN_le (by omega) (by omega)).mpr (by omega))]
    exact ⟨_, h, g, rfl, rfl, kc, kg⟩
  | succ d ih =>
    intro q q' k st h g hk hq hq' kc kg hs
    have hy : k < B := by omega
    obtain ⟨q, rfl⟩ : ∃ m, q = m + 1 := ⟨q - 1, by omega⟩
    obtain ⟨q', rfl⟩ : ∃ m, q' = m + 1 := ⟨q' - 1, by omega⟩
    have lb := lnI_b r (fun t => cBy nm hd f be t k (nm (3 + 3 * k)) a) v (tl 0) 0
    have lb5 : (lnI r (fun t => cBy nm hd f be t k (nm (3 + 3 * k)) a) v (tl 0) 0).natAbs ≤ 5 := by
      have e : ((tl 0).length : Int) = 5 := by decide
      rw [e] at lb; omega
    obtain ⟨h1, e1, e2⟩ := c_apart x r hy ha hv 5 n 0 0 h (by omega) (by omega) kc (by omega) (by omega)
    obtain ⟨g1, d1, d2⟩ := m_apart x r hy ha hv (X12_probe_88 n q') (bF st) (bM st) 10 n 0 0 g (by omega) (by omega) kg (by omega) (by omega) (Nat.le_trans lb5 (by decide))
    unfold X8_bookToTry_69 X12_probe_88 X8_bookToTry_111 X8_apartBy
    have e1' : X8_apartBy_16 n n (accF r (tl 0) 0) (zN k) (zN a) (zN v) 0 (Int32.ofNat (aln 1007)) 0 h = some (zN (lnI r (fun t => cBy nm hd f be t k (nm (3 + 3 * k)) a) v (tl 0) 0).natAbs, h1) := by rw [al_1007]; exact e1
    have d1' : X12_probe_103 n (X12_probe_88 n q') n (zN a) (zN v) (accF r (tl 0) 0) (bF st) (bM st) (zN k) 0 0 g = _ := d1
    rw [c_books, bp_some, (x.lc kc).1.1, (x.lm kg).1.2.2.1, if_neg (show ¬ zN B ≤ zN k by rw [zN_le (by omega) (by omega)]; omega), if_neg (show ¬ zN B ≤ zN k by rw [zN_le (by omega) (by omega)]; omega), if_neg hr, e1', bd_some, d1', show ml 0 = tl 0 from rfl, show zN k + 1 = zN (k + 1) by rw [show (1 : Int32) = zN 1 from rfl, zN_add]]
    generalize (lnI r (fun t => cBy nm hd f be t k (nm (3 + 3 * k)) a) v (tl 0) 0).natAbs = c at *
    have up := ih q q' (k + 1) (some (k, c)) h1 g1 (by omega) (by omega) (by omega) e2 d2 (fun b c' e => by cases e; omega)
    have kp := ih q q' (k + 1) st h1 g1 (by omega) (by omega) (by omega) e2 d2 hs
    cases st with
    | none =>
      rw [if_neg (show ¬ pC none ≤ zN c from by show ¬ zN 6 ≤ zN c; rw [zN_le (by decide) (by omega)]; omega), if_pos (Or.inl (show bF none = -1 from rfl))]
      exact up
    | some s =>
      obtain ⟨b, c0⟩ := s
      have := hs b c0 rfl
      by_cases z : c0 ≤ c
      · rw [if_pos (show pC (some (b, c0)) ≤ zN c from (zN_le (by omega) (by omega)).mpr z), if_neg (show ¬ (bF (some (b, c0)) = -1 ∨ zN c < bM (some (b, c0))) from fun w => by
          rcases w with w | w
          · exact zN_nm1 (by omega) w
          · have w' : zN c < zN c0 := w
            rw [zN_lt (by omega) (by omega)] at w'; omega)]
        exact kp
      · rw [if_neg (show ¬ pC (some (b, c0)) ≤ zN c from by show ¬ zN c0 ≤ zN c; rw [zN_le (by omega) (by omega)]; exact z), if_pos (Or.inr (show zN c < bM (some (b, c0)) from (zN_lt (by omega) (by omega)).mpr (by omega)))]
        exact up
theorem c_try15 {n B H : Nat} {nm : Nat → Nat} {nl : Nat} {hd : Int32} {f : Nat → F6} {be : Nat → Nat} {h0 g0 : Mm} {sn : Nat} (x : CX n B H nm nl hd f be h0 g0) (hS : WatchR B H nm sn (h0.1 249) (h0.1 250) (g0.1 251) (g0.1 270)) (x1 x2 : Int32) : ∀ (d q k : Nat) (s : Int32) (h : Mm), k + d = 5 → d < q → KC n nl hd f h0 h → ∃ h', X8_bookToTry_15 n q x1 x2 s (zN 5) (zN k) h = X8_bookToTry_69 n n x1 x2 (accF (fun t => fitF nm hd f be h0 t sn 0) (tl k) s) (-1) (zN 6) 0 h' ∧ KC n nl hd f h0 h' := by
  intro d
  induction d with
  | zero =>
    intro q k s h hk hq kc
    obtain ⟨q, rfl⟩ : ∃ m, q = m + 1 := ⟨q - 1, by omega⟩
    obtain rfl : k = 5 := by omega
    unfold X8_bookToTry_15
    rw [if_pos (Int32.le_refl _), al_1007]
    exact ⟨h, rfl, kc⟩
  | succ d ih =>
    intro q k s h hk hq kc
    obtain ⟨q, rfl⟩ : ∃ m, q = m + 1 := ⟨q - 1, by omega⟩
    obtain ⟨h1, e1, e2⟩ := c_fits x hS (ts_lt (k := k) (by omega)) kc
    unfold X8_bookToTry_15 X8_bookToTry_47
    rw [if_neg (by rw [zN_le (by decide) (by omega)]; omega), if_pos (by rw [zN_inB (by omega), al_1007]; omega), zN_ix (by omega), rdA_1007, ex1007 k (by omega), e1, bd_some, tl_s k (by omega), show zN k + 1 = zN (k + 1) by rw [show (1 : Int32) = zN 1 from rfl, zN_add]]
    show ∃ h', _ = X8_bookToTry_69 n n x1 x2 (accF (fun t => fitF nm hd f be h0 t sn 0) (tl (k + 1)) (s ||| (if fitF nm hd f be h0 (ts k) sn 0 = true then (1 : Int32) <<< (zN (ts k) &&& 31) else 0))) (-1) (zN 6) 0 h' ∧ _
    by_cases z : fitF nm hd f be h0 (ts k) sn 0 = true
    · simp only [if_pos z]; exact ih q (k + 1) _ h1 (by omega) (by omega) e2
    · simp only [if_neg z]; exact ih q (k + 1) _ h1 (by omega) (by omega) e2
theorem m_probe32 {n B H : Nat} {nm : Nat → Nat} {nl : Nat} {hd : Int32} {f : Nat → F6} {be : Nat → Nat} {h0 g0 : Mm} {sn : Nat} (x : CX n B H nm nl hd f be h0 g0) (hS : WatchR B H nm sn (h0.1 249) (h0.1 250) (g0.1 251) (g0.1 270)) (x1 x2 : Int32) : ∀ (d q k : Nat) (s : Int32) (g : Mm), k + d = 10 → d < q → KG n nl hd f g0 g → ∃ g', X12_probe_32 n q x1 x2 s (zN k) g = (if accF (fun t => fitF nm hd f be h0 t sn 0) (ml k) s = 0 then some (-1, g') else X12_probe_88 n n x1 x2 (accF (fun t => fitF nm hd f be h0 t sn 0) (ml k) s) (-1) 0 0 g') ∧ KG n nl hd f g0 g' := by
  intro d
  induction d with
  | zero =>
    intro q k s g hk hq kg
    obtain ⟨q, rfl⟩ : ∃ m, q = m + 1 := ⟨q - 1, by omega⟩
    obtain rfl : k = 10 := by omega
    unfold X12_probe_32
    rw [show (10 : Int32) = zN 10 from rfl, if_pos (Int32.le_refl _)]
    exact ⟨g, rfl, kg⟩
  | succ d ih =>
    intro q k s g hk hq kg
    obtain ⟨q, rfl⟩ : ∃ m, q = m + 1 := ⟨q - 1, by omega⟩
    unfold X12_probe_32 X12_probe_64 X12_probe_65
    rw [show (10 : Int32) = zN 10 from rfl, if_neg (by rw [zN_le (by decide) (by omega)]; omega), m_isCode (by omega), bp_some, ml_s k (by omega), show zN k + 1 = zN (k + 1) by rw [show (1 : Int32) = zN 1 from rfl, zN_add]]
    by_cases y : k < 4 ∨ k = 9
    · obtain ⟨g1, e1, e2⟩ := m_liked x hS (tt := k) (by omega) kg
      rw [decide_eq_true y, if_pos rfl, e1, bd_some]
      simp only [if_pos y]
      have ea : accF (fun t => fitF nm hd f be h0 t sn 0) (k :: ml (k + 1)) s = accF (fun t => fitF nm hd f be h0 t sn 0) (ml (k + 1)) (s ||| (if fitF nm hd f be h0 k sn 0 = true then (1 : Int32) <<< (zN k &&& 31) else 0)) := by exact Eq.trans rfl rfl
      rw [ea]
      by_cases z : fitF nm hd f be h0 k sn 0 = true
      · simp only [if_pos z]; exact ih q (k + 1) _ g1 (by omega) (by omega) e2
      · simp only [if_neg z]; exact ih q (k + 1) _ g1 (by omega) (by omega) e2
    · rw [decide_eq_false y, if_neg (show ¬ (false = true) by decide)]
      simp only [if_neg y]
      rw [Int32.or_zero]
      exact ih q (k + 1) s g (by omega) (by omega) kg
theorem sim_probe (n : Nat) (hn : 20000 ≤ n) : Sim_probe n (R n) := by
  intro x1 x2 h g hR
  have hR0 := hR.thr 0
  obtain ⟨B, H, nm, nl, hd, f, be, sn, x, hS, ex⟩ := R.cxw hn hR0
  unfold X11_probe X12_probe X8_bookToTry
  generalize wI g 251 0 (0 : Int32) = g0 at *
  obtain ⟨-, hL, -, -, -⟩ := id x
  have hH := hL.2.1.2.1
  have hB6 := hL.2.1.1
  rcases idx x1 H with ⟨a, ha, rfl⟩ | hx
  · rw [c_hasHouse_y hL ha, m_isHouse_y hL ha, bp_some, bp_some, if_pos rfl, if_pos rfl]
    rcases what x2 99 (by decide) with ⟨v, hv, rfl⟩ | ⟨hx, -⟩
    · rw [m_in (m := 99) (L := 0) (U := 99) (by decide) ⟨v, hv, rfl⟩ rfl rfl, bp_some, if_pos rfl, if_neg (show ¬ zN v < 0 from zN_neg0 (by omega)), if_neg (show ¬ (99 : Int32) < zN v from by rw [zN_lit, zN_lt (by decide) (by omega)]; omega)]
      obtain ⟨h1, e1, e2⟩ := c_try15 x hS (zN a) (zN v) 5 n 0 0 h (by omega) (by omega) x.c
      obtain ⟨g1, d1, d2⟩ := m_probe32 x hS (zN a) (zN v) 10 n 0 0 g0 (by omega) (by omega) x.g
      have e1' : X8_bookToTry_15 n n (zN a) (zN v) 0 (Int32.ofNat (aln 1007)) 0 h = X8_bookToTry_69 n n (zN a) (zN v) (accF (fun t => fitF nm hd f be h t sn 0) (tl 0) 0) (-1) (zN 6) 0 h1 := by rw [al_1007]; exact e1
      have d1' : X12_probe_32 n n (zN a) (zN v) 0 0 g0 = _ := d1
      rw [e1', d1', show ml 0 = tl 0 from rfl]
      by_cases z : accF (fun t => fitF nm hd f be h t sn 0) (tl 0) 0 = 0
      · rw [if_pos z, z]
        refine ⟨-1, h1, g1, ?_, rfl, ex _ _ e2 d2⟩
        obtain ⟨m, rfl⟩ : ∃ m, n = m + 1 := ⟨n - 1, by omega⟩
        unfold X8_bookToTry_69 X8_bookToTry_117
        rw [c_books, bp_some, if_pos rfl]
        by_cases w : h1.1 14 1 ≤ 0
        · rw [if_pos w]; rfl
        · rw [if_neg w]; rfl
      · rw [if_neg z]
        obtain ⟨e, h2, g2, s1, s2, s3, s4⟩ := probe_loop x (fun t => fitF nm hd f be h t sn 0) ha hv z B n n 0 none h1 g1 (by omega) (by omega) (by omega) e2 d2 (fun b c e => by cases e)
        have s1' : X8_bookToTry_69 n n (zN a) (zN v) (accF (fun t => fitF nm hd f be h t sn 0) (tl 0) 0) (-1) (zN 6) 0 h1 = _ := s1
        have s2' : X12_probe_88 n n (zN a) (zN v) (accF (fun t => fitF nm hd f be h t sn 0) (tl 0) 0) (-1) 0 0 g1 = _ := s2
        rw [s1', s2']
        exact ⟨e, h2, g2, rfl, rfl, ex _ _ s3 s4⟩
    · rw [m_out (m := 99) (L := 0) (U := 99) hx rfl rfl]
      simp only [zN_lit]
      rw [ifout' hx]
      exact ⟨_, h, g0, rfl, rfl, hR0⟩
  · rw [c_hasHouse_n hL hx, m_isHouse_n hL hx]
    exact ⟨_, h, g0, rfl, rfl, hR0⟩
