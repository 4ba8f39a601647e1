/-! what was seen -/
theorem R.cxw {n : Nat} {h g : Mm} (hn : 20000 ≤ n) (hR : R n h g) : ∃ B H nm nl hd f be sn, CX n B H nm nl hd f be h g ∧ WatchR B H nm sn (h.1 249) (h.1 250) (g.1 251) (g.1 270) ∧ ∀ h' g', KC n nl hd f h h' → KG n nl hd f g g' → R n h' g' := by
  obtain ⟨B, H, nm, A, nx, E, nw, sn, s, tp, nl, hd, f, q⟩ := hR
  have hQ : RW n B H nm A nx E nw sn s tp nl hd f h g := q
  obtain ⟨hL, ⟨-, -, ⟨be, hB, -, -, -⟩, -⟩, -, -, hS, -, hC, hM, -⟩ := id hQ
  exact ⟨B, H, nm, nl, hd, f, be, sn, ⟨hn, hL, hB, hC, hM⟩, hS, fun h' g' c k => (hQ.ask c k).r⟩
def tW (hd : Int32) (f : Nat → F6) (cc v kd tt p : Nat) : Int32 := if kd = tt then (if 20 < wv hd f cc v 0 p 0 p + 3 then 20 else wv hd f cc v 0 p 0 p + 3) else wv hd f cc v 0 p 0 p
def cBy (nm : Nat → Nat) (hd : Int32) (f : Nat → F6) (be : Nat → Nat) (tt y m a : Nat) : Nat := pgs (tW hd f (nm (3 + (3 * y + 1))) (be (3 * a + 1)) (nm (3 + (3 * y + 2))) tt) 0 m
theorem w3_ti {w : Int32} (h1 : -9 ≤ w.toInt) (h2 : w.toInt ≤ 20) : (w + 3).toInt = w.toInt + 3 := by
  have e : w + 3 = zI (w.toInt + 3) := by
    rw [← zI_self w, show (3 : Int32) = zI 3 from rfl, zI_add, zI_self]
  rw [e, zI_ti (by omega) (by omega)]
theorem tW_rng (hd : Int32) (f : Nat → F6) (cc v kd tt p : Nat) : -9 ≤ (tW hd f cc v kd tt p).toInt ∧ (tW hd f cc v kd tt p).toInt ≤ 20 := by
  have rg := wv_rng hd f cc v 0 p 0 p
  have e := w3_ti rg.1 rg.2
  have e2 : (20 : Int32).toInt = 20 := by decide
  unfold tW
  by_cases c : kd = tt
  · rw [if_pos c]
    by_cases d : 20 < wv hd f cc v 0 p 0 p + 3
    · rw [if_pos d, e2]; omega
    · rw [if_neg d, e]
      rw [Int32.lt_iff_toInt_lt, e, e2] at d; omega
  · rw [if_neg c]; exact rg
theorem c_by39 {n B H : Nat} {nm : Nat → Nat} {nl : Nat} {hd : Int32} {f : Nat → F6} {be : Nat → Nat} {h0 g0 : Mm} (x : CX n B H nm nl hd f be h0 g0) {tt y m v : Nat} (hy : y < B) (hv : v ≤ 9) (hm : m ≤ 9) (more : Int32) (hmore : more = if nm (3 + (3 * y + 2)) = tt then 3 else 0) : ∀ (d q k : Nat) (h : Mm), k + d = m → d < q → KC n nl hd f h0 h →
    ∃ h', X8_calmBy_39 n q (zN y) (zN m) more (zN v) (zN (pgs (tW hd f (nm (3 + (3 * y + 1))) v (nm (3 + (3 * y + 2))) tt) 0 k)) (zN k) h = some (zN (pgs (tW hd f (nm (3 + (3 * y + 1))) v (nm (3 + (3 * y + 2))) tt) 0 m), h') ∧ KC n nl hd f h0 h' := by
  intro d
  induction d with
  | zero =>
    intro q k h hk hq kc
    obtain ⟨q, rfl⟩ : ∃ m, q = m + 1 := ⟨q - 1, by omega⟩
    obtain rfl : k = m := by omega
    unfold X8_calmBy_39
    rw [if_pos ((zN_le (by omega) (by omega)).mpr (Nat.le_refl k))]
    exact ⟨h, rfl, kc⟩
  | succ d ih =>
    intro q k h hk hq kc
    obtain ⟨q, rfl⟩ : ∃ m, q = m + 1 := ⟨q - 1, by omega⟩
    obtain ⟨h1, e1, e2, -⟩ := c_worthW x kc (y := y) (v := v) (b := 0) (p := k) (nn := 0) (t := k) hy hv (by omega) (by omega) (by omega) (by omega)
    have rg := wv_rng hd f (nm (3 + (3 * y + 1))) v 0 k 0 k
    have rt := tW_rng hd f (nm (3 + (3 * y + 1))) v (nm (3 + (3 * y + 2))) tt k
    have et : (if (20 : Int32) < wv hd f (nm (3 + (3 * y + 1))) v 0 k 0 k + more then 20 else wv hd f (nm (3 + (3 * y + 1))) v 0 k 0 k + more) = tW hd f (nm (3 + (3 * y + 1))) v (nm (3 + (3 * y + 2))) tt k := by
      unfold tW
      by_cases c : nm (3 + (3 * y + 2)) = tt
      · rw [hmore, if_pos c, if_pos c]
      · rw [hmore, if_neg c, if_neg c, Int32.add_zero, if_neg]
        rw [Int32.lt_iff_toInt_lt, show (20 : Int32).toInt = 20 from by decide]; omega
    unfold X8_calmBy_39
    rw [if_neg (by rw [zN_le (by omega) (by omega)]; omega), show (0 : Int32) = zN 0 from rfl, e1, bd_some, j_min, bp_some, et, c_cadd (pgs_le (by omega) k) rt.1 (by omega), bp_some, show (1 : Int32) = zN 1 from rfl, zN_add]
    exact ih q (k + 1) h1 (by omega) (by omega) e2
theorem c_calmBy {n B H : Nat} {nm : Nat → Nat} {nl : Nat} {hd : Int32} {f : Nat → F6} {be : Nat → Nat} {h0 g0 : Mm} (x : CX n B H nm nl hd f be h0 g0) {h : Mm} {tt y m a : Nat} (kc : KC n nl hd f h0 h) (hy : y < B) (ha : a < H) (hm : m ≤ 9) (ht : tt < 100) : ∃ h', X8_calmBy n (zN tt) (zN y) (zN m) (zN a) h = some (zN (cBy nm hd f be tt y m a), h') ∧ KC n nl hd f h0 h' := by
  obtain ⟨x1, x2, ⟨q1, -⟩, -, -⟩ := id x
  have hH := x2.2.1.2.1
  have kk := (x2.2.2.2.2.2.2.1 y hy).2.2.2
  obtain ⟨⟨t1, t2, t3⟩, -, v1, v2, v3⟩ := q1 a ha
  have key : ∀ more, more = (if nm (3 + (3 * y + 2)) = tt then 3 else 0) → ∃ h', X8_calmBy_17 n (zN y) (zN m) (zN a) more h = some (zN (cBy nm hd f be tt y m a), h') ∧ KC n nl hd f h0 h' := fun more e => by
    unfold X8_calmBy_17
    rw [at_30 (by omega), bp_some, kc.i 30 (by omega), t2]
    exact c_by39 x hy v2 hm more e m n 0 h (by omega) (by omega) kc
  unfold X8_calmBy
  rw [c_kind (x.lc kc) hy, bp_some]
  by_cases c : nm (3 + (3 * y + 2)) = tt
  · rw [if_pos (by rw [c])]; exact key 3 (by rw [if_pos c])
  · rw [if_neg (by rw [zN_eq (by omega) (by omega)]; exact c)]; exact key 0 (by rw [if_neg c])
theorem m_if6 {n B H : Nat} {nm : Nat → Nat} {nl : Nat} {hd : Int32} {f : Nat → F6} {be : Nat → Nat} {h0 g0 : Mm} (x : CX n B H nm nl hd f be h0 g0) {tt y m a : Nat} (hy : y < B) (ha : a < H) (hm : m ≤ 9) (ht : tt < 100) : ∀ (d q k : Nat) (g : Mm), k + d = m → d < q → KG n nl hd f g0 g →
    ∃ g', X12_calmIf_6 n q (zN tt) (zN y) (zN m) (zN a) (zN (pgs (tW hd f (nm (3 + (3 * y + 1))) (be (3 * a + 1)) (nm (3 + (3 * y + 2))) tt) 0 k)) (zN k) g = some (zN (cBy nm hd f be tt y m a), g') ∧ KG n nl hd f g0 g' := by
  obtain ⟨x1, x2, ⟨q1, -⟩, -, -⟩ := id x
  have hH := x2.2.1.2.1
  have kk := (x2.2.2.2.2.2.2.1 y hy).2.2.2
  obtain ⟨-, ⟨u1, u2, u3⟩, v1, v2, v3⟩ := q1 a ha
  have iv : inB (zN (3 * a + 1)) (aln 264) := by rw [al_264, zN_inB (by omega)]; omega
  intro d
  induction d with
  | zero =>
    intro q k g hk hq kg
    obtain ⟨q, rfl⟩ : ∃ m, q = m + 1 := ⟨q - 1, by omega⟩
    obtain rfl : k = m := by omega
    unfold X12_calmIf_6
    rw [if_pos ((zN_le (by omega) (by omega)).mpr (Nat.le_refl k))]
    exact ⟨g, rfl, kg⟩
  | succ d ih =>
    intro q k g hk hq kg
    obtain ⟨q, rfl⟩ : ∃ m, q = m + 1 := ⟨q - 1, by omega⟩
    obtain ⟨g1, e1, e2, -⟩ := m_pageK x kg (y := y) (v := be (3 * a + 1)) (b := 0) (p := k) (nn := 0) (t := k) hy v2 (by omega) (by omega) (by omega) (by omega)
    have rg := wv_rng hd f (nm (3 + (3 * y + 1))) (be (3 * a + 1)) 0 k 0 k
    have rt := tW_rng hd f (nm (3 + (3 * y + 1))) (be (3 * a + 1)) (nm (3 + (3 * y + 2))) tt k
    unfold X12_calmIf_6
    rw [if_neg (by rw [zN_le (by omega) (by omega)]; omega), show (3 : Int32) = zN 3 from rfl, show (1 : Int32) = zN 1 from rfl, zN_mul, zN_add, if_pos iv, zN_ix (by omega), kg.i 264 (by omega), u2, show (0 : Int32) = zN 0 from rfl, e1, bd_some, m_kind (x.lm e2) hy, bp_some]
    have fin1 : X12_calmIf_61 n (X12_calmIf_6 n q) (zN tt) (zN y) (zN m) (zN a) (zN k) (zN (pgs (tW hd f (nm (3 + (3 * y + 1))) (be (3 * a + 1)) (nm (3 + (3 * y + 2))) tt) 0 k)) (tW hd f (nm (3 + (3 * y + 1))) (be (3 * a + 1)) (nm (3 + (3 * y + 2))) tt k) g1 = X12_calmIf_6 n q (zN tt) (zN y) (zN m) (zN a) (zN (pgs (tW hd f (nm (3 + (3 * y + 1))) (be (3 * a + 1)) (nm (3 + (3 * y + 2))) tt) 0 (k + 1))) (zN (k + 1)) g1 := by
      unfold X12_calmIf_61
      rw [m_cadd (pgs_le (by omega) k) rt.1 (by omega), bp_some, show (1 : Int32) = zN 1 from rfl, zN_add]; rfl
    obtain ⟨g', r1, r2⟩ := ih q (k + 1) g1 (by omega) (by omega) e2
    refine ⟨g', ?_, r2⟩
    rw [← r1, ← fin1]
    by_cases c : nm (3 + (3 * y + 2)) = tt
    · rw [if_pos (by rw [c]), j_min, bp_some]
      congr 1
      unfold tW
      rw [if_pos c, show zN 3 = 3 from rfl]
      have e := w3_ti rg.1 rg.2
      have e2 : (20 : Int32).toInt = 20 := by decide
      generalize wv hd f (nm (3 + (3 * y + 1))) (be (3 * a + 1)) 0 k 0 k + 3 = z at *
      by_cases d1 : z < 20
      · rw [if_pos d1, if_neg]
        rw [Int32.lt_iff_toInt_lt] at *; omega
      · rw [if_neg d1]
        by_cases d2 : 20 < z
        · rw [if_pos d2]
        · rw [if_neg d2]
          apply Int32.toInt_inj.mp
          rw [Int32.lt_iff_toInt_lt] at *; omega
    · rw [if_neg (by rw [zN_eq (by omega) (by omega)]; exact c)]
      congr 1
      unfold tW
      rw [if_neg c]
theorem m_calmIf {n B H : Nat} {nm : Nat → Nat} {nl : Nat} {hd : Int32} {f : Nat → F6} {be : Nat → Nat} {h0 g0 : Mm} (x : CX n B H nm nl hd f be h0 g0) {g : Mm} {tt y m a : Nat} (kg : KG n nl hd f g0 g) (hy : y < B) (ha : a < H) (hm : m ≤ 9) (ht : tt < 100) : ∃ g', X12_calmIf n (zN tt) (zN y) (zN m) (zN a) g = some (zN (cBy nm hd f be tt y m a), g') ∧ KG n nl hd f g0 g' := by
  have hn := x.1
  unfold X12_calmIf
  exact m_if6 x hy ha hm ht m n 0 g (by omega) (by omega) kg
def rv (h0 : Mm) (j i : Nat) : Nat := (h0.1 250 (5 * j + i)).toNatClampNeg
def fitF (nm : Nat → Nat) (hd : Int32) (f : Nat → F6) (be : Nat → Nat) (h0 : Mm) (tt : Nat) : Nat → Nat → Bool
  | 0, _ => true
  | d + 1, j => if (decide (rv h0 j 3 ≤ cBy nm hd f be tt (rv h0 j 0) (rv h0 j 1) (rv h0 j 2))) = decide (rv h0 j 4 = 1) then fitF nm hd f be h0 tt d (j + 1) else false
theorem cBy_le (nm : Nat → Nat) (hd : Int32) (f : Nat → F6) (be : Nat → Nat) (tt y m a : Nat) : cBy nm hd f be tt y m a ≤ 99 := pgs_le (by omega) m
theorem b2i_eq (a b : Bool) : (b2i a = b2i b) ↔ a = b := by cases a <;> cases b <;> decide
theorem c_fits2 {n B H : Nat} {nm : Nat → Nat} {nl : Nat} {hd : Int32} {f : Nat → F6} {be : Nat → Nat} {h0 g0 : Mm} {sn : Nat} (x : CX n B H nm nl hd f be h0 g0) (hS : WatchR B H nm sn (h0.1 249) (h0.1 250) (g0.1 251) (g0.1 270)) {tt : Nat} (ht : tt < 100) : ∀ (d q j : Nat) (h : Mm), j + d = sn → d < q → KC n nl hd f h0 h → ∃ h', X8_fits_2 n q (zN tt) (zN j) h = some (fitF nm hd f be h0 tt d j, h') ∧ KC n nl hd f h0 h' := by
  obtain ⟨⟨s1, s2, s3⟩, s4⟩ := hS
  intro d
  induction d with
  | zero =>
    intro q j h hj hq kc
    obtain ⟨q, rfl⟩ : ∃ m, q = m + 1 := ⟨q - 1, by omega⟩
    unfold X8_fits_2
    rw [kc.i 249 (by omega), s2, if_pos ((zN_le (by omega) (by omega)).mpr (by omega))]
    exact ⟨h, rfl, kc⟩
  | succ d ih =>
    intro q j h hj hq kc
    obtain ⟨q, rfl⟩ : ∃ m, q = m + 1 := ⟨q - 1, by omega⟩
    obtain ⟨b, p, y, v, w, z1, z2, z3, z4, z5, z6, ⟨e0, e1, e2, e3, e4⟩, -⟩ := s4 j (by omega)
    have pg := (x.2.1.2.2.2.2.2.2.1 b z1)
    have hH := x.2.1.2.1.2.1
    have hB6 := x.2.1.2.1.1
    have r0 : rv h0 j 0 = b := by unfold rv; rw [Nat.add_zero, e0, zN_ix (by omega)]
    have r1 : rv h0 j 1 = p := by unfold rv; rw [e1, zN_ix (by omega)]
    have r2 : rv h0 j 2 = y := by unfold rv; rw [e2, zN_ix (by omega)]
    have r3 : rv h0 j 3 = v := by unfold rv; rw [e3, zN_ix (by omega)]
    have r4 : rv h0 j 4 = w := by unfold rv; rw [e4, zN_ix (by omega)]
    obtain ⟨h1, c1, c2⟩ := c_calmBy x kc (tt := tt) (y := b) (m := p) (a := y) z1 z4 (by omega) ht
    have cl := cBy_le nm hd f be tt b p y
    unfold X8_fits_2 fitF
    rw [r0, r1, r2, r3, r4, kc.i 249 (by omega), s2, if_neg (by rw [zN_le (by omega) (by omega)]; omega)]
    simp only [show (5 : Int32) = zN 5 from rfl, show (1 : Int32) = zN 1 from rfl, show (2 : Int32) = zN 2 from rfl, show (3 : Int32) = zN 3 from rfl, zN_mul, zN_add, Nat.mul_comm j 5]
    rw [at_250 (by omega), bp_some, at_250 (by omega), bp_some, at_250 (by omega), bp_some, kc.i 250 (by omega), e0, e1, e2, c1, bd_some, at_250 (by omega), bp_some, c2.i 250 (by omega), e3]
    have fi : ∀ s0, X8_fits_69 n (X8_fits_2 n q) (zN tt) (zN j) (zN (5 * j)) s0 h1 = (if s0 = decide (w = 1) then X8_fits_2 n q (zN tt) (zN (j + 1)) h1 else some (false, h1)) := fun s0 => by
      unfold X8_fits_69 X8_fits_87
      simp only [show (4 : Int32) = zN 4 from rfl, show (1 : Int32) = zN 1 from rfl, zN_add, b2i_eq]
      rw [at_250 (by omega), bp_some, c2.i 250 (by omega), e4]
      obtain rfl | rfl : w = 0 ∨ w = 1 := by omega
      · rw [if_pos (show zN 0 = 0 from rfl)]; rfl
      · rw [if_neg (by decide)]; rfl
    rw [fi, fi]
    obtain ⟨h2, i1, i2⟩ := ih q (j + 1) h1 (by omega) (by omega) c2
    have cmp : (if zN (cBy nm hd f be tt b p y) < zN v then (if false = decide (w = 1) then X8_fits_2 n q (zN tt) (zN (j + 1)) h1 else some (false, h1)) else (if true = decide (w = 1) then X8_fits_2 n q (zN tt) (zN (j + 1)) h1 else some (false, h1))) = (if decide (v ≤ cBy nm hd f be tt b p y) = decide (w = 1) then X8_fits_2 n q (zN tt) (zN (j + 1)) h1 else some (false, h1)) := by
      by_cases c : v ≤ cBy nm hd f be tt b p y
      · rw [if_neg (by rw [zN_lt (by omega) (by omega)]; omega), decide_eq_true c]
      · rw [if_pos ((zN_lt (by omega) (by omega)).mpr (by omega)), decide_eq_false c]
    rw [cmp]
    by_cases c : decide (v ≤ cBy nm hd f be tt b p y) = decide (w = 1)
    · rw [if_pos c, if_pos c]; exact ⟨h2, i1, i2⟩
    · rw [if_neg c, if_neg c]; exact ⟨h1, rfl, c2⟩
theorem m_liked2 {n B H : Nat} {nm : Nat → Nat} {nl : Nat} {hd : Int32} {f : Nat → F6} {be : Nat → Nat} {h0 g0 : Mm} {sn : Nat} (x : CX n B H nm nl hd f be h0 g0) (hS : WatchR B H nm sn (h0.1 249) (h0.1 250) (g0.1 251) (g0.1 270)) {tt : Nat} (ht : tt < 100) : ∀ (d q j : Nat) (g : Mm), j + d = sn → d < q → KG n nl hd f g0 g → ∃ g', X12_isLiked_2 n q (zN tt) (zN j) g = some (fitF nm hd f be h0 tt d j, g') ∧ KG n nl hd f g0 g' := by
  obtain ⟨⟨s1, s2, s3⟩, s4⟩ := hS
  intro d
  induction d with
  | zero =>
    intro q j g hj hq kg
    obtain ⟨q, rfl⟩ : ∃ m, q = m + 1 := ⟨q - 1, by omega⟩
    unfold X12_isLiked_2
    rw [kg.2.2.1 47 rfl, s3, if_pos ((zN_le (by omega) (by omega)).mpr (by omega))]
    exact ⟨g, rfl, kg⟩
  | succ d ih =>
    intro q j g hj hq kg
    obtain ⟨q, rfl⟩ : ∃ m, q = m + 1 := ⟨q - 1, by omega⟩
    obtain ⟨b, p, y, v, w, z1, z2, z3, z4, z5, z6, ⟨e0, e1, e2, e3, e4⟩, ⟨f0, f1, f2, f3, f4⟩⟩ := s4 j (by omega)
    have pg := (x.2.1.2.2.2.2.2.2.1 b z1)
    have hH := x.2.1.2.1.2.1
    have hB6 := x.2.1.2.1.1
    have r0 : rv h0 j 0 = b := by unfold rv; rw [Nat.add_zero, e0, zN_ix (by omega)]
    have r1 : rv h0 j 1 = p := by unfold rv; rw [e1, zN_ix (by omega)]
    have r2 : rv h0 j 2 = y := by unfold rv; rw [e2, zN_ix (by omega)]
    have r3 : rv h0 j 3 = v := by unfold rv; rw [e3, zN_ix (by omega)]
    have r4 : rv h0 j 4 = w := by unfold rv; rw [e4, zN_ix (by omega)]
    obtain ⟨g1, c1, c2⟩ := m_calmIf x kg (tt := tt) (y := b) (m := p) (a := y) z1 z4 (by omega) ht
    have cl := cBy_le nm hd f be tt b p y
    have i0 : inB (zN (5 * j)) (aln 270) := by rw [al_270, zN_inB (by omega)]; omega
    have i1 : inB (zN (5 * j + 1)) (aln 270) := by rw [al_270, zN_inB (by omega)]; omega
    have i2 : inB (zN (5 * j + 2)) (aln 270) := by rw [al_270, zN_inB (by omega)]; omega
    have i3 : inB (zN (5 * j + 3)) (aln 270) := by rw [al_270, zN_inB (by omega)]; omega
    have i4 : inB (zN (5 * j + 4)) (aln 270) := by rw [al_270, zN_inB (by omega)]; omega
    unfold X12_isLiked_2 fitF
    rw [r0, r1, r2, r3, r4, kg.2.2.1 47 rfl, s3, if_neg (by rw [zN_le (by omega) (by omega)]; omega)]
    simp only [show (5 : Int32) = zN 5 from rfl, show (1 : Int32) = zN 1 from rfl, show (2 : Int32) = zN 2 from rfl, show (3 : Int32) = zN 3 from rfl, zN_mul, zN_add]
    rw [if_pos i0, if_pos i1, if_pos i2, zN_ix (by omega), zN_ix (by omega), zN_ix (by omega), kg.i 270 (by omega), f0, f1, f2, c1, bd_some, if_pos i3, zN_ix (by omega), c2.i 270 (by omega), f3]
    have fi : ∀ s0, X12_isLiked_61 n (X12_isLiked_2 n q) (zN tt) (zN j) s0 g1 = (if s0 = decide (w = 1) then X12_isLiked_2 n q (zN tt) (zN (j + 1)) g1 else some (false, g1)) := fun s0 => by
      unfold X12_isLiked_61 X12_isLiked_80
      simp only [show (5 : Int32) = zN 5 from rfl, show (4 : Int32) = zN 4 from rfl, show (1 : Int32) = zN 1 from rfl, zN_mul, zN_add, b2i_eq]
      rw [if_pos i4, zN_ix (by omega), c2.i 270 (by omega), f4]
      obtain rfl | rfl : w = 0 ∨ w = 1 := by omega
      · rw [if_neg (by decide)]; rfl
      · rw [if_pos rfl]; rfl
    rw [fi, fi]
    obtain ⟨g2, i1, i2⟩ := ih q (j + 1) g1 (by omega) (by omega) c2
    have cmp : (if zN (cBy nm hd f be tt b p y) < zN v then (if false = decide (w = 1) then X12_isLiked_2 n q (zN tt) (zN (j + 1)) g1 else some (false, g1)) else (if true = decide (w = 1) then X12_isLiked_2 n q (zN tt) (zN (j + 1)) g1 else some (false, g1))) = (if decide (v ≤ cBy nm hd f be tt b p y) = decide (w = 1) then X12_isLiked_2 n q (zN tt) (zN (j + 1)) g1 else some (false, g1)) := by
      by_cases c : v ≤ cBy nm hd f be tt b p y
      · rw [if_neg (by rw [zN_lt (by omega) (by omega)]; omega), decide_eq_true c]
      · rw [if_pos ((zN_lt (by omega) (by omega)).mpr (by omega)), decide_eq_false c]
    rw [cmp]
    by_cases c : decide (v ≤ cBy nm hd f be tt b p y) = decide (w = 1)
    · rw [if_pos c, if_pos c]; exact ⟨g2, i1, i2⟩
    · rw [if_neg c, if_neg c]; exact ⟨g1, rfl, c2⟩
theorem c_fits {n B H : Nat} {nm : Nat → Nat} {nl : Nat} {hd : Int32} {f : Nat → F6} {be : Nat → Nat} {h0 g0 : Mm} {sn : Nat} (x : CX n B H nm nl hd f be h0 g0) (hS : WatchR B H nm sn (h0.1 249) (h0.1 250) (g0.1 251) (g0.1 270)) {tt : Nat} (ht : tt < 100) {h : Mm} (kc : KC n nl hd f h0 h) : ∃ h', X8_fits n (zN tt) h = some (fitF nm hd f be h0 tt sn 0, h') ∧ KC n nl hd f h0 h' := by
  have hn := x.1
  have hs := hS.1.1
  exact c_fits2 x hS ht sn n 0 h (by omega) (by omega) kc
theorem m_liked {n B H : Nat} {nm : Nat → Nat} {nl : Nat} {hd : Int32} {f : Nat → F6} {be : Nat → Nat} {h0 g0 : Mm} {sn : Nat} (x : CX n B H nm nl hd f be h0 g0) (hS : WatchR B H nm sn (h0.1 249) (h0.1 250) (g0.1 251) (g0.1 270)) {tt : Nat} (ht : tt < 100) {g : Mm} (kg : KG n nl hd f g0 g) : ∃ g', X12_isLiked n (zN tt) g = some (fitF nm hd f be h0 tt sn 0, g') ∧ KG n nl hd f g0 g' := by
  have hn := x.1
  have hs := hS.1.1
  exact m_liked2 x hS ht sn n 0 g (by omega) (by omega) kg
/-- the tastes from the k-th on, and those codes that are k or more -/
def ts (k : Nat) : Nat := if k = 4 then 9 else k
def tl (k : Nat) : List Nat := [0, 1, 2, 3, 9].drop k
def ml (k : Nat) : List Nat := [0, 1, 2, 3, 9].filter (fun t => k ≤ t)
theorem tl_s : ∀ k, k < 5 → tl k = ts k :: tl (k + 1) := by decide
theorem ml_s : ∀ k, k < 10 → ml k = if k < 4 ∨ k = 9 then k :: ml (k + 1) else ml (k + 1) := by decide
theorem ex1007 : ∀ k, k < 5 → EX 1007 k = zN (ts k) := by decide
theorem ts_lt {k : Nat} (h : k < 5) : ts k < 100 := by unfold ts; split <;> omega
theorem m_isCode {k : Nat} {h : Mm} (hk : k < 10) : X12_isCode (zN k) h = some (decide (k < 4 ∨ k = 9)) := by
  unfold X12_isCode X12_isCode_11
  rw [zN_lit, zN_lit]
  by_cases c : k < 4
  · rw [if_pos ((zN_lt (by omega) (by decide)).mpr c), decide_eq_true (Or.inl c)]
  · rw [if_neg (by rw [zN_lt (by omega) (by decide)]; exact c)]
    by_cases d : k = 9
    · rw [if_pos (by rw [d]), decide_eq_true (Or.inr d)]
    · rw [if_neg (by rw [zN_eq (by omega) (by decide)]; exact d), decide_eq_false (by omega)]
def likF (r : Nat → Bool) (i : Int32) : List Nat → Nat → Int32
  | [], c => if i = -1 then zN c else -1
  | t :: l, c => if r t then (if zN c = i then zN t else likF r i l (c + 1)) else likF r i l c
theorem rdA_1007 {h : Mm} {k : Nat} : rdA h 1007 k = EX 1007 k := by unfold rdA; rw [if_neg (by decide)]
theorem c_liked13 {n B H : Nat} {nm : Nat → Nat} {nl : Nat} {hd : Int32} {f : Nat → F6} {be : Nat → Nat} {h0 g0 : Mm} {sn : Nat} (x : CX n B H nm nl hd f be h0 g0) (hS : WatchR B H nm sn (h0.1 249) (h0.1 250) (g0.1 251) (g0.1 270)) (i : Int32) : ∀ (d q k c : Nat) (h : Mm), k + d = 5 → d < q → KC n nl hd f h0 h → ∃ h', X8_liked_13 n q i (zN c) (zN 5) (zN k) h = some (likF (fun t => fitF nm hd f be h0 t sn 0) i (tl k) c, h') ∧ KC n nl hd f h0 h' := by
  intro d
  induction d with
  | zero =>
    intro q k c h hk hq kc
    obtain ⟨q, rfl⟩ : ∃ m, q = m + 1 := ⟨q - 1, by omega⟩
    obtain rfl : k = 5 := by omega
    unfold X8_liked_13
    rw [if_pos (Int32.le_refl _)]
    refine ⟨h, ?_, kc⟩
    show _ = some (if i = -1 then zN c else -1, h)
    by_cases z : i = -1
    · rw [if_pos z, if_pos z]
    · rw [if_neg z, if_neg z]
  | succ d ih =>
    intro q k c h hk hq kc
    obtain ⟨q, rfl⟩ : ∃ m, q = m + 1 := ⟨q - 1, by omega⟩
    obtain ⟨h1, e1, e2⟩ := c_fits x hS (ts_lt (k := k) (by omega)) kc
    unfold X8_liked_13 X8_liked_46
    rw [if_neg (by rw [zN_le (by decide) (by omega)]; omega), if_pos (by rw [zN_inB (by omega), al_1007]; omega), zN_ix (by omega), rdA_1007, ex1007 k (by omega), e1, bd_some, tl_s k (by omega), show (1 : Int32) = zN 1 from rfl, zN_add, zN_add]
    show ∃ h', _ = some (if fitF nm hd f be h0 (ts k) sn 0 = true then (if zN c = i then zN (ts k) else likF (fun t => fitF nm hd f be h0 t sn 0) i (tl (k + 1)) (c + 1)) else likF (fun t => fitF nm hd f be h0 t sn 0) i (tl (k + 1)) c, h') ∧ _
    by_cases z : fitF nm hd f be h0 (ts k) sn 0 = true
    · simp only [if_pos z]
      by_cases w : zN c = i
      · simp only [if_pos w]; exact ⟨h1, rfl, e2⟩
      · simp only [if_neg w]; exact ih q (k + 1) (c + 1) h1 (by omega) (by omega) e2
    · simp only [if_neg z]; exact ih q (k + 1) c h1 (by omega) (by omega) e2
theorem m_likes23 {n B H : Nat} {nm : Nat → Nat} {nl : Nat} {hd : Int32} {f : Nat → F6} {be : Nat → Nat} {h0 g0 : Mm} {sn : Nat} (x : CX n B H nm nl hd f be h0 g0) (hS : WatchR B H nm sn (h0.1 249) (h0.1 250) (g0.1 251) (g0.1 270)) (i : Int32) : ∀ (d q k c : Nat) (g : Mm), k + d = 10 → d < q → KG n nl hd f g0 g → ∃ g', X12_likes_23 n q i (zN c) (zN k) g = some (likF (fun t => fitF nm hd f be h0 t sn 0) i (ml k) c, g') ∧ KG n nl hd f g0 g' := by
  intro d
  induction d with
  | zero =>
    intro q k c g hk hq kg
    obtain ⟨q, rfl⟩ : ∃ m, q = m + 1 := ⟨q - 1, by omega⟩
    obtain rfl : k = 10 := by omega
    unfold X12_likes_23
    rw [show (10 : Int32) = zN 10 from rfl, if_pos (Int32.le_refl _)]
    refine ⟨g, ?_, kg⟩
    show _ = some (if i = -1 then zN c else -1, g)
    by_cases z : i = -1
    · rw [if_pos z, if_pos z]
    · rw [if_neg z, if_neg z]
  | succ d ih =>
    intro q k c g hk hq kg
    obtain ⟨q, rfl⟩ : ∃ m, q = m + 1 := ⟨q - 1, by omega⟩
    unfold X12_likes_23 X12_likes_57
    rw [show (10 : Int32) = zN 10 from rfl, if_neg (by rw [zN_le (by decide) (by omega)]; omega), m_isCode (by omega), bp_some, ml_s k (by omega), show (1 : Int32) = zN 1 from rfl, zN_add, zN_add]
    by_cases y : k < 4 ∨ k = 9
    · obtain ⟨g1, e1, e2⟩ := m_liked x hS (tt := k) (by omega) kg
      rw [decide_eq_true y, if_pos rfl, if_pos y, e1, bd_some]
      show ∃ g', _ = some (if fitF nm hd f be h0 k sn 0 = true then (if zN c = i then zN k else likF (fun t => fitF nm hd f be h0 t sn 0) i (ml (k + 1)) (c + 1)) else likF (fun t => fitF nm hd f be h0 t sn 0) i (ml (k + 1)) c, g') ∧ _
      by_cases z : fitF nm hd f be h0 k sn 0 = true
      · simp only [if_pos z]
        by_cases w : zN c = i
        · simp only [if_pos w]; exact ⟨g1, rfl, e2⟩
        · simp only [if_neg w]; exact ih q (k + 1) (c + 1) g1 (by omega) (by omega) e2
      · simp only [if_neg z]; exact ih q (k + 1) c g1 (by omega) (by omega) e2
    · rw [decide_eq_false y, if_neg (by decide), if_neg y]
      exact ih q (k + 1) c g (by omega) (by omega) kg
theorem likF_lt {r : Nat → Bool} {i : Int32} (hi : i < -1) : ∀ (l : List Nat) (c : Nat), c + l.length < 2147483648 → likF r i l c = -1
  | [], c, _ => by
    unfold likF; rw [if_neg (fun z => by rw [z] at hi; exact absurd hi (by decide))]
  | t :: l, c, hl => by
    unfold likF
    rw [List.length_cons] at hl
    have e1 : ¬ zN c = i := fun z => by
      rw [← z, Int32.lt_iff_toInt_lt, zN_ti (by omega)] at hi
      have e9 : (-1 : Int32).toInt = -1 := by decide
      omega
    rw [likF_lt hi l (c + 1) (by omega), likF_lt hi l c (by omega), if_neg e1]
    by_cases z : r t = true
    · rw [if_pos z]
    · rw [if_neg z]
theorem sim_likes (n : Nat) (hn : 20000 ≤ n) : Sim_likes n (R n) := by
  intro x1 h g hR
  have hR0 := hR.thr 0
  obtain ⟨B, H, nm, nl, hd, f, be, sn, x, hS, ex⟩ := R.cxw hn hR0
  unfold X11_likes X12_likes X8_liked
  generalize wI g 251 0 (0 : Int32) = g0 at *
  obtain ⟨-, hL, -, -, -⟩ := id x
  have hH := hL.2.1.2.1
  rw [c_stands hL, bp_some, hL.1.2.2.2, al_1007]
  obtain ⟨h1, e1, e2⟩ := c_liked13 x hS x1 5 n 0 0 h (by omega) (by omega) x.c
  obtain ⟨g1, d1, d2⟩ := m_likes23 x hS x1 10 n 0 0 g0 (by omega) (by omega) x.g
  have e1' : X8_liked_13 n n x1 0 (Int32.ofNat 5) 0 h = _ := e1
  have d1' : X12_likes_23 n n x1 0 0 g0 = _ := d1
  rw [e1', d1', bd_some]
  by_cases c : H = 0
  · subst c; exact ⟨_, h, g0, rfl, rfl, hR0⟩
  · rw [decide_eq_true (show 0 < H by omega), if_pos rfl, if_neg (by rw [zN_lit, zN_eq (by omega) (by decide)]; exact c)]
    by_cases z : (-1 : Int32) ≤ x1
    · rw [if_pos z]; exact ⟨_, h1, g1, rfl, rfl, ex _ _ e2 d2⟩
    · rw [if_neg z, likF_lt (Int32.not_le.mp z) _ _ (by decide)]; exact ⟨_, h1, g0, rfl, rfl, ex _ _ e2 x.g⟩
theorem sim_seen (n : Nat) : Sim_seen n (R n) := by
  intro x1 x2 x3 x4 x5 h g hR
  have hR0 := hR.thr 0
  obtain ⟨B, H, nm, A, nx, E, nw, sn, s, tp, nl, hd, f, hL, hP, hI, hW, hS, hT, hC, hM, hu⟩ := id hR0
  unfold X11_seen X12_seen
  generalize wI g 251 0 (0 : Int32) = g0 at *
  have hH := hL.2.1.2.1
  have hB6 := hL.2.1.1
  obtain ⟨⟨s1, s2, s3⟩, s4⟩ := id hS
  have bad : ∀ a : Option (Int32 × Mm), (∃ g2, a = some (-1, g2) ∧ R n h g2) → (∀ b : Option (Int32 × Mm), b = some (-1, h) → ∃ r h2 g2, b = some (r, h2) ∧ a = some (r, g2) ∧ R n h2 g2) := fun a ⟨g2, e, q⟩ b eb => ⟨-1, h, g2, eb, e, q⟩
  rcases idx x1 B with ⟨y, hy, rfl⟩ | hx
  · have pg := hL.2.2.2.2.2.2.1 y hy
    rw [m_isBook_y hL hy, bp_some, if_pos rfl]
    rcases idx x3 H with ⟨a, ha, rfl⟩ | hx
    · rw [m_isHouse_y hL ha, bp_some, if_pos rfl, m_pages hL hy, bp_some, m_isIn_l (L := (1 : Int64)) x2 1 (nm (3 + 3 * y)) g0 rfl rfl, bp_some]
      by_cases ok : zN 1 ≤ x2 ∧ x2 ≤ zN (nm (3 + 3 * y))
      · obtain ⟨p, rfl, p1, p2⟩ := rng_N (x := x2) (lo := 1) (hi := nm (3 + 3 * y)) (by have := Int32.le_iff_toInt_le.mp ok.1; rw [zN_ti (by decide)] at this; exact this) (by have := Int32.le_iff_toInt_le.mp ok.2; rw [zN_ti (by omega)] at this; exact this)
        rw [decide_eq_true ok, if_pos rfl, c_hasPages_y hL hy p1 p2, bp_some, if_pos rfl, c_hasHouse_y hL ha, bp_some, if_pos rfl]
        rcases what x4 99 (by decide) with ⟨v, hv, rfl⟩ | ⟨hx, -⟩
        · rw [m_in (m := 99) (L := 0) (U := 99) (by decide) ⟨v, hv, rfl⟩ rfl rfl, bp_some, if_pos rfl]
          simp only [zN_lit]
          rw [ifin hv (by decide), s3]
          by_cases full : sn = 10
          · subst full
            rw [if_pos rfl]
            unfold X8_note
            rw [s2, if_neg (by decide), bd_some, if_neg (by decide)]
            exact ⟨_, h, g0, rfl, rfl, hR0⟩
          · rw [if_neg (by rw [zN_eq (by omega) (by decide)]; exact full)]
            unfold X8_note X8_note_84 X12_seen_125
            rw [s2, if_pos (by rw [zN_lit, zN_lt (by omega) (by decide)]; omega)]
            simp (disch := omega) only [zN_lit, zN_mul, zN_add, pu_250, bd_some, zN_inB, zN_ix, al_270, if_pos (show 5 * sn < 50 by omega), if_pos (show 5 * sn + 1 < 50 by omega), if_pos (show 5 * sn + 2 < 50 by omega), if_pos (show 5 * sn + 3 < 50 by omega), if_pos (show 5 * sn + 4 < 50 by omega), w_ne, s2, s3, w_eq, u_eq, Nat.mul_comm sn 5, ite_self]
            have fin1 : ∀ d : Nat, d ≤ 1 → R n (wI (wI (wI (wI (wI (wI h 250 (5 * sn) (zN y)) 250 (5 * sn + 1) (zN p)) 250 (5 * sn + 2) (zN a)) 250 (5 * sn + 3) (zN v)) 250 (5 * sn + 4) (zN d)) 249 4 (zN (sn + 1))) (wI (wI (wI (wI (wI (wI g0 270 (5 * sn) (zN y)) 270 (5 * sn + 1) (zN p)) 270 (5 * sn + 2) (zN a)) 270 (5 * sn + 3) (zN v)) 270 (5 * sn + 4) (zN d)) 251 47 (zN (sn + 1))) := fun d hd1 => by
              refine ⟨B, H, nm, A, nx, E, nw, sn + 1, s, tp, nl, hd, f, hL.ag (by simp (disch := omega) only [w_ne, w_eq, u_ne, wl_1, w_2, wl_ne, wr_ne, wr_2]) (by simp (disch := omega) only [w_ne, w_eq, u_ne, wl_1, w_2, wl_ne, wr_ne, wr_2]) (by simp (disch := omega) only [w_ne, w_eq, u_ne, wl_1, w_2, wl_ne, wr_ne, wr_2]) (by simp (disch := omega) only [w_ne, w_eq, u_ne, wl_1, w_2, wl_ne, wr_ne, wr_2]) (by simp (disch := omega) only [w_ne, w_eq, u_ne, wl_1, w_2, wl_ne, wr_ne, wr_2]) (by simp (disch := omega) only [w_ne, w_eq, u_ne, wl_1, w_2, wl_ne, wr_ne, wr_2]) (by simp (disch := omega) only [w_ne, w_eq, u_ne, wl_1, w_2, wl_ne, wr_ne, wr_2]), hP.ag (fun i _ _ => by simp (disch := omega) only [w_ne, w_eq, u_ne, wl_1, w_2, wl_ne, wr_ne, wr_2]) (fun i _ _ => by simp (disch := omega) only [w_ne, w_eq, u_ne, wl_1, w_2, wl_ne, wr_ne, wr_2]) (by simp (disch := omega) only [w_ne, w_eq, u_ne, wl_1, w_2, wl_ne, wr_ne, wr_2]) (by simp (disch := omega) only [w_ne, w_eq, u_ne, wl_1, w_2, wl_ne, wr_ne, wr_2]) (by simp (disch := omega) only [w_ne, w_eq, u_ne, wl_1, w_2, wl_ne, wr_ne, wr_2]) (by simp (disch := omega) only [w_ne, w_eq, u_ne, wl_1, w_2, wl_ne, wr_ne, wr_2]) (by simp (disch := omega) only [w_ne, w_eq, u_ne, wl_1, w_2, wl_ne, wr_ne, wr_2]) (by simp (disch := omega) only [w_ne, w_eq, u_ne, wl_1, w_2, wl_ne, wr_ne, wr_2]), hI.ag (fun i _ _ => by simp (disch := omega) only [w_ne, w_eq, u_ne, wl_1, w_2, wl_ne, wr_ne, wr_2]) (by simp (disch := omega) only [w_ne, w_eq, u_ne, wl_1, w_2, wl_ne, wr_ne, wr_2]) (by simp (disch := omega) only [w_ne, w_eq, u_ne, wl_1, w_2, wl_ne, wr_ne, wr_2]) (by simp (disch := omega) only [w_ne, w_eq, u_ne, wl_1, w_2, wl_ne, wr_ne, wr_2]), hW.ag (by simp (disch := omega) only [w_ne, w_eq, u_ne, wl_1, w_2, wl_ne, wr_ne, wr_2]) (by simp (disch := omega) only [w_ne, w_eq, u_ne, wl_1, w_2, wl_ne, wr_ne, wr_2]) (by simp (disch := omega) only [w_ne, w_eq, u_ne, wl_1, w_2, wl_ne, wr_ne, wr_2]) (by simp (disch := omega) only [w_ne, w_eq, u_ne, wl_1, w_2, wl_ne, wr_ne, wr_2]) (by simp (disch := omega) only [w_ne, w_eq, u_ne, wl_1, w_2, wl_ne, wr_ne, wr_2]) (by simp (disch := omega) only [w_ne, w_eq, u_ne, wl_1, w_2, wl_ne, wr_ne, wr_2]), ⟨⟨by omega, ?_, ?_⟩, fun j hj => ?_⟩, hT.ag (by simp (disch := omega) only [w_ne, w_eq, u_ne, wl_1, w_2, wl_ne, wr_ne, wr_2]) (by simp (disch := omega) only [w_ne, w_eq, u_ne, wl_1, w_2, wl_ne, wr_ne, wr_2]) (by simp (disch := omega) only [w_ne, w_eq, u_ne, wl_1, w_2, wl_ne, wr_ne, wr_2]) (by simp (disch := omega) only [w_ne, w_eq, u_ne, wl_1, w_2, wl_ne, wr_ne, wr_2]), hC.cg (by simp (disch := omega) only [w_ne, w_eq, u_ne, wl_1, w_2, wl_ne, wr_ne, wr_2]) (by simp (disch := omega) only [w_ne, w_eq, u_ne, wl_1, w_2, wl_ne, wr_ne, wr_2]) (fun i _ _ => by simp (disch := omega) only [w_ne, w_eq, u_ne, wl_1, w_2, wl_ne, wr_ne, wr_2]) (by simp (disch := omega) only [w_ne, w_eq, u_ne, wl_1, w_2, wl_ne, wr_ne, wr_2]), hM.cg (by simp (disch := omega) only [w_ne, w_eq, u_ne, wl_1, w_2, wl_ne, wr_ne, wr_2]) (by simp (disch := omega) only [w_ne, w_eq, u_ne, wl_1, w_2, wl_ne, wr_ne, wr_2]) (by simp (disch := omega) only [w_ne, w_eq, u_ne, wl_1, w_2, wl_ne, wr_ne, wr_2]) (by simp (disch := omega) only [w_ne, w_eq, u_ne, wl_1, w_2, wl_ne, wr_ne, wr_2]) (by simp (disch := omega) only [w_ne, w_eq, u_ne, wl_1, w_2, wl_ne, wr_ne, wr_2]) (by simp (disch := omega) only [w_ne, w_eq, u_ne, wl_1, w_2, wl_ne, wr_ne, wr_2]), (by simp (disch := omega) only [w_ne, w_eq, u_ne, wl_1, w_2, wl_ne, wr_ne, wr_2]; exact hu)⟩
              · rw [w_eq, u_eq]
              · rw [w_eq, u_eq]
              · by_cases c : j = sn
                · subst c
                  refine ⟨y, p, a, v, d, hy, p1, p2, ha, hv, hd1, ⟨?_, ?_, ?_, ?_, ?_⟩, ?_, ?_, ?_, ?_, ?_⟩
                  all_goals (simp (disch := omega) only [w_ne, w_eq, u_ne, u_eq])
                · simp (disch := omega) only [w_ne, w_eq, u_ne]
                  exact s4 j (by omega)
            cases x5 with
            | true => rw [if_pos rfl, if_pos rfl]; exact ⟨_, _, _, rfl, rfl, fin1 1 (by omega)⟩
            | false => rw [if_neg (by decide), if_neg (by decide)]; exact ⟨_, _, _, rfl, rfl, fin1 0 (by omega)⟩
        · rw [m_out (m := 99) (L := 0) (U := 99) hx rfl rfl]
          simp only [zN_lit]
          rw [ifout hx]
          exact ⟨_, h, g0, rfl, rfl, hR0⟩
      · rw [decide_eq_false ok, if_neg (show ¬ (false = true) by decide), c_hasPages_n hL (fun y' p h1 h2 h3 h4 h5 => ok (by
          obtain rfl : y = y' := (zN_eq (by omega) (by omega)).mp h2
          have pg' := hL.2.2.2.2.2.2.1 y hy
          rw [h3]; exact ⟨(zN_le (by decide) (by omega)).mpr h4, (zN_le (by omega) (by omega)).mpr h5⟩))]
        exact ⟨_, h, g0, rfl, rfl, hR0⟩
    · rw [m_isHouse_n hL hx, c_hasHouse_n hL hx]
      refine bad _ ⟨g0, rfl, hR0⟩ _ ?_
      by_cases ok : ∃ p, x2 = zN p ∧ 1 ≤ p ∧ p ≤ nm (3 + 3 * y)
      · obtain ⟨p, rfl, p1, p2⟩ := ok
        rw [c_hasPages_y hL hy p1 p2]; rfl
      · rw [c_hasPages_n hL (fun y' p h1 h2 h3 h4 h5 => ok ⟨p, h3, h4, by
          obtain rfl : y = y' := (zN_eq (by omega) (by omega)).mp h2
          exact h5⟩)]; rfl
  · rw [m_isBook_n hL hx, c_hasPages_n hL (fun y p h1 h2 _ _ _ => hx y h1 h2)]
    exact ⟨_, h, g0, rfl, rfl, hR0⟩
