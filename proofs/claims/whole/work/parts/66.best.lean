/-! the best book; how long it bears one -/
def bF : Option (Nat × Nat) → Int32
  | none => -1
  | some p => zN p.1
def bC : Option (Nat × Nat) → Int32
  | none => -1
  | some p => zN p.2
def bM : Option (Nat × Nat) → Int32
  | none => 0
  | some p => zN p.2
theorem zN_nm1 {k : Nat} (hk : k < 2147483648) : ¬ zN k = -1 := fun q => by
  have := congrArg Int32.toInt q; rw [zN_ti hk] at this; have e9 : (-1 : Int32).toInt = -1 := by decide
  omega
theorem m1_leN {k : Nat} (hk : k < 2147483648) : (-1 : Int32) ≤ zN k := by
  rw [Int32.le_iff_toInt_le, zN_ti hk]; have e9 : (-1 : Int32).toInt = -1 := by decide
  omega
theorem zN_nlem1 {k : Nat} (hk : k < 2147483648) : ¬ zN k ≤ -1 := by
  rw [Int32.le_iff_toInt_le, zN_ti hk]; have e9 : (-1 : Int32).toInt = -1 := by decide
  omega
theorem best_loop {n B H : Nat} {nm : Nat → Nat} {nl : Nat} {hd : Int32} {f : Nat → F6} {be : Nat → Nat} {h0 g0 : Mm} (x : CX n B H nm nl hd f be h0 g0) {p : Nat} (p1 : 1 ≤ p) (p9 : p ≤ 9) (x2 : Int32) : ∀ (d q q' k : Nat) (st : Option (Nat × Nat)) (h g : Mm), k + d = B → d < q → d < q' → KC n nl hd f h0 h → KG n nl hd f g0 g → (∀ b c, st = some (b, c) → c ≤ 99 ∧ b < 6) →
    ∃ r h' g', X11_best_30 n q (zN p) x2 (bF st) (bC st) (zN k) h = some (r, h') ∧ X12_best_44 n q' (zN p) x2 (bF st) (bM st) (zN k) g = some (r, g') ∧ KC n nl hd f h0 h' ∧ KG n nl hd f g0 g' := by
  have hB6 := x.2.1.2.1.1
  intro d
  induction d with
  | zero =>
    intro q q' k st h g hk hq hq' kc kg hs
    obtain ⟨q, rfl⟩ : ∃ m, q = m + 1 := ⟨q - 1, by omega⟩
    obtain ⟨q', rfl⟩ : ∃ m, q' = m + 1 := ⟨q' - 1, by omega⟩
    unfold X11_best_30 X12_best_44
    rw [c_books, bp_some, (x.lc kc).1.1, (x.lm kg).1.2.2.1, if_pos ((zN_le (by omega) (by omega)).mpr (by omega)), if_pos ((zN_le (by omega) (by omega)).mpr (by omega))]
    cases st with
    | none =>
      refine ⟨-1, h, g, ?_, ?_, kc, kg⟩
      · by_cases c : x2 = 0
        · rw [if_pos c]; rfl
        · rw [if_neg c]; rfl
      · rw [if_pos (show bF none = -1 from rfl)]; rfl
    | some p =>
      obtain ⟨b, c⟩ := p
      have := hs b c rfl
      rw [if_neg (show ¬ bF (some (b, c)) = -1 from zN_nm1 (by omega))]
      by_cases c : x2 = 0
      · rw [if_pos c, if_pos c]; exact ⟨_, h, g, rfl, rfl, kc, kg⟩
      · rw [if_neg c, if_neg c]; exact ⟨_, h, g, rfl, rfl, kc, kg⟩
  | succ d ih =>
    intro q q' k st h g hk hq hq' kc kg hs
    have hy : k < B := by omega
    obtain ⟨q, rfl⟩ : ∃ m, q = m + 1 := ⟨q - 1, by omega⟩
    obtain ⟨q', rfl⟩ : ∃ m, q' = m + 1 := ⟨q' - 1, by omega⟩
    have y := x.mv kc kg
    obtain ⟨-, hL, hB, -, -⟩ := id y
    have hB' := hL.2.1.2.2
    have hf : be 23 < H := by have := hB.2.2.2.1.2.2; omega
    have st1 := (hL.2.2.2.2.2.2.2 _ hf).2.1
    unfold X11_best_30 X12_best_44
    rw [c_books, bp_some, (x.lc kc).1.1, (x.lm kg).1.2.2.1, if_neg (by rw [zN_le (by omega) (by omega)]; omega), if_neg (by rw [zN_le (by omega) (by omega)]; omega)]
    have ek : zN k + 1 = zN (k + 1) := by rw [show (1 : Int32) = zN 1 from rfl, zN_add]
    have no : X9_canRead 27 (zN k) (zN p) false h = some false → X12_mayRead 264 (zN k) (zN p) false g = some false → ∃ r h' g', (bp (X9_canRead 27 (zN k) (zN p) false h) (fun r38 => (if r38 = true then (bd (X9_calmNow n 27 (zN k) (zN p) h) (fun r40 h42 => (X11_best_78 n (X11_best_30 n q) (zN p) x2 (bF st) (bC st) (zN k) r40 h42))) else (X11_best_78 n (X11_best_30 n q) (zN p) x2 (bF st) (bC st) (zN k) (-1 : Int32) h)))) = some (r, h') ∧ (bp (X12_mayRead 264 (zN k) (zN p) false g) (fun r49 => (if r49 = true then (bd (X12_copy n 264 265 g) (fun _ h53 => (bd (X12_reads n 265 (zN k) (zN p) false h53) (fun _ h56 => (if bF st = (-1 : Int32) then (X12_best_114 n (X12_best_44 n q') (zN p) x2 (zN k) h56) else (if inB (22 : Int32) (aln 265) then (if bM st < (h56.1 265 (22 : Int32).toNatClampNeg) then (X12_best_114 n (X12_best_44 n q') (zN p) x2 (zN k) h56) else (X12_best_126 n (X12_best_44 n q') (zN p) x2 (bF st) (bM st) (zN k) h56)) else none)))))) else (X12_best_126 n (X12_best_44 n q') (zN p) x2 (bF st) (bM st) (zN k) g)))) = some (r, g') ∧ KC n nl hd f h0 h' ∧ KG n nl hd f g0 g' := fun e1 e2 => by
      rw [e1, e2, bp_some, bp_some, if_neg (by decide), if_neg (by decide)]
      unfold X11_best_78 X11_best_94 X12_best_126
      rw [if_pos (show (-1 : Int32) ≤ bC st by
        cases st with
        | none => exact Int32.le_refl _
        | some p => obtain ⟨b, c⟩ := p; exact m1_leN (by have := hs b c rfl; omega)), ek]
      exact ih q q' (k + 1) st h g (by omega) (by omega) (by omega) kc kg hs
    rcases can_read (a := 27) (r := 264) hL (by decide) al_29 al_264 hB (zN k) (zN p) false with ⟨y', p', hy', e1, e2, -, p2, -, p4, -, ⟨c1, m1, -⟩ | ⟨c1, m1, -⟩⟩ | ⟨-, c1, m1, -⟩
    · obtain rfl : k = y' := (zN_eq (by omega) (by omega)).mp e1
      have pg := (hL.2.2.2.2.2.2.1 k hy)
      obtain rfl : p = p' := (zN_eq (by omega) (by omega)).mp e2
      have p4' : be (3 * be 23) + p ≤ nm (21 + (3 * be 23 + 1)) := p4
      obtain ⟨h1, a1, a2⟩ := c_nowK x kc hy (m := p) (by omega) (by omega)
      obtain ⟨g1, g2, d1, d2, d3, d4⟩ := m_nowK x kg hy (m := p) (by omega) (by omega)
      have cl := cNow_le (nm := nm) (hd := hd) (f := f) hB k p
      have i22 : inB (22 : Int32) (aln 265) := by rw [al_265]; decide
      have d3' : g2.1 265 (22 : Int32).toNatClampNeg = zN (cNow nm hd f be k p) := d3
      rw [c1, m1, bp_some, bp_some, if_pos rfl, if_pos rfl, a1, bd_some, d1, bd_some, d2, bd_some]
      unfold X11_best_78 X11_best_94 X12_best_114 X12_best_126
      rw [if_pos i22, d3', ek]
      generalize cNow nm hd f be k p = c at *
      have up := ih q q' (k + 1) (some (k, c)) h1 g2 (by omega) (by omega) (by omega) a2 d4 (fun b c' e => by cases e; omega)
      have kp := ih q q' (k + 1) st h1 g2 (by omega) (by omega) (by omega) a2 d4 hs
      cases st with
      | none =>
        rw [if_neg (show ¬ zN c ≤ bC none from zN_nlem1 (by omega)), if_pos (show bF none = -1 from rfl)]
        exact up
      | some s =>
        obtain ⟨b, c0⟩ := s
        have := hs b c0 rfl
        rw [if_neg (show ¬ bF (some (b, c0)) = -1 from zN_nm1 (by omega)), if_pos i22]
        by_cases z : c ≤ c0
        · rw [if_pos (show zN c ≤ bC (some (b, c0)) from (zN_le (by omega) (by omega)).mpr z), if_neg (show ¬ bM (some (b, c0)) < zN c from by show ¬ zN c0 < zN c; rw [zN_lt (by omega) (by omega)]; omega)]
          exact kp
        · rw [if_neg (show ¬ zN c ≤ bC (some (b, c0)) from by show ¬ zN c ≤ zN c0; rw [zN_le (by omega) (by omega)]; exact z), if_pos (show bM (some (b, c0)) < zN c from (zN_lt (by omega) (by omega)).mpr (by omega))]
          exact up
    · exact no c1 m1
    · exact no c1 m1
theorem sim_best (n : Nat) (hn : 20000 ≤ n) : Sim_best n (R n) := by
  intro x1 x2 h g hR
  have hR0 := hR.thr 0
  obtain ⟨B, H, nm, nl, hd, f, be, x, ex⟩ := R.cx hn hR0
  unfold X11_best X12_best
  generalize wI g 251 0 (0 : Int32) = g0 at *
  obtain ⟨-, hL, -, -, -⟩ := id x
  have hH := hL.2.1.2.1
  have hB6 := hL.2.1.1
  have hB' := hL.2.1.2.2
  simp only [zN_lit]
  have mr : ∀ (a : Option (Int32 × Mm)), (H = 0 → ∃ h', a = some (-1, h') ∧ KC n nl hd f h h') → (H ≠ 0 → ∃ r h' g', a = some (r, h') ∧ (bp (X12_isIn x1.toInt64 (1 : Int64) (9 : Int64) g0) (fun r57 => (if r57 = true then (bp (X12_isIn x2.toInt64 (0 : Int64) (1 : Int64) g0) (fun r59 => (if r59 = true then (X12_best_44 n n x1 x2 (-1 : Int32) (zN 0) (zN 0) g0) else (some ((-1 : Int32), g0))))) else (some ((-1 : Int32), g0))))) = some (r, g') ∧ KC n nl hd f h h' ∧ KG n nl hd f g0 g') → ∃ r h' g', a = some (r, h') ∧ (if g0.1 251 27 = zN 0 then some ((-1 : Int32), g0) else (bp (X12_isIn x1.toInt64 (1 : Int64) (9 : Int64) g0) (fun r57 => (if r57 = true then (bp (X12_isIn x2.toInt64 (0 : Int64) (1 : Int64) g0) (fun r59 => (if r59 = true then (X12_best_44 n n x1 x2 (-1 : Int32) (zN 0) (zN 0) g0) else (some ((-1 : Int32), g0))))) else (some ((-1 : Int32), g0)))))) = some (r, g') ∧ R n h' g' := fun a z1 z2 => by
    by_cases c : H = 0
    · obtain ⟨h', e1, e2⟩ := z1 c
      rw [if_pos (show g0.1 251 27 = zN 0 by rw [hL.1.2.2.2, c])]; exact ⟨_, h', g0, e1, rfl, ex _ _ e2 x.g⟩
    · obtain ⟨r, h', g', e1, e2, e3, e4⟩ := z2 c
      rw [if_neg (show ¬ g0.1 251 27 = zN 0 by rw [hL.1.2.2.2, zN_eq (by omega) (by omega)]; exact c)]; exact ⟨r, h', g', e1, e2, ex _ _ e3 e4⟩
  have one : ∀ x1 : Int32, (∃ p, 1 ≤ p ∧ p ≤ 9 ∧ x1 = zN p) ∨ ((x1 < zN 1 ∨ zN 9 < x1) ∧ X12_isIn x1.toInt64 (1 : Int64) (9 : Int64) g0 = some false) := fun x1 => by
    by_cases ok : zN 1 ≤ x1 ∧ x1 ≤ zN 9
    · left
      obtain ⟨k, e, h1, h2⟩ := rng_N (x := x1) (lo := 1) (hi := 9) (by have := Int32.le_iff_toInt_le.mp ok.1; rw [zN_ti (by decide)] at this; exact this) (by have := Int32.le_iff_toInt_le.mp ok.2; rw [zN_ti (by decide)] at this; exact this)
      exact ⟨k, h1, h2, e⟩
    · right
      refine ⟨?_, by rw [m_isIn_l (L := (1 : Int64)) (U := (9 : Int64)) x1 1 9 g0 rfl rfl, decide_eq_false ok]⟩
      by_cases c : x1 < zN 1
      · exact Or.inl c
      · exact Or.inr (Int32.not_le.mp fun z => ok ⟨Int32.not_lt.mp c, z⟩)
  rcases one x1 with ⟨p, p1, p9, rfl⟩ | ⟨hx, e0⟩
  · have e0 : X12_isIn (zN p).toInt64 (1 : Int64) (9 : Int64) g0 = some true := by
      rw [m_isIn_l (L := (1 : Int64)) (U := (9 : Int64)) (zN p) 1 9 g0 rfl rfl, decide_eq_true ⟨(zN_le (by decide) (by omega)).mpr p1, (zN_le (by omega) (by decide)).mpr p9⟩]
    rw [if_neg (by rw [zN_lt (by omega) (by decide)]; omega), if_neg (by rw [zN_lt (by decide) (by omega)]; omega)]
    refine mr _ (fun z => ?_) (fun z => ?_)
    · obtain ⟨r, h', g', e1, e2, e3, e4⟩ := best_loop x p1 p9 x2 B n n 0 none h g0 (by omega) (by omega) (by omega) x.c x.g (fun b c e => by cases e)
      have e5 : r = -1 := by
        have b0 : B = 0 := hB'.mp z
        obtain ⟨m, rfl⟩ : ∃ m, n = m + 1 := ⟨n - 1, by omega⟩
        unfold X12_best_44 at e2
        rw [hL.1.2.2.1, b0, if_pos ((zN_le (by omega) (by omega)).mpr (by omega)), if_pos (show bF none = -1 from rfl)] at e2
        unfold X12_best_141 at e2
        injection e2 with e2; injection e2 with e2 e6
        exact e2.symm
      subst e5
      rcases what x2 1 (by decide) with ⟨k, hk, rfl⟩ | ⟨hx, -⟩
      · rw [ifin hk (by decide)]
        exact ⟨h', e1, e3⟩
      · rw [ifout hx]; exact ⟨h, rfl, x.c⟩
    · rw [e0, bp_some, if_pos rfl]
      rcases what x2 1 (by decide) with ⟨k, hk, rfl⟩ | ⟨hx, -⟩
      · rw [ifin hk (by decide), m_in (m := 1) (L := 0) (U := 1) (by decide) ⟨k, hk, rfl⟩ rfl rfl, bp_some, if_pos rfl]
        exact best_loop x p1 p9 (zN k) B n n 0 none h g0 (by omega) (by omega) (by omega) x.c x.g (fun b c e => by cases e)
      · rw [ifout hx, m_out (m := 1) (L := 0) (U := 1) hx rfl rfl]
        exact ⟨_, h, g0, rfl, rfl, x.c, x.g⟩
  · have e1 : ∀ z : Option (Int32 × Mm), (if x1 < zN 1 then some ((-1 : Int32), h) else if zN 9 < x1 then some ((-1 : Int32), h) else z) = some (-1, h) := fun z => by
      rcases hx with q | q
      · rw [if_pos q]
      · by_cases c : x1 < zN 1
        · rw [if_pos c]
        · rw [if_neg c, if_pos q]
    have e1' := e1 (if x2 < zN 0 then some (-zN 1, h) else if x2 ≤ zN 1 then X11_best_30 n n x1 x2 (-zN 1) (-zN 1) (zN 0) h else some (-zN 1, h))
    refine mr _ (fun z => ⟨h, e1', x.c⟩) (fun z => ⟨-1, h, g0, e1', ?_, x.c, x.g⟩)
    rw [e0]; rfl
/-! LASTS -/
def lW (hd : Int32) (f : Nat → F6) (cc v b nn p : Nat) : Int32 := wv hd f cc v b p nn 0
theorem c_l69 {n B H : Nat} {nm : Nat → Nat} {nl : Nat} {hd : Int32} {f : Nat → F6} {be : Nat → Nat} {h0 g0 : Mm} (x : CX n B H nm nl hd f be h0 g0) {y v bo i c : Nat} (K : Int32 → Int32 → Int32 → Int32 → Int32 → Int32 → Mm → Option (Int32 × Mm)) (hy : y < B) (h2 : v ≤ 9) (h3 : bo ≤ 9) (hi : i < 20) (hc : c ≤ 99) : ∀ (d q k : Nat) (h : Mm), k + d = nm (3 + 3 * y) → d < q → KC n nl hd f h0 h →
    ∃ h', X6_readingsOf_69 n K q (zN y) (zN (nm (3 + 3 * y))) (zN v) (zN (pgs (lW hd f (nm (3 + (3 * y + 1))) v bo (be 29 + i)) c k)) (zN bo) (zN i) (zN k) h = (if nm 1 ≤ pgs (lW hd f (nm (3 + (3 * y + 1))) v bo (be 29 + i)) c (nm (3 + 3 * y)) then K (zN y) (zN (nm (3 + 3 * y))) (zN v) (zN (ncalm nm (pgs (lW hd f (nm (3 + (3 * y + 1))) v bo (be 29 + i)) c (nm (3 + 3 * y))))) (zN (min 9 (bo + 1) - 1)) (zN (i + 1)) h' else some (zN i, h')) ∧ KC n nl hd f h0 h' := by
  have pg := x.2.1.2.2.2.2.2.2.1 y hy
  have en := x.2.1.2.2.2.2.2.1
  have q5 := x.2.2.1.2.2.2.2.1
  generalize nm (3 + 3 * y) = P at *
  intro d
  induction d with
  | zero =>
    intro q k h hk hq kc
    obtain ⟨q, rfl⟩ : ∃ m, q = m + 1 := ⟨q - 1, by omega⟩
    obtain rfl : k = P := by omega
    have cl := pgs_le (W := lW hd f (nm (3 + (3 * y + 1))) v bo (be 29 + i)) hc k
    unfold X6_readingsOf_69
    generalize pgs (lW hd f (nm (3 + (3 * y + 1))) v bo (be 29 + i)) c k = cf at *
    rw [if_pos ((zN_le (by omega) (by omega)).mpr (Nat.le_refl k)), c_enough (x.lc kc), bp_some, c_behind (x.lc kc) cl, bp_some, c_mbored h3, bp_some, show (1 : Int32) = zN 1 from rfl, zN_sub (by omega), zN_add, show (0 : Int32) = zN 0 from rfl, j_max, bp_some]
    have e : (if zN 0 < zN (min 9 (bo + 1) - 1) then zN (min 9 (bo + 1) - 1) else zN 0) = zN (min 9 (bo + 1) - 1) := by
      by_cases z : 0 < min 9 (bo + 1) - 1
      · rw [if_pos ((zN_lt (by decide) (by omega)).mpr z)]
      · rw [if_neg (by rw [zN_lt (by decide) (by omega)]; exact z), show min 9 (bo + 1) - 1 = 0 by omega]
    rw [e]
    refine ⟨h, ?_, kc⟩
    by_cases z : nm 1 ≤ cf
    · rw [if_pos z, if_pos ((zN_le (by omega) (by omega)).mpr z)]
    · rw [if_neg z, if_neg (by rw [zN_le (by omega) (by omega)]; exact z)]
  | succ d ih =>
    intro q k h hk hq kc
    obtain ⟨q, rfl⟩ : ∃ m, q = m + 1 := ⟨q - 1, by omega⟩
    obtain ⟨h1, e1, e2, -⟩ := c_worthW x kc (y := y) (v := v) (b := bo) (p := k) (nn := be 29 + i) (t := 0) hy h2 h3 (by omega) (by omega) (by omega)
    have rg := wv_rng hd f (nm (3 + (3 * y + 1))) v bo k (be 29 + i) 0
    unfold X6_readingsOf_69
    rw [if_neg (by rw [zN_le (by omega) (by omega)]; omega), kc.i 27 (by omega), q5.1, zN_add, show (0 : Int32) = zN 0 from rfl, e1, bd_some, c_cadd (pgs_le hc k) rg.1 (by omega), bp_some, show (1 : Int32) = zN 1 from rfl, zN_add]
    exact ih q (k + 1) h1 (by omega) (by omega) e2
theorem m_l65 {n B H : Nat} {nm : Nat → Nat} {nl : Nat} {hd : Int32} {f : Nat → F6} {be : Nat → Nat} {h0 g0 : Mm} (x : CX n B H nm nl hd f be h0 g0) {y v bo i c kd : Nat} (K : Int32 → Int32 → Int32 → Int32 → Mm → Option (Int32 × Mm)) (hy : y < B) (h2 : v ≤ 9) (h3 : bo ≤ 9) (hi : i < 20) (hc : c ≤ 99) (hkd : kd < 4) : ∀ (d q k : Nat) (g : Mm), k + d = nm (3 + 3 * y) → d < q → KG n nl hd f g0 g → g.1 265 22 = zN (pgs (lW hd f (nm (3 + (3 * y + 1))) v bo (be 29 + i)) c k) → g.1 265 (18 + kd) = zN bo → g.1 265 29 = zN (be 29 + i) →
    ∃ g', X12_lasts_65 n K q (zN y) (zN v) (zN (18 + kd)) (zN i) (zN k) g = (if nm 1 ≤ pgs (lW hd f (nm (3 + (3 * y + 1))) v bo (be 29 + i)) c (nm (3 + 3 * y)) then K (zN y) (zN v) (zN (18 + kd)) (zN (i + 1)) g' else some (zN i, g')) ∧ KG n nl hd f g0 g' ∧ (nm 1 ≤ pgs (lW hd f (nm (3 + (3 * y + 1))) v bo (be 29 + i)) c (nm (3 + 3 * y)) → g'.1 265 22 = zN (ncalm nm (pgs (lW hd f (nm (3 + (3 * y + 1))) v bo (be 29 + i)) c (nm (3 + 3 * y)))) ∧ g'.1 265 (18 + kd) = zN (min 9 (bo + 1) - 1) ∧ g'.1 265 29 = zN (be 29 + (i + 1))) := by
  have pg := x.2.1.2.2.2.2.2.2.1 y hy
  have en := x.2.1.2.2.2.2.2.1
  have q5 := x.2.2.1.2.2.2.2.1
  have i22 : inB (22 : Int32) (aln 265) := by rw [al_265]; decide
  have i29 : inB (29 : Int32) (aln 265) := by rw [al_265]; decide
  have i18 : inB (zN (18 + kd)) (aln 265) := by rw [al_265, zN_inB (by omega)]; omega
  have t22 : (22 : Int32).toNatClampNeg = 22 := by decide
  have t29 : (29 : Int32).toNatClampNeg = 29 := by decide
  intro d
  induction d with
  | zero =>
    intro q k g hk hq kg e22 eb e29
    obtain ⟨q, rfl⟩ : ∃ m, q = m + 1 := ⟨q - 1, by omega⟩
    obtain rfl : k = nm (3 + 3 * y) := by omega
    have cl := pgs_le (W := lW hd f (nm (3 + (3 * y + 1))) v bo (be 29 + i)) hc (nm (3 + 3 * y))
    unfold X12_lasts_65
    generalize pgs (lW hd f (nm (3 + (3 * y + 1))) v bo (be 29 + i)) c (nm (3 + 3 * y)) = cf at *
    rw [m_pages (x.lm kg) hy, bp_some, if_pos ((zN_le (by omega) (by omega)).mpr (Nat.le_refl _))]
    simp only [if_pos i22, if_pos i29, if_pos i18, t22, t29, e22, eb, zN_ix (show 18 + kd < 2147483648 by omega)]
    rw [m_isEnough (x.lm kg) (by omega), bp_some]
    by_cases z : nm 1 ≤ cf
    · simp only [if_pos z, decide_eq_true z, if_true]
      have em : (if zN (bo + 1) < zN 9 then zN (bo + 1) else zN 9) = zN (min 9 (bo + 1)) := by
        by_cases w : bo + 1 < 9
        · rw [if_pos ((zN_lt (by omega) (by decide)).mpr w), Nat.min_eq_right (by omega)]
        · rw [if_neg (by rw [zN_lt (by omega) (by decide)]; exact w), Nat.min_eq_left (by omega)]
      have e : (if zN 0 < zN (min 9 (bo + 1) - 1) then zN (min 9 (bo + 1) - 1) else zN 0) = zN (min 9 (bo + 1) - 1) := by
        by_cases z : 0 < min 9 (bo + 1) - 1
        · rw [if_pos ((zN_lt (by decide) (by omega)).mpr z)]
        · rw [if_neg (by rw [zN_lt (by decide) (by omega)]; exact z), show min 9 (bo + 1) - 1 = 0 by omega]
      rw [show (1 : Int32) = zN 1 from rfl, zN_add, show (9 : Int32) = zN 9 from rfl, j_min, bp_some, em]
      have kg1 := kg.w (i := 265) (k := 18 + kd) (v := zN (min 9 (bo + 1))) (by omega)
      rw [w_eq, u_ne (by omega : 22 ≠ 18 + kd), e22, m_behind (x.lm kg1) cl, bp_some, w_eq, u_ne (by omega : 18 + kd ≠ 22), w_eq, u_eq, zN_sub (by omega), show (0 : Int32) = zN 0 from rfl, j_max, bp_some, e, zN_add]
      refine ⟨_, rfl, ((((kg.w (by omega)).w (by omega)).w (by omega)).w (by omega)), fun _ => ⟨?_, ?_, ?_⟩⟩
      · simp (disch := omega) only [w_eq, u_ne, u_eq]
      · simp (disch := omega) only [w_eq, u_ne, u_eq]
      · simp (disch := omega) only [w_eq, u_ne, u_eq, e29, zN_add]; rfl
    · simp only [if_neg z, decide_eq_false z]
      exact ⟨g, rfl, kg, fun w => absurd w z⟩
  | succ d ih =>
    intro q k g hk hq kg e22 eb e29
    obtain ⟨q, rfl⟩ : ∃ m, q = m + 1 := ⟨q - 1, by omega⟩
    obtain ⟨g1, e1, e2, e3⟩ := m_pageK x kg (y := y) (v := v) (b := bo) (p := k) (nn := be 29 + i) (t := 0) hy h2 h3 (by omega) (by omega) (by omega)
    have rg := wv_rng hd f (nm (3 + (3 * y + 1))) v bo k (be 29 + i) 0
    unfold X12_lasts_65
    rw [m_pages (x.lm kg) hy, bp_some, if_neg (by rw [zN_le (by omega) (by omega)]; omega)]
    simp only [if_pos i22, if_pos i29, if_pos i18, t22, t29, e22, eb, e29, zN_ix (show 18 + kd < 2147483648 by omega)]
    rw [show (0 : Int32) = zN 0 from rfl, e1, bd_some, m_cadd (pgs_le hc k) rg.1 (by omega), bp_some, show (1 : Int32) = zN 1 from rfl, zN_add]
    have er : g1.1 265 = g.1 265 := e3.1 265 (by decide) (by decide) (by decide)
    exact ih q (k + 1) _ (by omega) (by omega) (e2.w (by omega)) (by rw [w_eq, u_eq]; rfl) (by rw [w_eq, u_ne (by omega), er]; exact eb) (by rw [w_eq, u_ne (by omega), er]; exact e29)
theorem lasts_loop {n B H : Nat} {nm : Nat → Nat} {nl : Nat} {hd : Int32} {f : Nat → F6} {be : Nat → Nat} {h0 g0 : Mm} (x : CX n B H nm nl hd f be h0 g0) {y v kd : Nat} (hy : y < B) (h2 : v ≤ 9) (hkd : kd < 4) : ∀ (d q q' i bo c : Nat) (h g : Mm), i + d = 20 → d < q → d < q' → bo ≤ 9 → c ≤ 99 → KC n nl hd f h0 h → KG n nl hd f g0 g → g.1 265 22 = zN c → g.1 265 (18 + kd) = zN bo → g.1 265 29 = zN (be 29 + i) →
    ∃ r h' g', X6_readingsOf_59 n q (zN y) (zN (nm (3 + 3 * y))) (zN v) (zN c) (zN bo) (zN i) h = some (r, h') ∧ X12_lasts_55 n q' (zN y) (zN v) (zN (18 + kd)) (zN i) g = some (r, g') ∧ KC n nl hd f h0 h' ∧ KG n nl hd f g0 g' := by
  have pg := x.2.1.2.2.2.2.2.2.1 y hy
  have hn := x.1
  intro d
  induction d with
  | zero =>
    intro q q' i bo c h g hi hq hq' hb hc kc kg e22 eb e29
    obtain ⟨q, rfl⟩ : ∃ m, q = m + 1 := ⟨q - 1, by omega⟩
    obtain ⟨q', rfl⟩ : ∃ m, q' = m + 1 := ⟨q' - 1, by omega⟩
    unfold X6_readingsOf_59 X12_lasts_55
    rw [show (20 : Int32) = zN 20 from rfl, if_pos ((zN_le (by decide) (by omega)).mpr (by omega)), if_pos ((zN_le (by decide) (by omega)).mpr (by omega))]
    exact ⟨_, h, g, rfl, rfl, kc, kg⟩
  | succ d ih =>
    intro q q' i bo c h g hi hq hq' hb hc kc kg e22 eb e29
    obtain ⟨q, rfl⟩ : ∃ m, q = m + 1 := ⟨q - 1, by omega⟩
    obtain ⟨q', rfl⟩ : ∃ m, q' = m + 1 := ⟨q' - 1, by omega⟩
    unfold X6_readingsOf_59 X12_lasts_55
    rw [show (20 : Int32) = zN 20 from rfl, if_neg (by rw [zN_le (by decide) (by omega)]; omega), if_neg (by rw [zN_le (by decide) (by omega)]; omega)]
    obtain ⟨h1, c1, c2⟩ := c_l69 x (y := y) (v := v) (bo := bo) (i := i) (c := c) (X6_readingsOf_59 n q) hy h2 hb (by omega) hc (nm (3 + 3 * y)) n 0 h (by omega) (by omega) kc
    obtain ⟨g1, m1, m2, m3⟩ := m_l65 x (y := y) (v := v) (bo := bo) (i := i) (c := c) (kd := kd) (X12_lasts_55 n q') hy h2 hb (by omega) hc hkd (nm (3 + 3 * y)) n 0 g (by omega) (by omega) kg e22 eb e29
    have c1' : X6_readingsOf_69 n (X6_readingsOf_59 n q) n (zN y) (zN (nm (3 + 3 * y))) (zN v) (zN c) (zN bo) (zN i) 0 h = _ := c1
    have m1' : X12_lasts_65 n (X12_lasts_55 n q') n (zN y) (zN v) (zN (18 + kd)) (zN i) 0 g = _ := m1
    have cl := pgs_le (W := lW hd f (nm (3 + (3 * y + 1))) v bo (be 29 + i)) hc (nm (3 + 3 * y))
    rw [c1', m1']
    by_cases z : nm 1 ≤ pgs (lW hd f (nm (3 + (3 * y + 1))) v bo (be 29 + i)) c (nm (3 + 3 * y))
    · rw [if_pos z, if_pos z]
      obtain ⟨w1, w2, w3⟩ := m3 z
      exact ih q q' (i + 1) _ _ h1 g1 (by omega) (by omega) (by omega) (by omega) (ncalm_le cl) c2 m2 w1 w2 w3
    · rw [if_neg z, if_neg z]
      exact ⟨_, h1, g1, rfl, rfl, c2, m2⟩
theorem sim_lasts (n : Nat) (hn : 20000 ≤ n) : Sim_lasts n (R n) := by
  intro x1 h g hR
  have hR0 := hR.thr 0
  obtain ⟨B, H, nm, nl, hd, f, be, x, ex⟩ := R.cx hn hR0
  unfold X11_lasts X12_lasts X6_readingsOf
  generalize wI g 251 0 (0 : Int32) = g0 at *
  obtain ⟨-, hL, ⟨q1, q2, q3, q4, q5, q6, q7, q8⟩, -, -⟩ := id x
  have hH := hL.2.1.2.1
  have hB' := hL.2.1.2.2
  rcases idx x1 B with ⟨y, hy, rfl⟩ | hx
  · have hf : be 23 < H := by omega
    have kk := (hL.2.2.2.2.2.2.1 y hy).2.2.2
    obtain ⟨⟨t1, t2, t3⟩, ⟨u1, u2, u3⟩, v1, v2, v3⟩ := q1 _ hf
    obtain ⟨b1, b2, b3⟩ := q2 (nm (3 + (3 * y + 2))) (by omega)
    obtain ⟨g1, s1, s2, s3, -⟩ := m_trial x x.g
    have i23 : inB (23 : Int32) (aln 265) := by rw [al_265]; decide
    have t23 : (23 : Int32).toNatClampNeg = 23 := by decide
    have g23 : g1.1 265 23 = zN (be 23) := by rw [s3 _ (by omega)]; exact q4.2.1
    have iv : inB (zN (3 * be 23 + 1)) (aln 265) := by rw [al_265, zN_inB (by omega)]; omega
    have gv : g1.1 265 (3 * be 23 + 1) = zN (be (3 * be 23 + 1)) := by rw [s3 _ (by omega)]; exact u2
    obtain ⟨r, h', g', e1, e2, e3, e4⟩ := lasts_loop x (y := y) (v := be (3 * be 23 + 1)) (kd := nm (3 + (3 * y + 2))) hy v2 (by omega) 20 n n 0 (be (18 + nm (3 + (3 * y + 2)))) (be 22) h g1 (by omega) (by omega) (by omega) b3 q3.2.2 x.c s2 (by rw [s3 _ (by omega)]; exact q3.2.1) (by rw [s3 _ (by omega)]; exact b2) (by rw [s3 _ (by omega)]; exact q5.2.1)
    have e1' : X6_readingsOf_59 n n (zN y) (zN (nm (3 + 3 * y))) (zN (be (3 * be 23 + 1))) (zN (be 22)) (zN (be (18 + nm (3 + (3 * y + 2))))) 0 h = some (r, h') := e1
    have e2' : X12_lasts_55 n n (zN y) (zN (be (3 * be 23 + 1))) (zN (18 + nm (3 + (3 * y + 2)))) 0 g1 = some (r, g') := e2
    rw [c_hasBook_y hL hy, m_isBook_y hL hy, bp_some, bp_some, if_pos rfl, if_pos rfl, c_pages hL hy, bp_some, q4.1, at_30 (by omega), bp_some, t2, c_kind hL hy, bp_some, at_28 (by omega), bp_some, b1, q3.1, e1', bd_some, s1, bd_some, if_pos i23, t23, g23, show (3 : Int32) = zN 3 from rfl, show (1 : Int32) = zN 1 from rfl, zN_mul, zN_add, if_pos iv, m_kind (x.lm s2) hy, bp_some, zN_ix (by omega), gv, show (18 : Int32) = zN 18 from rfl, zN_add, e2']
    exact ⟨r, h', g', rfl, rfl, ex _ _ e3 e4⟩
  · rw [c_hasBook_n hL hx, m_isBook_n hL hx]
    exact ⟨_, h, g0, rfl, rfl, hR0⟩
