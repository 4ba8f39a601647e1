/-! bits; sets of books -/
def bit (v : Int32) (i : Nat) : Bool := v.toBitVec.getLsbD i
theorem sar1 (w : BitVec 32) (k : Nat) (hk : k < 32) : (w.sshiftRight k &&& 1#32) = if w.getLsbD k then 1#32 else 0#32 := by
  apply BitVec.eq_of_getLsbD_eq
  intro j hj
  rw [BitVec.getLsbD_and, BitVec.getLsbD_one, BitVec.getLsbD_sshiftRight]
  by_cases c : j = 0
  · subst c
    by_cases d : w.getLsbD k = true
    · rw [if_pos d]; simp [hk, d]
    · rw [if_neg d]
      rw [Bool.not_eq_true] at d
      simp [hk]; simpa [hk] using d
  · by_cases d : w.getLsbD k = true
    · rw [if_pos d]; simp [c]
    · rw [if_neg d]; simp [c]
theorem bt1 {v : Int32} {i : Nat} (hi : i < 6) : (v >>> (zN i &&& 31)) &&& 1 = if bit v i then 1 else 0 := by
  have e : (v >>> (zN i &&& 31)).toBitVec = v.toBitVec.sshiftRight i := by
    obtain rfl | rfl | rfl | rfl | rfl | rfl : i = 0 ∨ i = 1 ∨ i = 2 ∨ i = 3 ∨ i = 4 ∨ i = 5 := by omega
    all_goals rfl
  apply Int32.toBitVec_inj.mp
  have e2 : ((v >>> (zN i &&& 31)) &&& 1).toBitVec = (v >>> (zN i &&& 31)).toBitVec &&& 1#32 := rfl
  rw [e2, e, sar1 _ _ (by omega)]
  unfold bit
  by_cases d : v.toBitVec.getLsbD i = true
  · rw [if_pos d, if_pos d]; rfl
  · rw [if_neg d, if_neg d]; rfl
theorem bit_or (v w : Int32) (i : Nat) : bit (v ||| w) i = (bit v i || bit w i) := BitVec.getLsbD_or
theorem bit_and (v w : Int32) (i : Nat) : bit (v &&& w) i = (bit v i && bit w i) := BitVec.getLsbD_and
theorem bit_sh : ∀ x, x < 6 → ∀ i, i < 6 → bit ((1 : Int32) <<< (zN x &&& 31)) i = decide (i = x) := by decide +kernel
theorem bit_N {s i : Nat} (hi : i < 32) : bit (zN s) i = s.testBit i := by
  show (BitVec.ofNat 32 s).getLsbD i = _
  rw [BitVec.getLsbD_ofNat]; simp [hi]
theorem and_z {s : Nat} {rb : Int32} (hs : s < 64) : (zN s &&& rb) = 0 ↔ ∀ i, i < 6 → s.testBit i = true → bit rb i = false := by
  constructor
  · intro h i hi ht
    have e : bit (zN s &&& rb) i = false := by rw [h]; exact BitVec.getLsbD_zero
    rw [bit_and, bit_N (by omega), ht, Bool.true_and] at e
    exact e
  · intro h
    apply Int32.toBitVec_inj.mp
    apply BitVec.eq_of_getLsbD_eq
    intro j hj
    have e : (zN s &&& rb).toBitVec.getLsbD j = (bit (zN s) j && bit rb j) := bit_and _ _ _
    rw [e, bit_N hj]
    show (s.testBit j && bit rb j) = (0#32).getLsbD j
    rw [BitVec.getLsbD_zero]
    by_cases c : j < 6
    · by_cases d : s.testBit j = true
      · rw [d, h j c d]; rfl
      · rw [Bool.not_eq_true] at d; rw [d]; rfl
    · rw [Nat.testBit_lt_two_pow (Nat.lt_of_lt_of_le hs (Nat.pow_le_pow_right (n := 2) (by decide) (show 6 ≤ j by omega)))]; rfl
theorem m_may {r B H fa t y p : Nat} {nm : Nat → Nat} {h g : Mm} (hL : LandR B H nm (h.1 14) (h.1 15) (g.1 251) (g.1 256) (g.1 258) (g.1 260)) (hr : aln r = 211) (e23 : g.1 r 23 = zN fa) (hf : fa < H) (et : g.1 r (3 * fa) = zN t) (ht : t ≤ 1000) (hy : y < B) (p1 : 1 ≤ p) (p2 : p ≤ nm (3 + 3 * y)) : X12_mayRead r (zN y) (zN p) false g = some (decide (t + p ≤ nm (21 + (3 * fa + 1)) ∧ bit (g.1 r 24) y = false)) := by
  have hH := hL.2.1.2.1
  have hB6 := hL.2.1.1
  have pg := hL.2.2.2.2.2.2.1 y hy
  have st := (hL.2.2.2.2.2.2.2 _ hf).2.1
  have i23 : inB (23 : Int32) (aln r) := by rw [hr]; decide
  have i24 : inB (24 : Int32) (aln r) := by rw [hr]; decide
  have x23 : (23 : Int32).toNatClampNeg = 23 := by decide
  have x24 : (24 : Int32).toNatClampNeg = 24 := by decide
  have ei : (3 : Int32) * zN fa + (0 : Int32) = zN (3 * fa) := by simp only [zN_lit, zN_mul, zN_add, Nat.add_zero]
  have i3 : inB (zN (3 * fa)) (aln r) := by rw [hr, zN_inB (by omega)]; omega
  unfold X12_mayRead X12_canRead X12_canRead_22 X12_canRead_56 X12_has
  rw [m_isBook_y hL hy, bp_some, if_pos rfl, if_neg (show ¬ (false = true) by decide), m_pages hL hy, bp_some, m_isIn_l (L := (1 : Int64)) (zN p) 1 (nm (3 + 3 * y)) g rfl rfl, bp_some, decide_eq_true ⟨(zN_le (by decide) (by omega)).mpr p1, (zN_le (by omega) (by omega)).mpr p2⟩, if_pos rfl]
  simp only [if_pos i23, x23, e23, ei, if_pos i3, zN_ix (show 3 * fa < 2147483648 by omega), et, if_neg (show ¬ (false = true) by decide), m_strength hL hf, bp_some, zN_add, if_pos i24, x24]
  rw [bt1 (by omega)]
  by_cases c : t + p ≤ nm (21 + (3 * fa + 1))
  · rw [if_neg (show ¬ zN (nm (21 + (3 * fa + 1))) < zN (t + p) by rw [zN_lt (by omega) (by omega)]; omega), bp_some, if_pos rfl]
    by_cases d : bit (g.1 r 24) y = true
    · rw [if_pos d, if_pos rfl, bp_some, if_pos rfl, decide_eq_false (fun z => by rw [d] at z; cases z.2)]
    · rw [if_neg d, if_neg (show ¬ (0 : Int32) = 1 by decide), bp_some, if_neg (show ¬ (false = true) by decide), decide_eq_true ⟨c, by simpa using d⟩]
  · rw [if_pos (show zN (nm (21 + (3 * fa + 1))) < zN (t + p) from (zN_lt (by omega) (by omega)).mpr (by omega)), bp_some, if_neg (show ¬ (false = true) by decide), decide_eq_false (fun z => c z.1)]
def oZ : Option Nat → Int32
  | none => -1
  | some c => zN c
def setR (nm : Nat → Nat) (hd : Int32) (f : Nat → F6) (be : Nat → Nat) (s : Nat) : Nat → Nat → Nat → Nat → (Nat → Nat) → Option Nat
  | 0, _, _, c, _ => some c
  | d + 1, k, t, c, bo => if s.testBit k = true then (if t + nm (3 + 3 * k) ≤ nm (21 + (3 * be 23 + 1)) then setR nm hd f be s d (k + 1) (t + nm (3 + 3 * k)) (pgs (wr6 hd f (nm (3 + (3 * k + 1))) (be (3 * be 23 + 1)) (bo (nm (3 + (3 * k + 2)))) (be 29) t) c (nm (3 + 3 * k))) (uN bo (nm (3 + (3 * k + 2))) (min 9 (bo (nm (3 + (3 * k + 2))) + 1))) else none) else setR nm hd f be s d (k + 1) t c bo
theorem if10 (b : Bool) : ((if b = true then (1 : Int32) else 0) = 0) ↔ ¬ b = true := by cases b <;> decide
theorem if11 (b : Bool) : ((if b = true then (1 : Int32) else 0) = 1) ↔ b = true := by cases b <;> decide
theorem c_set62 {n B H : Nat} {nm : Nat → Nat} {nl : Nat} {hd : Int32} {f : Nat → F6} {be : Nat → Nat} {h0 g0 : Mm} (x : CX n B H nm nl hd f be h0 g0) (hp : 0 < H) {s : Nat} : ∀ (d q k t c : Nat) (bo : Nat → Nat) (h : Mm), k + d = B → d < q → KC n nl hd f h0 h → (∀ i, i < 4 → h.1 247 i = zN (bo i) ∧ bo i ≤ 9) → c ≤ 99 → t ≤ 40 → ∃ h', X6_calmBehindSet_62 n q (zN s) (zN (be (3 * be 23 + 1))) (zN t) (zN c) (zN k) h = some (oZ (setR nm hd f be s d k t c bo), h') ∧ KC n nl hd f h0 h' := by
  obtain ⟨x1, x2, ⟨q1, q2, q3, q4, q5, q6, q7, q8⟩, -, -⟩ := id x
  have hH := x2.2.1.2.1
  have hB6 := x2.2.1.1
  have hf : be 23 < H := by omega
  have v2 := (q1 _ hf).2.2.2.1
  have st := (x2.2.2.2.2.2.2.2 _ hf).2.1
  intro d
  induction d with
  | zero =>
    intro q k t c bo h hk hq kc hb hc ht
    obtain ⟨q, rfl⟩ : ∃ m, q = m + 1 := ⟨q - 1, by omega⟩
    unfold X6_calmBehindSet_62
    rw [c_books, bp_some, (x.lc kc).1.1, if_pos (show zN B ≤ zN k from (zN_le (by omega) (by omega)).mpr (by omega))]
    exact ⟨h, rfl, kc⟩
  | succ d ih =>
    intro q k t c bo h hk hq kc hb hc ht
    obtain ⟨q, rfl⟩ : ∃ m, q = m + 1 := ⟨q - 1, by omega⟩
    have hk' : k < B := by omega
    have pg := x2.2.2.2.2.2.2.1 k hk'
    unfold X6_calmBehindSet_62 X6_calmBehindSet_187
    rw [c_books, bp_some, (x.lc kc).1.1, if_neg (show ¬ zN B ≤ zN k by rw [zN_le (by omega) (by omega)]; omega), bt1 (by omega), bit_N (by omega), sN1, setR]
    by_cases z : s.testBit k = true
    · rw [if_neg (show ¬ (if s.testBit k = true then (1 : Int32) else 0) = 0 from fun w => (if10 _).mp w z), if_pos z, c_pages (x.lc kc) hk', bp_some, kc.i 27 (by omega), q4.1, c_strength (x.lc kc) hf, bp_some, zN_add]
      by_cases w : t + nm (3 + 3 * k) ≤ nm (21 + (3 * be 23 + 1))
      · rw [if_pos (show zN (t + nm (3 + 3 * k)) ≤ zN (nm (21 + (3 * be 23 + 1))) from (zN_le (by omega) (by omega)).mpr w), if_pos w, c_kind (x.lc kc) hk', bp_some]
        generalize ekd : nm (3 + (3 * k + 2)) = kd at *
        obtain ⟨b1, b2⟩ := hb kd (by omega)
        obtain ⟨h1, e1, e2, e3⟩ := c_behK x kc (y := k) (v := be (3 * be 23 + 1)) (b := bo kd) (nn := be 29) (t := t) (m := nm (3 + 3 * k)) (c := c) hk' v2 b2 (by omega) (by omega) (by omega) hc
        have e247 : h1.1 247 = h.1 247 := e3.1 247 (by decide) (by decide) (by decide)
        rw [at_247 (by omega), bp_some, b1, q5.1, e1, bd_some, at_247 (by omega), bp_some, e247, b1, c_mbored b2, bp_some, pu_247 (by omega), bd_some]
        refine ih q (k + 1) _ _ _ _ (by omega) (by omega) (e2.w (by omega)) (fun i hi => ?_) (pgs_le hc _) (by omega)
        by_cases y : i = kd
        · subst y; rw [w_eq, u_eq, uN_eq]; exact ⟨rfl, by omega⟩
        · rw [w_eq, u_ne y, uN_ne y, e247]; exact hb i hi
      · rw [if_neg (show ¬ zN (t + nm (3 + 3 * k)) ≤ zN (nm (21 + (3 * be 23 + 1))) by rw [zN_le (by omega) (by omega)]; exact w), if_neg w]
        exact ⟨h, rfl, kc⟩
    · rw [if_pos (show (if s.testBit k = true then (1 : Int32) else 0) = 0 from (if10 _).mpr z), if_neg z]
      exact ih q (k + 1) t c bo h (by omega) (by omega) kc hb hc ht
theorem m_set13 {n B H : Nat} {nm : Nat → Nat} {nl : Nat} {hd : Int32} {f : Nat → F6} {be : Nat → Nat} {h0 g0 : Mm} (x : CX n B H nm nl hd f be h0 g0) (hp : 0 < H) {s : Nat} {rb : Int32} {v0 : Nat} (hv0 : v0 ≤ 99) : ∀ (d q k t c : Nat) (bo : Nat → Nat) (g : Mm), k + d = B → d < q → KG n nl hd f g0 g → (∀ i, i < 4 → g.1 265 (18 + i) = zN (bo i) ∧ bo i ≤ 9) → c ≤ 99 → t ≤ 40 → g.1 265 23 = zN (be 23) → g.1 265 22 = zN c → g.1 265 (3 * be 23 + 1) = zN (be (3 * be 23 + 1)) → g.1 265 (3 * be 23) = zN t → g.1 265 29 = zN (be 29) → (∀ i, k ≤ i → i < B → bit (g.1 265 24) i = bit rb i) →
    ∃ rs g', X12_isReadTo_13 n q (zN s) (zN v0) (zN k) g = some (rs, g') ∧ KG n nl hd f g0 g' ∧ (rs = true ↔ (∀ i, k ≤ i → i < B → s.testBit i = true → bit rb i = false) ∧ oZ (setR nm hd f be s d k t c bo) = zN v0) := by
  obtain ⟨x1, x2, ⟨q1, q2, q3, q4, q5, q6, q7, q8⟩, -, -⟩ := id x
  have hH := x2.2.1.2.1
  have hB6 := x2.2.1.1
  have hf : be 23 < H := by omega
  have v2 := (q1 _ hf).2.2.2.1
  have st := (x2.2.2.2.2.2.2.2 _ hf).2.1
  have i22 : inB (22 : Int32) (aln 265) := by rw [al_265]; decide
  have t22 : (22 : Int32).toNatClampNeg = 22 := by decide
  intro d
  induction d with
  | zero =>
    intro q k t c bo g hk hq kg hb hc ht e23 e22 ev et e29 hbit
    obtain ⟨q, rfl⟩ : ∃ m, q = m + 1 := ⟨q - 1, by omega⟩
    unfold X12_isReadTo_13
    rw [(x.lm kg).1.2.2.1, if_pos (show zN B ≤ zN k from (zN_le (by omega) (by omega)).mpr (by omega)), if_pos i22, t22, e22]
    by_cases z : zN c = zN v0
    · rw [if_pos z]; exact ⟨true, g, rfl, kg, ⟨fun _ => ⟨fun i h1 h2 => by omega, z⟩, fun _ => rfl⟩⟩
    · rw [if_neg z]; exact ⟨false, g, rfl, kg, ⟨(fun w => by cases w), fun w => absurd w.2 z⟩⟩
  | succ d ih =>
    intro q k t c bo g hk hq kg hb hc ht e23 e22 ev et e29 hbit
    obtain ⟨q, rfl⟩ : ∃ m, q = m + 1 := ⟨q - 1, by omega⟩
    have hk' : k < B := by omega
    have pg := x2.2.2.2.2.2.2.1 k hk'
    have mm := m_may (x.lm kg) al_265 e23 hf et (by omega) hk' pg.1 (Nat.le_refl _)
    have more : ∀ P : Prop, (∀ i, k + 1 ≤ i → i < B → s.testBit i = true → bit rb i = false) ∧ P → (s.testBit k = true → bit rb k = false) → (∀ i, k ≤ i → i < B → s.testBit i = true → bit rb i = false) ∧ P := fun P w y => ⟨fun i h1 h2 h3 => by
      by_cases e : i = k
      · subst e; exact y h3
      · exact w.1 i (by omega) h2 h3, w.2⟩
    have less : ∀ P : Prop, (∀ i, k ≤ i → i < B → s.testBit i = true → bit rb i = false) ∧ P → (∀ i, k + 1 ≤ i → i < B → s.testBit i = true → bit rb i = false) ∧ P := fun P w => ⟨fun i h1 h2 h3 => w.1 i (by omega) h2 h3, w.2⟩
    unfold X12_isReadTo_13 X12_isReadTo_67 X12_has
    rw [(x.lm kg).1.2.2.1, if_neg (show ¬ zN B ≤ zN k by rw [zN_le (by omega) (by omega)]; omega), bt1 (by omega), bit_N (by omega), sN1, setR]
    by_cases z : s.testBit k = true
    · rw [if_pos (show (if s.testBit k = true then (1 : Int32) else 0) = 1 from (if11 _).mpr z), bp_some, if_pos rfl, m_pages (x.lm kg) hk', bp_some, mm, bp_some, hbit k (by omega) hk']
      simp only [if_pos z]
      by_cases w : t + nm (3 + 3 * k) ≤ nm (21 + (3 * be 23 + 1)) ∧ bit rb k = false
      · rw [decide_eq_true w, if_pos rfl, bp_some]
        simp only [if_pos w.1]
        generalize ekd : nm (3 + (3 * k + 2)) = kd at *
        obtain ⟨b1, b2⟩ := hb kd (by omega)
        obtain ⟨g1, e1, e2, e3, e4, e5, e6, e7, e8⟩ := m_readK x kg (y := k) (v := be (3 * be 23 + 1)) (b := bo kd) (nn := be 29) (t := t) (m := nm (3 + 3 * k)) (c := c) (fa := be 23) hk' (by omega) v2 b2 (by omega) (by omega) (by omega) hc e23 e22 ev (by rw [ekd]; exact b1) e29 et
        rw [ekd] at e5 e7
        rw [e1, bd_some]
        have hb1 : ∀ i, i < 4 → g1.1 265 (18 + i) = zN (uN bo kd (min 9 (bo kd + 1)) i) ∧ uN bo kd (min 9 (bo kd + 1)) i ≤ 9 := fun i hi => by
          by_cases y : i = kd
          · subst y; rw [e5, uN_eq]; exact ⟨rfl, by omega⟩
          · rw [e7 _ (by omega) (by omega) (by omega) (by omega), uN_ne y]; exact hb i hi
        obtain ⟨rs, g', r1, r2, r3⟩ := ih q (k + 1) _ _ _ g1 (by omega) (by omega) e2 hb1 (pgs_le hc _) (by omega) (by rw [e7 23 (by omega) (by omega) (by omega) (by omega)]; exact e23) e3 (by rw [e7 _ (by omega) (by omega) (by omega) (by omega)]; exact ev) e4 (by rw [e7 29 (by omega) (by omega) (by omega) (by omega)]; exact e29) (fun i h1 h2 => by
          rw [e6, bit_or, bit_sh k (by omega) i (by omega), decide_eq_false (by omega), Bool.or_false]; exact hbit i (by omega) h2)
        exact ⟨rs, g', r1, r2, r3.trans ⟨fun y => more _ y (fun _ => w.2), less _⟩⟩
      · rw [decide_eq_false w, if_neg (show ¬ (false = true) by decide)]
        refine ⟨false, g, rfl, kg, ⟨(fun y => by cases y), fun y => ?_⟩⟩
        by_cases y2 : t + nm (3 + 3 * k) ≤ nm (21 + (3 * be 23 + 1))
        · exact absurd ⟨y2, y.1 k (by omega) hk' z⟩ w
        · have y3 := y.2
          rw [if_neg y2] at y3
          exact absurd y3.symm (zN_nm1 (by omega))
    · rw [if_neg (show ¬ (if s.testBit k = true then (1 : Int32) else 0) = 1 from fun w => z ((if11 _).mp w)), bp_some, if_neg (show ¬ (false = true) by decide)]
      simp only [if_neg z]
      obtain ⟨rs, g', r1, r2, r3⟩ := ih q (k + 1) t c bo g (by omega) (by omega) kg hb hc ht e23 e22 ev et e29 (fun i h1 h2 => hbit i (by omega) h2)
      exact ⟨rs, g', r1, r2, r3.trans ⟨fun y => more _ y (fun w => absurd w z), less _⟩⟩
theorem sh_pow : ∀ B, B ≤ 6 → (1 : Int32) <<< (zN B &&& 31) = zN (2 ^ B) := by decide +kernel
theorem which_loop {n B H : Nat} {nm : Nat → Nat} {nl : Nat} {hd : Int32} {f : Nat → F6} {be : Nat → Nat} {h0 g0 : Mm} (x : CX n B H nm nl hd f be h0 g0) (hp : 0 < H) {v : Nat} (hv : v ≤ 99) (x2 : Int32) : ∀ (d q q' s c : Nat) (h g : Mm), s + d = 2 ^ B → d < q → d < q' → c ≤ s → KC n nl hd f h0 h → KG n nl hd f g0 g →
    ∃ r h' g', X6_setsFor_5 n q (zN v) x2 (zN c) (zN s) h = some (r, h') ∧ X12_which_36 n q' (zN v) x2 (zN c) (zN s) g = some (r, g') ∧ KC n nl hd f h0 h' ∧ KG n nl hd f g0 g' ∧ (x2 < -1 → r = -1) := by
  obtain ⟨x1, hL, hB, -, -⟩ := id x
  obtain ⟨q1, q2, q3, q4, q5, q6, q7, q8⟩ := id hB
  have hH := hL.2.1.2.1
  have hB6 := hL.2.1.1
  have hf : be 23 < H := by omega
  obtain ⟨⟨t1, t2, t3⟩, ⟨u1, u2, u3⟩, v1, v2, v3⟩ := q1 _ hf
  have pw : 2 ^ B ≤ 64 := Nat.pow_le_pow_right (n := 2) (by decide) hB6
  have ln : ∀ c : Nat, c < 2147483648 → x2 < -1 → ¬ zN c = x2 := fun c hc lt w => by
    rw [← w, Int32.lt_iff_toInt_lt, zN_ti hc] at lt
    have e9 : (-1 : Int32).toInt = -1 := by decide
    omega
  intro d
  induction d with
  | zero =>
    intro q q' s c h g hs hq hq' hc kc kg
    obtain ⟨q, rfl⟩ : ∃ m, q = m + 1 := ⟨q - 1, by omega⟩
    obtain ⟨q', rfl⟩ : ∃ m, q' = m + 1 := ⟨q' - 1, by omega⟩
    unfold X6_setsFor_5 X12_which_36
    rw [c_books, bp_some, (x.lc kc).1.1, (x.lm kg).1.2.2.1, sh_pow B hB6, if_pos (show zN (2 ^ B) ≤ zN s from (zN_le (by omega) (by omega)).mpr (by omega)), if_pos (show zN (2 ^ B) ≤ zN s from (zN_le (by omega) (by omega)).mpr (by omega))]
    by_cases z : x2 = -1
    · rw [if_pos z, if_pos z]; exact ⟨_, h, g, rfl, rfl, kc, kg, fun w => by rw [z] at w; exact absurd w (by decide)⟩
    · rw [if_neg z, if_neg z]; exact ⟨_, h, g, rfl, rfl, kc, kg, fun _ => rfl⟩
  | succ d ih =>
    intro q q' s c h g hs hq hq' hc kc kg
    obtain ⟨q, rfl⟩ : ∃ m, q = m + 1 := ⟨q - 1, by omega⟩
    obtain ⟨q', rfl⟩ : ∃ m, q' = m + 1 := ⟨q' - 1, by omega⟩
    unfold X6_setsFor_5 X12_which_36 X6_setsFor_53 X12_which_71 X12_isReadTo X6_calmBehindSet
    obtain ⟨g1, m1, m2, m3, -⟩ := m_trial x kg
    rw [c_books, bp_some, (x.lc kc).1.1, (x.lm kg).1.2.2.1, sh_pow B hB6, if_neg (show ¬ zN (2 ^ B) ≤ zN s by rw [zN_le (by omega) (by omega)]; omega), if_neg (show ¬ zN (2 ^ B) ≤ zN s by rw [zN_le (by omega) (by omega)]; omega), m1, bd_some, kc.i 27 (by omega)]
    obtain ⟨rs, g2, r1, r2, r3⟩ := m_set13 x hp (s := s) (rb := h0.1 27 9) (v0 := v) hv B n 0 (be (3 * be 23)) (be 22) (fun i => be (18 + i)) g1 (by omega) (by omega) m2 (fun i hi => by rw [m3 _ (by omega)]; exact ⟨(q2 i hi).2.1, (q2 i hi).2.2⟩) q3.2.2 v1 (by rw [m3 _ (by omega)]; exact q4.2.1) (by rw [m3 _ (by omega)]; exact q3.2.1) (by rw [m3 _ (by omega)]; exact u2) (by rw [m3 _ (by omega)]; exact u1) (by rw [m3 _ (by omega)]; exact q5.2.1) (fun i _ _ => by rw [m3 _ (by omega), ← q6.2.2])
    have r1' : X12_isReadTo_13 n n (zN s) (zN v) 0 g1 = some (rs, g2) := r1
    rw [r1', bd_some]
    simp only [sN1]
    have nxt : ∀ h1, KC n nl hd f h0 h1 → rs = true → ∃ r h' g', (if zN c = x2 then some (zN s, h1) else X6_setsFor_5 n q (zN v) x2 (zN (c + 1)) (zN (s + 1)) h1) = some (r, h') ∧ (if rs = true then (if zN c = x2 then some (zN s, g2) else X12_which_36 n q' (zN v) x2 (zN (c + 1)) (zN (s + 1)) g2) else X12_which_36 n q' (zN v) x2 (zN c) (zN (s + 1)) g2) = some (r, g') ∧ KC n nl hd f h0 h' ∧ KG n nl hd f g0 g' ∧ (x2 < -1 → r = -1) := fun h1 k1 e => by
      rw [if_pos e]
      by_cases z : zN c = x2
      · rw [if_pos z, if_pos z]; exact ⟨_, h1, g2, rfl, rfl, k1, r2, fun w => absurd z (ln c (by omega) w)⟩
      · rw [if_neg z, if_neg z]; exact ih q q' (s + 1) (c + 1) h1 g2 (by omega) (by omega) (by omega) (by omega) k1 r2
    have nxf : ∀ h1, KC n nl hd f h0 h1 → ¬ rs = true → ∃ r h' g', X6_setsFor_5 n q (zN v) x2 (zN c) (zN (s + 1)) h1 = some (r, h') ∧ (if rs = true then (if zN c = x2 then some (zN s, g2) else X12_which_36 n q' (zN v) x2 (zN (c + 1)) (zN (s + 1)) g2) else X12_which_36 n q' (zN v) x2 (zN c) (zN (s + 1)) g2) = some (r, g') ∧ KC n nl hd f h0 h' ∧ KG n nl hd f g0 g' ∧ (x2 < -1 → r = -1) := fun h1 k1 e => by
      rw [if_neg e]; exact ih q q' (s + 1) c h1 g2 (by omega) (by omega) (by omega) (by omega) k1 r2
    have az := and_z (s := s) (rb := h0.1 27 9) (by omega)
    have az2 : (∀ i, i < 6 → s.testBit i = true → bit (h0.1 27 9) i = false) ↔ (∀ i, 0 ≤ i → i < B → s.testBit i = true → bit (h0.1 27 9) i = false) := ⟨fun w i _ h2 h3 => w i (by omega) h3, fun w i h2 h3 => by
      by_cases e : i < B
      · exact w i (by omega) e h3
      · rw [Nat.testBit_lt_two_pow (Nat.lt_of_lt_of_le (show s < 2 ^ B by omega) (Nat.pow_le_pow_right (n := 2) (by decide) (show B ≤ i by omega)))] at h3
        cases h3⟩
    by_cases z : (zN s &&& h0.1 27 9) = 0
    · rw [if_pos z, c_copy (N := 4) al_28 al_247 (by decide), bd_some]
      generalize ehw : wR h 247 (fun k => if k < 4 then h.1 28 k else h.1 247 k) = hw
      have kw : KC n nl hd f h0 hw := by
        rw [← ehw]
        exact kc.sx (kc.1.cg (by rw [wr_ne (by decide)]) (by rw [wr_ne (by decide)]) (fun i h1 h2 => wr_ne (by omega)) rfl) ⟨fun i _ _ _ _ h5 _ => wr_ne h5, fun k _ => by rw [wr_ne (by decide)], fun _ _ => rfl⟩
      have w247 : ∀ i, i < 4 → hw.1 247 i = zN (be (18 + i)) := fun i hi => by
        rw [← ehw, wr_eq, if_pos hi, kc.i 28 (by omega)]; exact (q2 i hi).1
      rw [kw.i 27 (by omega), q4.1, at_30 (by omega), bp_some, at_29 (by omega), bp_some, kw.i 30 (by omega), kw.i 29 (by omega), t1, t2, q3.1]
      obtain ⟨h1, s1, s2⟩ := c_set62 x hp (s := s) B n 0 (be (3 * be 23)) (be 22) (fun i => be (18 + i)) hw (by omega) (by omega) kw (fun i hi => ⟨w247 i hi, (q2 i hi).2.2⟩) q3.2.2 v1
      have s1' : X6_calmBehindSet_62 n n (zN s) (zN (be (3 * be 23 + 1))) (zN (be (3 * be 23))) (zN (be 22)) 0 hw = _ := s1
      rw [s1', bd_some]
      by_cases w : oZ (setR nm hd f be s B 0 (be (3 * be 23)) (be 22) (fun i => be (18 + i))) = zN v
      · rw [if_pos w]
        exact nxt h1 s2 (r3.mpr ⟨az2.mp (az.mp z), w⟩)
      · rw [if_neg w]
        exact nxf h1 s2 (fun e => w (r3.mp e).2)
    · rw [if_neg z]
      exact nxf h kc (fun e => z (az.mpr (az2.mpr (r3.mp e).1)))
theorem sim_which (n : Nat) (hn : 20000 ≤ n) : Sim_which n (R n) := by
  intro x1 x2 h g hR
  have hR0 := hR.thr 0
  obtain ⟨B, H, nm, nl, hd, f, be, x, ex⟩ := R.cx hn hR0
  unfold X11_which X12_which X6_setsFor
  generalize wI g 251 0 (0 : Int32) = g0 at *
  obtain ⟨-, hL, -, -, -⟩ := id x
  have hH := hL.2.1.2.1
  have hB6 := hL.2.1.1
  have pw : 2 ^ B ≤ 64 := Nat.pow_le_pow_right (n := 2) (by decide) hB6
  rw [c_stands hL, bp_some, hL.1.2.2.2]
  by_cases c : H = 0
  · subst c; exact ⟨_, _, _, rfl, rfl, hR0⟩
  · rw [decide_eq_true (show 0 < H by omega), if_pos rfl, if_neg (show ¬ zN H = 0 by rw [zN_lit, zN_eq (by omega) (by decide)]; exact c)]
    rcases what x1 99 (by decide) with ⟨v, hv, rfl⟩ | ⟨hx, -⟩
    · rw [m_in (m := 99) (L := 0) (U := 99) (by decide) ⟨v, hv, rfl⟩ rfl rfl, bp_some, if_pos rfl, if_neg (show ¬ zN v < 0 from zN_neg0 (by omega)), if_neg (show ¬ (99 : Int32) < zN v from by rw [zN_lit, zN_lt (by decide) (by omega)]; omega)]
      obtain ⟨r, h1, g1, s1, s2, s3, s4, s5⟩ := which_loop x (show 0 < H by omega) hv x2 (2 ^ B) n n 0 0 h g0 (by omega) (by omega) (by omega) (by omega) x.c x.g
      have s1' : X6_setsFor_5 n n (zN v) x2 0 0 h = _ := s1
      have s2' : X12_which_36 n n (zN v) x2 0 0 g0 = _ := s2
      rw [s1', s2', bd_some]
      by_cases z : (-1 : Int32) ≤ x2
      · rw [if_pos z]; exact ⟨r, h1, g1, rfl, rfl, ex _ _ s3 s4⟩
      · rw [if_neg z, s5 (Int32.not_le.mp z)]; exact ⟨_, h1, g0, rfl, rfl, ex _ _ s3 x.g⟩
    · rw [m_out (m := 99) (L := 0) (U := 99) hx rfl rfl]
      simp only [zN_lit]
      rw [ifout' hx]
      exact ⟨_, h, g0, rfl, rfl, hR0⟩
