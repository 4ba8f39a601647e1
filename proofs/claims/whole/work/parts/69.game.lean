/-! games and rests -/
def cG (nm : Nat → Nat) (hd : Int32) (f : Nat → F6) (be : Nat → Nat) (a o b x y : Nat) : Nat := pgs (wr6 hd f (nm (3 + (3 * b + 1))) (be (3 * o + 1)) (if x = 0 then be (18 + nm (3 + (3 * b + 2))) else min 9 (be (18 + nm (3 + (3 * b + 2))) + 1)) (be 29) (be (3 * o))) (pgs (wr6 hd f (nm (3 + (3 * b + 1))) (be (3 * a + 1)) (be (18 + nm (3 + (3 * b + 2)))) (be 29) (be (3 * a))) (be 22) x) y
def enB (nm : Nat → Nat) (hd : Int32) (f : Nat → F6) (be : Nat → Nat) (a o b x y : Nat) : Bool := decide (nm 1 ≤ cG nm hd f be a o b x y)
def gnI (e : Bool) (x y : Nat) : Int := if e then 9 - (x : Int) else if y ≤ x then -(x : Int) else -(x : Int) - 2
theorem gnI_rng (e : Bool) {x : Nat} (y : Nat) (hx : x ≤ 9) : -11 ≤ gnI e x y ∧ gnI e x y ≤ 9 := by
  unfold gnI; split <;> (try split) <;> omega
theorem c_gain {e : Bool} {x y : Nat} {h : Mm} (hx : x ≤ 9) (hy : y ≤ 9) : X6_gain e (zN x) (zN y) h = some (zI (gnI e x y)) := by
  unfold X6_gain gnI
  cases e with
  | true => rw [if_pos rfl, if_pos rfl, show (9 : Int32) = zN 9 from rfl, zN_subI]; rfl
  | false =>
    rw [if_neg (show ¬ (false = true) by decide), if_neg (show ¬ (false = true) by decide)]
    by_cases c : y ≤ x
    · rw [if_pos ((zN_le (by omega) (by omega)).mpr c), if_pos c, ← zI_N, zI_neg]
    · rw [if_neg (by rw [zN_le (by omega) (by omega)]; exact c), if_neg c, ← zI_N, zI_neg, show (2 : Int32) = zI 2 from rfl, zI_sub]
theorem c_enBeh {n B H : Nat} {nm : Nat → Nat} {nl : Nat} {hd : Int32} {f : Nat → F6} {be : Nat → Nat} {h0 g0 : Mm} (x : CX n B H nm nl hd f be h0 g0) {a o b : Nat} (ha : a < H) (ho : o < H) (hb : b < B) {h : Mm} {i j : Nat} (kc : KC n nl hd f h0 h) (hi : i ≤ 9) (hj : j ≤ 9) : ∃ h', X6_enoughBehind n (zN a) (zN o) (zN b) (zN i) (zN j) h = some (enB nm hd f be a o b i j, h') ∧ KC n nl hd f h0 h' ∧ h'.1 248 = h.1 248 := by
  obtain ⟨x1, x2, ⟨q1, q2, q3, q4, q5, q6, q7, q8⟩, -, -⟩ := id x
  have hH := x2.2.1.2.1
  have kk := (x2.2.2.2.2.2.2.1 b hb).2.2.2
  have en := x2.2.2.2.2.2.1
  obtain ⟨⟨t1, t2, t3⟩, -, v1, v2, v3⟩ := q1 a ha
  obtain ⟨⟨t1', t2', t3'⟩, -, v1', v2', v3'⟩ := q1 o ho
  obtain ⟨b1, b2, b3⟩ := q2 (nm (3 + (3 * b + 2))) (by omega)
  have key : ∀ bo, bo ≤ 9 → bo = (if i = 0 then be (18 + nm (3 + (3 * b + 2))) else min 9 (be (18 + nm (3 + (3 * b + 2))) + 1)) → ∃ h', X6_enoughBehind_35 n (zN a) (zN o) (zN b) (zN i) (zN j) (zN (be (18 + nm (3 + (3 * b + 2))))) (zN bo) h = some (enB nm hd f be a o b i j, h') ∧ KC n nl hd f h0 h' ∧ h'.1 248 = h.1 248 := fun bo hbo ebo => by
    obtain ⟨h1, e1, e2, e3⟩ := c_behK x kc (y := b) (v := be (3 * a + 1)) (b := be (18 + nm (3 + (3 * b + 2)))) (nn := be 29) (t := be (3 * a)) (m := i) (c := be 22) hb v2 b3 (by omega) hi (by omega) q3.2.2
    have c9 := pgs_le (W := wr6 hd f (nm (3 + (3 * b + 1))) (be (3 * a + 1)) (be (18 + nm (3 + (3 * b + 2)))) (be 29) (be (3 * a))) q3.2.2 i
    obtain ⟨h2, d1, d2, d3⟩ := c_behK x e2 (y := b) (v := be (3 * o + 1)) (b := bo) (nn := be 29) (t := be (3 * o)) (m := j) (c := pgs (wr6 hd f (nm (3 + (3 * b + 1))) (be (3 * a + 1)) (be (18 + nm (3 + (3 * b + 2)))) (be 29) (be (3 * a))) (be 22) i) hb v2' hbo (by omega) hj (by omega) c9
    have c99 := pgs_le (W := wr6 hd f (nm (3 + (3 * b + 1))) (be (3 * o + 1)) bo (be 29) (be (3 * o))) c9 j
    refine ⟨h2, ?_, d2, by rw [d3.1 248 (by decide) (by decide) (by decide), e3.1 248 (by decide) (by decide) (by decide)]⟩
    unfold X6_enoughBehind_35 enB cG
    rw [at_30 (by omega), bp_some, at_29 (by omega), bp_some, kc.i 30 (by omega), kc.i 29 (by omega), kc.i 27 (by omega), q3.1, q5.1, t1, t2, e1, bd_some, at_30 (by omega), bp_some, at_29 (by omega), bp_some, e2.i 30 (by omega), e2.i 29 (by omega), e2.i 27 (by omega), q5.1, t1', t2', d1, bd_some, c_enough (x.lc d2), bp_some, ← ebo]
    by_cases c : nm 1 ≤ pgs (wr6 hd f (nm (3 + (3 * b + 1))) (be (3 * o + 1)) bo (be 29) (be (3 * o))) (pgs (wr6 hd f (nm (3 + (3 * b + 1))) (be (3 * a + 1)) (be (18 + nm (3 + (3 * b + 2)))) (be 29) (be (3 * a))) (be 22) i) j
    · rw [if_neg (by rw [zN_lt (by omega) (by omega)]; omega), decide_eq_true c]
    · rw [if_pos ((zN_lt (by omega) (by omega)).mpr (by omega)), decide_eq_false c]
  unfold X6_enoughBehind
  rw [c_kind (x.lc kc) hb, bp_some, at_28 (by omega), bp_some, kc.i 28 (by omega), b1]
  by_cases c : i = 0
  · rw [if_pos (by rw [c]; rfl)]; exact key _ b3 (by rw [if_pos c])
  · rw [if_neg (by rw [zN_lit, zN_eq (by omega) (by decide)]; exact c), c_mbored b3, bp_some]; exact key _ (by omega) (by rw [if_neg c])
theorem m_cb6 {n B H : Nat} {nm : Nat → Nat} {nl : Nat} {hd : Int32} {f : Nat → F6} {be : Nat → Nat} {h0 g0 : Mm} (x : CX n B H nm nl hd f be h0 g0) {a b m bo c : Nat} (ha : a < H) (hb : b < B) (hm : m ≤ 9) (hbo : bo ≤ 9) (hc : c ≤ 99) : ∀ (d q k : Nat) (g : Mm), k + d = m → d < q → KG n nl hd f g0 g → ∃ g', X12_calmBy_6 n q (zN b) (zN m) (zN a) (zN bo) (zN (pgs (wr6 hd f (nm (3 + (3 * b + 1))) (be (3 * a + 1)) bo (be 29) (be (3 * a))) c k)) (zN k) g = some (zN (pgs (wr6 hd f (nm (3 + (3 * b + 1))) (be (3 * a + 1)) bo (be 29) (be (3 * a))) c m), g') ∧ KG n nl hd f g0 g' ∧ g'.1 271 = g.1 271 := by
  obtain ⟨x1, x2, ⟨q1, q2, q3, q4, q5, q6, q7, q8⟩, -, -⟩ := id x
  have hH := x2.2.1.2.1
  obtain ⟨-, ⟨u1, u2, u3⟩, v1, v2, v3⟩ := q1 a ha
  have iv : inB (zN (3 * a + 1)) (aln 264) := by rw [al_264, zN_inB (by omega)]; omega
  have it : inB (zN (3 * a)) (aln 264) := by rw [al_264, zN_inB (by omega)]; omega
  have i29 : inB (29 : Int32) (aln 264) := by rw [al_264]; decide
  have t29 : (29 : Int32).toNatClampNeg = 29 := by decide
  have e3 : (3 : Int32) * zN a + 1 = zN (3 * a + 1) := by simp only [zN_lit, zN_mul, zN_add]
  have e30 : (3 : Int32) * zN a + 0 = zN (3 * a) := by simp only [zN_lit, zN_mul, zN_add, Nat.add_zero]
  intro d
  induction d with
  | zero =>
    intro q k g hk hq kg
    obtain ⟨q, rfl⟩ : ∃ m, q = m + 1 := ⟨q - 1, by omega⟩
    obtain rfl : k = m := by omega
    unfold X12_calmBy_6
    rw [if_pos ((zN_le (by omega) (by omega)).mpr (Nat.le_refl k))]
    exact ⟨g, rfl, kg, rfl⟩
  | succ d ih =>
    intro q k g hk hq kg
    obtain ⟨q, rfl⟩ : ∃ m, q = m + 1 := ⟨q - 1, by omega⟩
    obtain ⟨g1, e1, e2, e5⟩ := m_pageK x kg (y := b) (v := be (3 * a + 1)) (b := bo) (p := k) (nn := be 29) (t := be (3 * a) + k) hb v2 hbo (by omega) (by omega) (by omega)
    have rg := wv_rng hd f (nm (3 + (3 * b + 1))) (be (3 * a + 1)) bo k (be 29) (be (3 * a) + k)
    obtain ⟨g2, r1, r2, r3⟩ := ih q (k + 1) g1 (by omega) (by omega) e2
    refine ⟨g2, ?_, r2, by rw [r3, e5.1 271 (by decide) (by decide) (by decide)]⟩
    unfold X12_calmBy_6
    rw [if_neg (by rw [zN_le (by omega) (by omega)]; omega), e3, e30, if_pos iv, if_pos i29, if_pos it, zN_ix (by omega), zN_ix (by omega), t29, kg.i 264 (by omega), u1, u2, q5.2.1, zN_add, e1, bd_some, m_cadd (pgs_le hc k) rg.1 (by omega), bp_some, show zN k + 1 = zN (k + 1) by rw [show (1 : Int32) = zN 1 from rfl, zN_add]]
    exact r1
theorem m_gameOf {n B H : Nat} {nm : Nat → Nat} {nl : Nat} {hd : Int32} {f : Nat → F6} {be : Nat → Nat} {h0 g0 : Mm} (x : CX n B H nm nl hd f be h0 g0) {a o b : Nat} (ha : a < H) (ho : o < H) (hb : b < B) {g : Mm} {i j : Nat} {w : Int32} (kg : KG n nl hd f g0 g) (hi : i ≤ 9) (hj : j ≤ 9) : ∃ g', X12_gameOf n (zN a) (zN o) (zN b) (zN i) (zN j) w g = some (if w = 0 then zI (gnI (enB nm hd f be a o b i j) i j) else zI (gnI (enB nm hd f be a o b i j) j i), g') ∧ KG n nl hd f g0 g' ∧ g'.1 271 = g.1 271 := by
  obtain ⟨x1, x2, ⟨q1, q2, q3, q4, q5, q6, q7, q8⟩, -, -⟩ := id x
  have hH := x2.2.1.2.1
  have kk := (x2.2.2.2.2.2.2.1 b hb).2.2.2
  have en := x2.2.2.2.2.2.1
  obtain ⟨b1, b2, b3⟩ := q2 (nm (3 + (3 * b + 2))) (by omega)
  obtain ⟨g1, e1, e2, e3⟩ := m_cb6 x (a := a) (b := b) (m := i) (bo := be (18 + nm (3 + (3 * b + 2)))) (c := be 22) ha hb hi b3 q3.2.2 i n 0 g (by omega) (by omega) kg
  have c9 := pgs_le (W := wr6 hd f (nm (3 + (3 * b + 1))) (be (3 * a + 1)) (be (18 + nm (3 + (3 * b + 2)))) (be 29) (be (3 * a))) q3.2.2 i
  have g91 : ∀ (c p r : Nat) (g : Mm), KG n nl hd f g0 g → c ≤ 99 → p ≤ 9 → r ≤ 9 → X12_gameOf_91 n (zN c) (zN p) (zN r) g = some (zI (gnI (decide (nm 1 ≤ c)) p r), g) := fun c p r g kg hc hp hr => by
    unfold X12_gameOf_91
    have cg := c_gain (e := decide (nm 1 ≤ c)) (h := g) hp hr
    unfold X6_gain at cg
    rw [m_isEnough (x.lm kg) (by omega), bp_some]
    generalize decide (nm 1 ≤ c) = e at *
    cases e with
    | true =>
      rw [if_pos rfl] at cg ⊢; rw [show zI (gnI true p r) = 9 - zN p from (Option.some.inj cg).symm]
    | false =>
      rw [if_neg (show ¬ (false = true) by decide)] at cg ⊢
      by_cases z : zN r ≤ zN p
      · rw [if_pos z] at cg ⊢; rw [Option.some.inj cg]
      · rw [if_neg z] at cg ⊢; rw [Option.some.inj cg]
  have key : ∀ bo, bo ≤ 9 → bo = (if i = 0 then be (18 + nm (3 + (3 * b + 2))) else min 9 (be (18 + nm (3 + (3 * b + 2))) + 1)) → ∃ g', X12_gameOf_60 n (zN i) (zN j) w (zN (pgs (wr6 hd f (nm (3 + (3 * b + 1))) (be (3 * a + 1)) (be (18 + nm (3 + (3 * b + 2)))) (be 29) (be (3 * a))) (be 22) i)) (zN b) (zN j) (zN o) (zN bo) g1 = some (if w = 0 then zI (gnI (enB nm hd f be a o b i j) i j) else zI (gnI (enB nm hd f be a o b i j) j i), g') ∧ KG n nl hd f g0 g' ∧ g'.1 271 = g.1 271 := fun bo hbo ebo => by
    obtain ⟨g2, d1, d2, d3⟩ := m_cb6 x (a := o) (b := b) (m := j) (bo := bo) (c := pgs (wr6 hd f (nm (3 + (3 * b + 1))) (be (3 * a + 1)) (be (18 + nm (3 + (3 * b + 2)))) (be 29) (be (3 * a))) (be 22) i) ho hb hj hbo c9 j n 0 g1 (by omega) (by omega) e2
    have c99 := pgs_le (W := wr6 hd f (nm (3 + (3 * b + 1))) (be (3 * o + 1)) bo (be 29) (be (3 * o))) c9 j
    refine ⟨g2, ?_, d2, by rw [d3, e3]⟩
    unfold X12_gameOf_60 X12_gameOf_77 X12_calmBy
    have d1' : X12_calmBy_6 n n (zN b) (zN j) (zN o) (zN bo) (zN (pgs (wr6 hd f (nm (3 + (3 * b + 1))) (be (3 * a + 1)) (be (18 + nm (3 + (3 * b + 2)))) (be 29) (be (3 * a))) (be 22) i)) 0 g1 = _ := d1
    rw [d1', bd_some, g91 _ _ _ g2 d2 c99 hi hj, g91 _ _ _ g2 d2 c99 hj hi]
    unfold enB cG
    rw [← ebo]
    by_cases c : w = 0
    · rw [if_pos c, if_pos c, if_pos c]
    · rw [if_neg c, if_neg c, if_neg c]
  unfold X12_gameOf X12_calmBy
  have i18 : inB (zN (18 + nm (3 + (3 * b + 2)))) (aln 264) := by rw [al_264, zN_inB (by omega)]; omega
  have i22 : inB (22 : Int32) (aln 264) := by rw [al_264]; decide
  have t22 : (22 : Int32).toNatClampNeg = 22 := by decide
  have e1' : X12_calmBy_6 n n (zN b) (zN i) (zN a) (zN (be (18 + nm (3 + (3 * b + 2))))) (zN (be 22)) 0 g = _ := e1
  rw [m_kind (x.lm kg) hb, bp_some, show (18 : Int32) = zN 18 from rfl, zN_add, if_pos i18, if_pos i22, zN_ix (by omega), t22, kg.i 264 (by omega), q3.2.1, b2, e1', bd_some]
  by_cases c : i = 0
  · rw [if_pos (by rw [c]; rfl)]; exact key _ b3 (by rw [if_pos c])
  · rw [if_neg (by rw [zN_lit, zN_eq (by omega) (by decide)]; exact c), show (1 : Int32) = zN 1 from rfl, zN_add, show (9 : Int32) = zN 9 from rfl, j_min, bp_some]
    have em : (if zN (be (18 + nm (3 + (3 * b + 2))) + 1) < zN 9 then zN (be (18 + nm (3 + (3 * b + 2))) + 1) else zN 9) = zN (min 9 (be (18 + nm (3 + (3 * b + 2))) + 1)) := by
      by_cases w : be (18 + nm (3 + (3 * b + 2))) + 1 < 9
      · rw [if_pos ((zN_lt (by omega) (by decide)).mpr w), Nat.min_eq_right (by omega)]
      · rw [if_neg (by rw [zN_lt (by omega) (by decide)]; exact w), Nat.min_eq_left (by omega)]
    rw [em]
    exact key _ (by omega) (by rw [if_neg c])
theorem c_play {B H : Nat} {nm : Nat → Nat} {h g : Mm} (hL : LandR B H nm (h.1 14) (h.1 15) (g.1 251) (g.1 256) (g.1 258) (g.1 260)) (x1 x2 x3 : Int32) : (∃ a o b, a < H ∧ o < H ∧ a ≠ o ∧ b < B ∧ x1 = zN a ∧ x2 = zN o ∧ x3 = zN b ∧ X11_canPlay x1 x2 x3 h = some true ∧ X12_isGame x1 x2 x3 g = some true) ∨ (X11_canPlay x1 x2 x3 h = some false ∧ X12_isGame x1 x2 x3 g = some false) := by
  have hH := hL.2.1.2.1
  unfold X11_canPlay X12_isGame
  rcases idx x1 H with ⟨a, ha, rfl⟩ | hx
  · rw [c_hasHouse_y hL ha, m_isHouse_y hL ha, bp_some, bp_some, if_pos rfl, if_pos rfl]
    rcases idx x2 H with ⟨o, ho, rfl⟩ | hx
    · rw [c_hasHouse_y hL ho, m_isHouse_y hL ho, bp_some, bp_some, if_pos rfl, if_pos rfl]
      by_cases c : a = o
      · right; rw [if_pos (by rw [c]), if_pos (by rw [c])]; exact ⟨rfl, rfl⟩
      · rw [if_neg (by rw [zN_eq (by omega) (by omega)]; exact c), if_neg (by rw [zN_eq (by omega) (by omega)]; exact c)]
        rcases idx x3 B with ⟨b, hb, rfl⟩ | hx
        · left; rw [c_hasBook_y hL hb, m_isBook_y hL hb]; exact ⟨a, o, b, ha, ho, c, hb, rfl, rfl, rfl, rfl, rfl⟩
        · right; rw [c_hasBook_n hL hx, m_isBook_n hL hx]; exact ⟨rfl, rfl⟩
    · right; rw [c_hasHouse_n hL hx, m_isHouse_n hL hx]; exact ⟨rfl, rfl⟩
  · right; rw [c_hasHouse_n hL hx, m_isHouse_n hL hx]; exact ⟨rfl, rfl⟩
theorem sim_game (n : Nat) (hn : 20000 ≤ n) : Sim_game n (R n) := by
  intro x1 x2 x3 x4 x5 x6 h g hR
  have hR0 := hR.thr 0
  obtain ⟨B, H, nm, nl, hd, f, be, x, ex⟩ := R.cx hn hR0
  unfold X11_game X12_game X11_game_21 X11_game_59 X12_game_74
  generalize wI g 251 0 (0 : Int32) = g0 at *
  obtain ⟨-, hL, -, -, -⟩ := id x
  rcases c_play hL x1 x2 x3 with ⟨a, o, b, ha, ho, -, hb, rfl, rfl, rfl, e1, e2⟩ | ⟨e1, e2⟩
  · have pg := hL.2.2.2.2.2.2.1 b hb
    rw [e1, e2, bp_some, bp_some, if_pos rfl, if_pos rfl, c_pages hL hb, m_pages hL hb, bp_some, bp_some]
    have bad : ∀ a : Option (Int32 × Mm), a = some ((-1000000 : Int32), h) → ∀ b : Option (Int32 × Mm), b = some ((-1000000 : Int32), g0) → ∃ r h2 g2, a = some (r, h2) ∧ b = some (r, g2) ∧ R n h2 g2 := fun a e b e' => ⟨_, h, g0, e, e', hR0⟩
    have i0 : ∀ k m : Nat, k ≤ m → m < 1000 → ∀ U : Int64, U = (zN m).toInt64 → X12_isIn (zN k).toInt64 (0 : Int64) U g0 = some true := fun k m h1 h2 U e => m_in (m := m) (by omega) ⟨k, h1, rfl⟩ rfl e
    rcases what x6 1 (by decide) with ⟨w, hw, rfl⟩ | ⟨hx, -⟩
    · rw [if_neg (show ¬ zN w < 0 from zN_neg0 (by omega)), if_pos (show zN w ≤ 1 from (zN_le (b := 1) (by omega) (by decide)).mpr hw)]
      rcases what x4 (nm (3 + 3 * b)) (by omega) with ⟨i, hi, rfl⟩ | ⟨hx, -⟩
      · rw [i0 i _ hi (by omega) _ rfl, bp_some, if_pos rfl, if_neg (show ¬ zN i < 0 from zN_neg0 (by omega)), if_neg (show ¬ zN (nm (3 + 3 * b)) < zN i by rw [zN_lt (by omega) (by omega)]; omega)]
        rcases what x5 (nm (3 + 3 * b)) (by omega) with ⟨j, hj, rfl⟩ | ⟨hx, -⟩
        · rw [bp_some, i0 j _ hj (by omega) _ rfl, bp_some, if_pos rfl, if_neg (show ¬ zN j < 0 from zN_neg0 (by omega)), if_pos (show zN j ≤ zN (nm (3 + 3 * b)) from (zN_le (by omega) (by omega)).mpr hj), i0 w 1 hw (by omega) 1 rfl, bp_some, if_pos rfl]
          obtain ⟨h1, c1, c2, -⟩ := c_enBeh x ha ho hb (i := i) (j := j) x.c (by omega) (by omega)
          obtain ⟨g1, d1, d2, -⟩ := m_gameOf x ha ho hb (i := i) (j := j) (w := zN w) x.g (by omega) (by omega)
          rw [c1, bd_some, c_gain (by omega) (by omega), c_gain (by omega) (by omega), d1, bd_some, bp_some, bp_some]
          refine ⟨_, h1, g1, ?_, rfl, ex _ _ c2 d2⟩
          by_cases c : zN w = 0
          · rw [if_pos c, if_pos c]
          · rw [if_neg c, if_neg c]
        · rw [bp_some, m_out (m := nm (3 + 3 * b)) (L := 0) hx rfl rfl]
          refine bad _ ?_ _ rfl
          rcases hx with q | q
          · rw [if_pos (show x5 < 0 from q)]
          · by_cases c : x5 < 0
            · rw [if_pos c]
            · rw [if_neg c, if_neg (Int32.not_le.mpr q)]
      · rw [m_out (m := nm (3 + 3 * b)) (L := 0) hx rfl rfl]
        refine bad _ ?_ _ rfl
        rcases hx with q | q
        · rw [if_pos (show x4 < 0 from q)]
        · by_cases c : x4 < 0
          · rw [if_pos c]
          · rw [if_neg c, if_pos q]
    · have e3 : ∀ z : Option (Int32 × Mm), (if x6 < 0 then some ((-1000000 : Int32), h) else if x6 ≤ 1 then z else some ((-1000000 : Int32), h)) = some ((-1000000 : Int32), h) := fun z => ifout (m := 1) hx
      refine bad _ (e3 _) _ ?_
      rcases what x4 (nm (3 + 3 * b)) (by omega) with ⟨i, hi, rfl⟩ | ⟨hx4, -⟩
      · rw [i0 i _ hi (by omega) _ rfl, bp_some, if_pos rfl]
        rcases what x5 (nm (3 + 3 * b)) (by omega) with ⟨j, hj, rfl⟩ | ⟨hx5, -⟩
        · rw [bp_some, i0 j _ hj (by omega) _ rfl, bp_some, if_pos rfl, m_out (m := 1) (L := 0) (U := 1) hx rfl rfl]; rfl
        · rw [bp_some, m_out (m := nm (3 + 3 * b)) (L := 0) hx5 rfl rfl]; rfl
      · rw [m_out (m := nm (3 + 3 * b)) (L := 0) hx4 rfl rfl]; rfl
  · rw [e1, e2]; exact ⟨_, h, g0, rfl, rfl, hR0⟩
