/-! the class's readers -/
theorem idx (x : Int32) (B : Nat) : (∃ b, b < B ∧ x = zN b) ∨ ∀ b, b < B → x ≠ zN b := by
  by_cases c : ∃ b, b < B ∧ x = zN b
  · exact Or.inl c
  · exact Or.inr fun b hb e => c ⟨b, hb, e⟩
theorem what (x : Int32) (m : Nat) (hm : m < 2147483648) : (∃ k, k ≤ m ∧ x = zN k) ∨ ((x < zN 0 ∨ zN m < x) ∧ ∀ k, k ≤ m → x ≠ zN k) := by
  rcases i32_cases x with h | ⟨k, hk, rfl⟩
  · exact Or.inr ⟨Or.inl h, fun k hk e => by subst e; exact zN_neg0 (by omega) h⟩
  · by_cases c : k ≤ m
    · exact Or.inl ⟨k, c, rfl⟩
    · exact Or.inr ⟨Or.inr ((zN_lt hm hk).mpr (by omega)), fun j hj e => c ((zN_eq hk (by omega)).mp e ▸ hj)⟩
theorem m_in {x : Int32} {m : Nat} {h : Mm} {L U : Int64} (hm : m < 2147483648) (hx : ∃ k, k ≤ m ∧ x = zN k) (e1 : L = (zN 0).toInt64) (e2 : U = (zN m).toInt64) : X12_isIn x.toInt64 L U h = some true := by
  obtain ⟨k, hk, rfl⟩ := hx
  rw [m_isIn_l _ 0 m h e1 e2, decide_eq_true]
  exact ⟨(zN_le (by decide) (by omega)).mpr (Nat.zero_le _), (zN_le (by omega) hm).mpr hk⟩
theorem m_out {x : Int32} {m : Nat} {h : Mm} {L U : Int64} (hx : x < zN 0 ∨ zN m < x) (e1 : L = (zN 0).toInt64) (e2 : U = (zN m).toInt64) : X12_isIn x.toInt64 L U h = some false := by
  rw [m_isIn_l _ 0 m h e1 e2, decide_eq_false]
  rintro ⟨a, b⟩
  rcases hx with z | z
  · exact Int32.not_le.mpr z a
  · exact Int32.not_le.mpr z b
theorem c_books {h : Mm} : X1_books 13 h = some (h.1 14 1) := by
  unfold X1_books; rw [zN_lit, at_14 (by decide)]; rfl
theorem c_houses {h : Mm} : X1_houses 13 h = some (h.1 14 2) := by
  unfold X1_houses; rw [zN_lit, at_14 (by decide)]; rfl
theorem c_told0 {h : Mm} {k : Nat} (hk : k < 3) : X1_told 13 0 0 (zN k) h = some (h.1 15 k) := by
  unfold X1_told
  simp only [zN_lit, zN_add, zN_mul, bp_some, bd_some, w_eq, w_2, wl_1, u_eq, wr_eq, wr_2, Nat.reduceAdd, Nat.reduceMul, Nat.reduceSub]
  rw [at_1001 (by decide), bp_some, show EX 1001 0 = zN 0 from rfl]
  simp only [zN_lit, zN_add, zN_mul, bp_some, bd_some, w_eq, w_2, wl_1, u_eq, wr_eq, wr_2, Nat.reduceAdd, Nat.reduceMul, Nat.reduceSub, Nat.zero_mul, Nat.zero_add]
  rw [at_15 (by omega)]; rfl
theorem c_told1 {h : Mm} {b k : Nat} (hk : 3 * b + k < 36) : X1_told 13 1 (zN b) (zN k) h = some (h.1 15 (3 + (3 * b + k))) := by
  unfold X1_told
  simp only [zN_lit, zN_add, zN_mul, bp_some, bd_some, w_eq, w_2, wl_1, u_eq, wr_eq, wr_2, Nat.reduceAdd, Nat.reduceMul, Nat.reduceSub]
  rw [at_1001 (by decide), bp_some, show EX 1001 1 = zN 3 from rfl]
  simp only [zN_lit, zN_add, zN_mul, bp_some, bd_some, w_eq, w_2, wl_1, u_eq, wr_eq, wr_2, Nat.reduceAdd, Nat.reduceMul, Nat.reduceSub]
  rw [show 3 + b * 3 + k = 3 + (3 * b + k) by omega, at_15 (by omega)]; rfl
theorem c_told2 {h : Mm} {b k : Nat} (hk : 3 * b + k < 18) : X1_told 13 2 (zN b) (zN k) h = some (h.1 15 (21 + (3 * b + k))) := by
  unfold X1_told
  simp only [zN_lit, zN_add, zN_mul, bp_some, bd_some, w_eq, w_2, wl_1, u_eq, wr_eq, wr_2, Nat.reduceAdd, Nat.reduceMul, Nat.reduceSub]
  rw [at_1001 (by decide), bp_some, show EX 1001 2 = zN 21 from rfl]
  simp only [zN_lit, zN_add, zN_mul, bp_some, bd_some, w_eq, w_2, wl_1, u_eq, wr_eq, wr_2, Nat.reduceAdd, Nat.reduceMul, Nat.reduceSub]
  rw [show 21 + b * 3 + k = 21 + (3 * b + k) by omega, at_15 (by omega)]; rfl
theorem c_stands {B H : Nat} {nm : Nat → Nat} {h g : Mm} (hL : LandR B H nm (h.1 14) (h.1 15) (g.1 251) (g.1 256) (g.1 258) (g.1 260)) : X1_stands 13 h = some (decide (0 < H)) := by
  obtain ⟨⟨-, e2, -, -⟩, ⟨-, z, -⟩, -⟩ := hL
  unfold X1_stands
  simp only [c_houses, e2, zN_lit, zN_add, zN_mul, bp_some, bd_some, w_eq, w_2, wl_1, u_eq, wr_eq, wr_2, Nat.reduceAdd, Nat.reduceMul, Nat.reduceSub, zN_le (a := H) (b := 0) (by omega) (by omega)]
  by_cases c : 0 < H
  · rw [if_neg (by omega), decide_eq_true c]
  · rw [if_pos (by omega), decide_eq_false c]
theorem c_enough {B H : Nat} {nm : Nat → Nat} {h g : Mm} (hL : LandR B H nm (h.1 14) (h.1 15) (g.1 251) (g.1 256) (g.1 258) (g.1 260)) : X1_enough 13 h = some (zN (nm 1)) := by
  unfold X1_enough
  rw [show (1 : Int32) = zN 1 from rfl, c_told0 (by decide), (hL.2.2.1 1 (by decide)).1]; rfl
theorem c_loses {B H : Nat} {nm : Nat → Nat} {h g : Mm} (hL : LandR B H nm (h.1 14) (h.1 15) (g.1 251) (g.1 256) (g.1 258) (g.1 260)) : X1_loses 13 h = some (zN (nm 2)) := by
  unfold X1_loses
  rw [show (2 : Int32) = zN 2 from rfl, c_told0 (by decide), (hL.2.2.1 2 (by decide)).1]; rfl
theorem c_calm0 {B H : Nat} {nm : Nat → Nat} {h g : Mm} (hL : LandR B H nm (h.1 14) (h.1 15) (g.1 251) (g.1 256) (g.1 258) (g.1 260)) : X1_calmAtFirst 13 h = some (zN (nm 0)) := by
  unfold X1_calmAtFirst
  rw [show X1_told 13 0 0 0 h = X1_told 13 0 0 (zN 0) h from rfl, c_told0 (by decide), (hL.2.2.1 0 (by decide)).1]; rfl
theorem c_pages {B H : Nat} {nm : Nat → Nat} {h g : Mm} (hL : LandR B H nm (h.1 14) (h.1 15) (g.1 251) (g.1 256) (g.1 258) (g.1 260)) {b : Nat} (hb : b < B) : X1_pagesOf 13 (zN b) h = some (zN (nm (3 + 3 * b))) := by
  have z := hL.2.1.1
  unfold X1_pagesOf
  rw [show X1_told 13 1 (zN b) 0 h = X1_told 13 1 (zN b) (zN 0) h from rfl, c_told1 (by omega), Nat.add_zero, (hL.2.2.2.1 (3 * b) (by omega)).1]; rfl
theorem c_calming {B H : Nat} {nm : Nat → Nat} {h g : Mm} (hL : LandR B H nm (h.1 14) (h.1 15) (g.1 251) (g.1 256) (g.1 258) (g.1 260)) {b : Nat} (hb : b < B) : X1_calmingOf 13 (zN b) h = some (zN (nm (3 + (3 * b + 1)))) := by
  have z := hL.2.1.1
  unfold X1_calmingOf
  rw [show X1_told 13 1 (zN b) 1 h = X1_told 13 1 (zN b) (zN 1) h from rfl, c_told1 (by omega), (hL.2.2.2.1 (3 * b + 1) (by omega)).1]; rfl
theorem c_kind {B H : Nat} {nm : Nat → Nat} {h g : Mm} (hL : LandR B H nm (h.1 14) (h.1 15) (g.1 251) (g.1 256) (g.1 258) (g.1 260)) {b : Nat} (hb : b < B) : X1_kindOf 13 (zN b) h = some (zN (nm (3 + (3 * b + 2)))) := by
  have z := hL.2.1.1
  unfold X1_kindOf
  rw [show X1_told 13 1 (zN b) 2 h = X1_told 13 1 (zN b) (zN 2) h from rfl, c_told1 (by omega), (hL.2.2.2.1 (3 * b + 2) (by omega)).1]; rfl
theorem c_children {B H : Nat} {nm : Nat → Nat} {h g : Mm} (hL : LandR B H nm (h.1 14) (h.1 15) (g.1 251) (g.1 256) (g.1 258) (g.1 260)) {x : Nat} (hx : x < H) : X1_childrenOf 13 (zN x) h = some (zN (nm (21 + 3 * x))) := by
  have z := hL.2.1.2.1
  unfold X1_childrenOf
  rw [show X1_told 13 2 (zN x) 0 h = X1_told 13 2 (zN x) (zN 0) h from rfl, c_told2 (by omega), Nat.add_zero, (hL.2.2.2.2.1 (3 * x) (by omega)).1]; rfl
theorem c_strength {B H : Nat} {nm : Nat → Nat} {h g : Mm} (hL : LandR B H nm (h.1 14) (h.1 15) (g.1 251) (g.1 256) (g.1 258) (g.1 260)) {x : Nat} (hx : x < H) : X1_strengthOf 13 (zN x) h = some (zN (nm (21 + (3 * x + 1)))) := by
  have z := hL.2.1.2.1
  unfold X1_strengthOf
  rw [show X1_told 13 2 (zN x) 1 h = X1_told 13 2 (zN x) (zN 1) h from rfl, c_told2 (by omega), (hL.2.2.2.2.1 (3 * x + 1) (by omega)).1]; rfl
theorem c_hasBook_y {B H : Nat} {nm : Nat → Nat} {h g : Mm} (hL : LandR B H nm (h.1 14) (h.1 15) (g.1 251) (g.1 256) (g.1 258) (g.1 260)) {b : Nat} (hb : b < B) : X1_hasBook 13 (zN b) h = some true := by
  have z := hL.2.1.1
  unfold X1_hasBook
  simp only [zN_lit, if_neg (zN_neg0 (k := b) (by omega)), c_books, hL.1.1, bp_some]
  rw [if_neg]; rw [zN_le (by omega) (by omega)]; omega
theorem c_hasBook_n {B H : Nat} {nm : Nat → Nat} {h g : Mm} (hL : LandR B H nm (h.1 14) (h.1 15) (g.1 251) (g.1 256) (g.1 258) (g.1 260)) {x : Int32} (hx : ∀ b, b < B → x ≠ zN b) : X1_hasBook 13 x h = some false := by
  have z := hL.2.1.1
  unfold X1_hasBook
  simp only [zN_lit, c_books, hL.1.1, bp_some]
  rcases i32_cases x with c | ⟨k, hk, rfl⟩
  · rw [if_pos c]
  · rw [if_neg (zN_neg0 hk), if_pos]
    rw [zN_le (by omega) hk]
    exact Nat.not_lt.mp fun q => hx k q rfl
theorem c_hasHouse_y {B H : Nat} {nm : Nat → Nat} {h g : Mm} (hL : LandR B H nm (h.1 14) (h.1 15) (g.1 251) (g.1 256) (g.1 258) (g.1 260)) {b : Nat} (hb : b < H) : X1_hasHouse 13 (zN b) h = some true := by
  have z := hL.2.1.2.1
  unfold X1_hasHouse
  simp only [zN_lit, if_neg (zN_neg0 (k := b) (by omega)), c_houses, hL.1.2.1, bp_some]
  rw [if_neg]; rw [zN_le (by omega) (by omega)]; omega
theorem c_hasHouse_n {B H : Nat} {nm : Nat → Nat} {h g : Mm} (hL : LandR B H nm (h.1 14) (h.1 15) (g.1 251) (g.1 256) (g.1 258) (g.1 260)) {x : Int32} (hx : ∀ b, b < H → x ≠ zN b) : X1_hasHouse 13 x h = some false := by
  have z := hL.2.1.2.1
  unfold X1_hasHouse
  simp only [zN_lit, c_houses, hL.1.2.1, bp_some]
  rcases i32_cases x with c | ⟨k, hk, rfl⟩
  · rw [if_pos c]
  · rw [if_neg (zN_neg0 hk), if_pos]
    rw [zN_le (by omega) hk]
    exact Nat.not_lt.mp fun q => hx k q rfl
theorem m_isBook_y {B H : Nat} {nm : Nat → Nat} {h g : Mm} (hL : LandR B H nm (h.1 14) (h.1 15) (g.1 251) (g.1 256) (g.1 258) (g.1 260)) {b : Nat} (hb : b < B) : X12_isBook (zN b) g = some true := by
  have z := hL.2.1.1
  unfold X12_isBook
  rw [zN_lit, if_neg (zN_neg0 (k := b) (by omega)), hL.1.2.2.1, if_neg]
  rw [zN_le (by omega) (by omega)]; omega
theorem m_isBook_n {B H : Nat} {nm : Nat → Nat} {h g : Mm} (hL : LandR B H nm (h.1 14) (h.1 15) (g.1 251) (g.1 256) (g.1 258) (g.1 260)) {x : Int32} (hx : ∀ b, b < B → x ≠ zN b) : X12_isBook x g = some false := by
  have z := hL.2.1.1
  unfold X12_isBook
  rw [zN_lit, hL.1.2.2.1]
  rcases i32_cases x with c | ⟨k, hk, rfl⟩
  · rw [if_pos c]
  · rw [if_neg (zN_neg0 hk), if_pos]
    rw [zN_le (by omega) hk]
    exact Nat.not_lt.mp fun q => hx k q rfl
theorem m_isHouse_y {B H : Nat} {nm : Nat → Nat} {h g : Mm} (hL : LandR B H nm (h.1 14) (h.1 15) (g.1 251) (g.1 256) (g.1 258) (g.1 260)) {b : Nat} (hb : b < H) : X12_isHouse (zN b) g = some true := by
  have z := hL.2.1.2.1
  unfold X12_isHouse
  rw [zN_lit, if_neg (zN_neg0 (k := b) (by omega)), hL.1.2.2.2, if_neg]
  rw [zN_le (by omega) (by omega)]; omega
theorem m_isHouse_n {B H : Nat} {nm : Nat → Nat} {h g : Mm} (hL : LandR B H nm (h.1 14) (h.1 15) (g.1 251) (g.1 256) (g.1 258) (g.1 260)) {x : Int32} (hx : ∀ b, b < H → x ≠ zN b) : X12_isHouse x g = some false := by
  have z := hL.2.1.2.1
  unfold X12_isHouse
  rw [zN_lit, hL.1.2.2.2]
  rcases i32_cases x with c | ⟨k, hk, rfl⟩
  · rw [if_pos c]
  · rw [if_neg (zN_neg0 hk), if_pos]
    rw [zN_le (by omega) hk]
    exact Nat.not_lt.mp fun q => hx k q rfl
theorem m_pages {B H : Nat} {nm : Nat → Nat} {h g : Mm} (hL : LandR B H nm (h.1 14) (h.1 15) (g.1 251) (g.1 256) (g.1 258) (g.1 260)) {b : Nat} (hb : b < B) : X12_pagesOf (zN b) g = some (zN (nm (3 + 3 * b))) := by
  have z := hL.2.1.1
  unfold X12_pagesOf
  simp only [zN_lit, zN_add, zN_mul, bp_some, bd_some, w_eq, w_2, wl_1, u_eq, wr_eq, wr_2, Nat.reduceAdd, Nat.reduceMul, Nat.reduceSub, al_258]
  rw [if_pos ((zN_inB (by omega)).mpr (by omega)), zN_ix (by omega), (hL.2.2.2.1 (3 * b) (by omega)).2]
theorem m_kind {B H : Nat} {nm : Nat → Nat} {h g : Mm} (hL : LandR B H nm (h.1 14) (h.1 15) (g.1 251) (g.1 256) (g.1 258) (g.1 260)) {b : Nat} (hb : b < B) : X12_kindOf (zN b) g = some (zN (nm (3 + (3 * b + 2)))) := by
  have z := hL.2.1.1
  unfold X12_kindOf
  simp only [zN_lit, zN_add, zN_mul, bp_some, bd_some, w_eq, w_2, wl_1, u_eq, wr_eq, wr_2, Nat.reduceAdd, Nat.reduceMul, Nat.reduceSub, al_258]
  rw [if_pos ((zN_inB (by omega)).mpr (by omega)), zN_ix (by omega), (hL.2.2.2.1 (3 * b + 2) (by omega)).2]
theorem m_strength {B H : Nat} {nm : Nat → Nat} {h g : Mm} (hL : LandR B H nm (h.1 14) (h.1 15) (g.1 251) (g.1 256) (g.1 258) (g.1 260)) {x : Nat} (hx : x < H) : X12_strength (zN x) g = some (zN (nm (21 + (3 * x + 1)))) := by
  have z := hL.2.1.2.1
  unfold X12_strength
  simp only [zN_lit, zN_add, zN_mul, bp_some, bd_some, w_eq, w_2, wl_1, u_eq, wr_eq, wr_2, Nat.reduceAdd, Nat.reduceMul, Nat.reduceSub, al_260]
  rw [if_pos ((zN_inB (by omega)).mpr (by omega)), zN_ix (by omega), (hL.2.2.2.2.1 (3 * x + 1) (by omega)).2]
theorem m_isEnough {B H : Nat} {nm : Nat → Nat} {h g : Mm} (hL : LandR B H nm (h.1 14) (h.1 15) (g.1 251) (g.1 256) (g.1 258) (g.1 260)) {k : Nat} (hk : k < 2147483648) : X12_isEnough (zN k) g = some (decide (nm 1 ≤ k)) := by
  have z := hL.2.2.2.2.2.1
  have e : g.1 256 1 = zN (nm 1) := (hL.2.2.1 1 (by decide)).2
  unfold X12_isEnough
  simp (disch := omega) only [zN_lit, zN_add, zN_mul, bp_some, bd_some, w_eq, w_2, wl_1, u_eq, wr_eq, wr_2, Nat.reduceAdd, Nat.reduceMul, Nat.reduceSub, al_256, zN_inB, zN_ix, e, zN_lt]
  rw [if_pos (by decide)]
  by_cases c : nm 1 ≤ k
  · rw [if_neg (by omega), decide_eq_true c]
  · rw [if_pos (by omega), decide_eq_false c]
theorem zN_subI (a b : Nat) : zN a - zN b = zI ((a : Int) - b) := by rw [← zI_N, ← zI_N, zI_sub]
theorem zI_subN (a : Int) (b : Nat) : zI a - zN b = zI (a - b) := by rw [← zI_N, zI_sub]
theorem zN_addI (a : Nat) (b : Int) : zN a + zI b = zI (a + b) := by rw [← zI_N, zI_add]
theorem zI_addN (a : Int) (b : Nat) : zI a + zN b = zI (a + b) := by rw [← zI_N, zI_add]
theorem zI_leN {a : Int} {b : Nat} (h1 : -2147483648 ≤ a) (h2 : a < 2147483648) (h4 : b < 2147483648) : (zI a ≤ zN b) ↔ a ≤ b := by
  rw [← zI_N, zI_le h1 h2 (by omega) (by omega)]
theorem zN_leI {a : Int} {b : Nat} (h1 : -2147483648 ≤ a) (h2 : a < 2147483648) (h4 : b < 2147483648) : (zN b ≤ zI a) ↔ b ≤ a := by
  rw [← zI_N, zI_le (by omega) (by omega) h1 h2]
theorem zI_ltN {a : Int} {b : Nat} (h1 : -2147483648 ≤ a) (h2 : a < 2147483648) (h4 : b < 2147483648) : (zI a < zN b) ↔ a < b := by
  rw [← zI_N, zI_lt h1 h2 (by omega) (by omega)]
theorem zN_ltI {a : Int} {b : Nat} (h1 : -2147483648 ≤ a) (h2 : a < 2147483648) (h4 : b < 2147483648) : (zN b < zI a) ↔ b < a := by
  rw [← zI_N, zI_lt (by omega) (by omega) h1 h2]
theorem zI_toN {a : Int} {k : Nat} (h : a = k) : zI a = zN k := by rw [h, zI_N]
theorem c_held {a : Int} {h : Mm} (h1 : -2147483648 ≤ a) (h2 : a < 2147483648) : X11_heldCalm (zI a) h = some (zN (min 99 a.toNat)) := by
  unfold X11_heldCalm
  simp (disch := omega) only [zN_lit, zN_leI, zI_leN]
  by_cases c : (0 : Int) ≤ a
  · rw [if_pos (by omega)]
    by_cases d : a ≤ 99
    · rw [if_pos (by omega), zI_toN (k := min 99 a.toNat) (by omega)]
    · rw [if_neg (by omega), show min 99 a.toNat = 99 by omega]
  · rw [if_neg (by omega), show min 99 a.toNat = 0 by omega]
theorem m_held {a : Int} {h : Mm} (h1 : -2147483648 ≤ a) (h2 : a < 2147483648) : X12_held (zI a) h = some (zN (min 99 a.toNat)) := by
  unfold X12_held
  simp (disch := omega) only [zN_lit, j_min, bp_some, zI_ltN]
  by_cases c : a < 99
  · rw [if_pos (by omega)]
    simp (disch := omega) only [j_max, bp_some, zN_ltI]
    by_cases d : 0 < a
    · rw [if_pos (by omega), zI_toN (k := min 99 a.toNat) (by omega)]
    · rw [if_neg (by omega), show min 99 a.toNat = 0 by omega]
  · rw [if_neg (by omega)]
    simp (disch := omega) only [j_max, bp_some, zN_lt]
    rw [if_pos (by omega), show min 99 a.toNat = 99 by omega]
theorem c_heldN {a : Nat} {h : Mm} (h2 : a < 2147483648) : X11_heldCalm (zN a) h = some (zN (min 99 a)) := by
  rw [← zI_N, c_held (by omega) (by omega)]; congr 2
theorem m_heldN {a : Nat} {h : Mm} (h2 : a < 2147483648) : X12_held (zN a) h = some (zN (min 99 a)) := by
  rw [← zI_N, m_held (by omega) (by omega)]; congr 2
/-- CALM behind a NIGHT -/
def ncalm (nm : Nat → Nat) (c : Nat) : Nat := c - nm 2 - (if nm 1 ≤ c then 0 else 2)
theorem c_behind {B H : Nat} {nm : Nat → Nat} {h g : Mm} (hL : LandR B H nm (h.1 14) (h.1 15) (g.1 251) (g.1 256) (g.1 258) (g.1 260)) {c : Nat} (hc : c ≤ 99) : X9_calmBehindNight (zN c) h = some (zN (ncalm nm c)) := by
  obtain ⟨z0, z1, z2⟩ := hL.2.2.2.2.2.1
  unfold X9_calmBehindNight X9_calmBehindNight_16
  simp (disch := omega) only [c_enough hL, c_loses hL, zN_lit, zN_add, zN_mul, bp_some, bd_some, w_eq, w_2, wl_1, u_eq, wr_eq, wr_2, Nat.reduceAdd, Nat.reduceMul, Nat.reduceSub, zN_lt, zN_subI, zI_subN]
  unfold ncalm
  by_cases q : c < nm 1
  · rw [if_pos q, c_held (by omega) (by omega), if_neg (by omega)]
    simp only [bp_some]; congr 2; omega
  · rw [if_neg q, c_held (by omega) (by omega), if_pos (by omega)]
    simp only [bp_some]; congr 2; omega
theorem m_behind {B H : Nat} {nm : Nat → Nat} {h g : Mm} (hL : LandR B H nm (h.1 14) (h.1 15) (g.1 251) (g.1 256) (g.1 258) (g.1 260)) {c : Nat} (hc : c ≤ 99) : X12_behind (zN c) g = some (zN (ncalm nm c)) := by
  obtain ⟨z0, z1, z2⟩ := hL.2.2.2.2.2.1
  have e := (hL.2.2.1 2 (by decide)).2
  unfold X12_behind X12_behind_22
  simp (disch := omega) only [m_isEnough hL, zN_lit, zN_add, zN_mul, bp_some, bd_some, w_eq, w_2, wl_1, u_eq, wr_eq, wr_2, Nat.reduceAdd, Nat.reduceMul, Nat.reduceSub, al_2, al_5, al_6, al_8, al_10, al_11, al_12, al_14, al_15, al_18, al_19, al_20, al_21, al_22, al_23, al_24, al_25, al_28, al_29, al_30, al_31, al_33, al_34, al_35, al_36, al_39, al_41, al_42, al_43, al_44, al_45, al_247, al_248, al_250, al_252, al_253, al_254, al_255, al_256, al_257, al_258, al_259, al_260, al_261, al_262, al_263, al_264, al_265, al_266, al_267, al_268, al_269, al_270, al_271, al_272, al_273, al_1001, al_1002, al_1003, al_1004, al_1005, al_1006, al_1007, zN_inB, zN_ix, e, b2i_f, zN_subI, zI_subN, j_max, zN_ltI]
  unfold ncalm
  by_cases q : nm 1 ≤ c
  · rw [if_pos (by decide), decide_eq_true q, if_pos rfl, if_pos q]
    by_cases d : (0 : Int) < (c : Int) - nm 2 - 0
    · rw [if_pos (by omega), zI_toN (k := c - nm 2 - 0) (by omega)]
    · rw [if_neg (by omega)]; congr 2; omega
  · rw [if_pos (by decide), decide_eq_false q, if_neg (by decide), if_neg q]
    by_cases d : (0 : Int) < (c : Int) - nm 2 - 2
    · rw [if_pos (by omega), zI_toN (k := c - nm 2 - 2) (by omega)]
    · rw [if_neg (by omega)]; congr 2; omega
theorem ncalm_le {nm : Nat → Nat} {c : Nat} (hc : c ≤ 99) : ncalm nm c ≤ 99 := by unfold ncalm; omega
