/-! numbers: Int32 as naturals and integers -/
def zN (k : Nat) : Int32 := Int32.ofNat k
def zI (a : Int) : Int32 := Int32.ofInt a
theorem zN_lit (n : Nat) : (@OfNat.ofNat Int32 n _) = zN (@OfNat.ofNat Nat n (instOfNatNat n)) := by exact Eq.trans rfl rfl
theorem zI_N (k : Nat) : zI (k : Int) = zN k := by
  unfold zI zN; exact Int32.ofInt_eq_ofNat
theorem zN_ti {k : Nat} (h : k < 2147483648) : (zN k).toInt = (k : Int) := Int32.toInt_ofNat_of_lt h
theorem zI_ti {a : Int} (h1 : -2147483648 ≤ a) (h2 : a < 2147483648) : (zI a).toInt = a := Int32.toInt_ofInt_of_le h1 h2
theorem zI_self (x : Int32) : zI x.toInt = x := Int32.ofInt_toInt x
theorem zN_add (a b : Nat) : zN a + zN b = zN (a + b) := (Int32.ofNat_add a b).symm
theorem zN_mul (a b : Nat) : zN a * zN b = zN (a * b) := (Int32.ofNat_mul a b).symm
theorem zI_add (a b : Int) : zI a + zI b = zI (a + b) := (Int32.ofInt_add a b).symm
theorem zI_sub (a b : Int) : zI a - zI b = zI (a - b) := (Int32.ofInt_sub a b).symm
theorem zI_mul (a b : Int) : zI a * zI b = zI (a * b) := (Int32.ofInt_mul a b).symm
theorem zI_neg (a : Int) : - zI a = zI (-a) := (Int32.ofInt_neg a).symm
theorem zN_sub {a b : Nat} (h : b ≤ a) : zN a - zN b = zN (a - b) := by
  rw [← zI_N, ← zI_N, ← zI_N, zI_sub]; congr 1; omega
theorem zN_lt {a b : Nat} (ha : a < 2147483648) (hb : b < 2147483648) : (zN a < zN b) ↔ a < b := by
  rw [Int32.lt_iff_toInt_lt, zN_ti ha, zN_ti hb]; omega
theorem zN_le {a b : Nat} (ha : a < 2147483648) (hb : b < 2147483648) : (zN a ≤ zN b) ↔ a ≤ b := by
  rw [Int32.le_iff_toInt_le, zN_ti ha, zN_ti hb]; omega
theorem zN_eq {a b : Nat} (ha : a < 2147483648) (hb : b < 2147483648) : (zN a = zN b) ↔ a = b := by
  rw [← Int32.toInt_inj, zN_ti ha, zN_ti hb]; omega
theorem zI_lt {a b : Int} (h1 : -2147483648 ≤ a) (h2 : a < 2147483648) (h3 : -2147483648 ≤ b) (h4 : b < 2147483648) : (zI a < zI b) ↔ a < b := by
  rw [Int32.lt_iff_toInt_lt, zI_ti h1 h2, zI_ti h3 h4]
theorem zI_le {a b : Int} (h1 : -2147483648 ≤ a) (h2 : a < 2147483648) (h3 : -2147483648 ≤ b) (h4 : b < 2147483648) : (zI a ≤ zI b) ↔ a ≤ b := by
  rw [Int32.le_iff_toInt_le, zI_ti h1 h2, zI_ti h3 h4]
theorem zI_eq {a b : Int} (h1 : -2147483648 ≤ a) (h2 : a < 2147483648) (h3 : -2147483648 ≤ b) (h4 : b < 2147483648) : (zI a = zI b) ↔ a = b := by
  rw [← Int32.toInt_inj, zI_ti h1 h2, zI_ti h3 h4]
theorem zN_ix {k : Nat} (h : k < 2147483648) : (zN k).toNatClampNeg = k := by
  rw [← Int32.toNat_toInt, zN_ti h]; rfl
theorem zN_inB {k n : Nat} (h : k < 2147483648) : inB (zN k) n ↔ k < n := by
  unfold inB; rw [zN_ti h]; omega
theorem zN_neg0 {k : Nat} (h : k < 2147483648) : ¬ (zN k < zN 0) := by rw [zN_lt h (by decide)]; omega
theorem i32_cases (x : Int32) : x < zN 0 ∨ ∃ k, k < 2147483648 ∧ x = zN k := by
  by_cases h : x < zN 0
  · exact Or.inl h
  · refine Or.inr ⟨x.toInt.toNat, ?_, ?_⟩
    · have := x.toInt_lt; omega
    · rw [Int32.lt_iff_toInt_lt, zN_ti (by decide)] at h
      rw [← zI_N]
      have e : ((x.toInt.toNat : Nat) : Int) = x.toInt := by omega
      rw [e, zI_self]
theorem rng_N {x : Int32} {lo hi : Nat} (h1 : (lo : Int) ≤ x.toInt) (h2 : x.toInt ≤ (hi : Int)) : ∃ k, x = zN k ∧ lo ≤ k ∧ k ≤ hi := by
  refine ⟨x.toInt.toNat, ?_, by omega, by omega⟩
  rw [← zI_N]
  have e : ((x.toInt.toNat : Nat) : Int) = x.toInt := by omega
  rw [e, zI_self]
theorem i32_le_not {x y : Int32} : ¬ x ≤ y ↔ y < x := Int32.not_le
theorem i32_lt_not {x y : Int32} : ¬ x < y ↔ y ≤ x := Int32.not_lt
/-! memory -/
theorem w_ne {h : Mm} {i k a : Nat} {v : Int32} (q : a ≠ i) : (wI h i k v).1 a = h.1 a := by simp only [wI, wR, if_neg q]
theorem w_eq {h : Mm} {i k : Nat} {v : Int32} : (wI h i k v).1 i = upd (h.1 i) k v := by simp only [wI, wR, if_true]
theorem w_2 {h : Mm} {i k : Nat} {v : Int32} : (wI h i k v).2 = h.2 := by exact Eq.trans rfl rfl
theorem wl_1 {h : Mm} {i k : Nat} {v : Int64} : (wL h i k v).1 = h.1 := by exact Eq.trans rfl rfl
theorem wl_ne {h : Mm} {i k a : Nat} {v : Int64} (q : a ≠ i) : (wL h i k v).2 a = h.2 a := by simp only [wL, wRL, if_neg q]
theorem wl_eq {h : Mm} {i k : Nat} {v : Int64} : (wL h i k v).2 i = vp_updL (h.2 i) k v := by simp only [wL, wRL, if_true]
theorem wr_ne {h : Mm} {i a : Nat} {f : Nat → Int32} (q : a ≠ i) : (wR h i f).1 a = h.1 a := by simp only [wR, if_neg q]
theorem wr_eq {h : Mm} {i : Nat} {f : Nat → Int32} : (wR h i f).1 i = f := by simp only [wR, if_true]
theorem wr_2 {h : Mm} {i : Nat} {f : Nat → Int32} : (wR h i f).2 = h.2 := by exact Eq.trans rfl rfl
theorem u_ne {f : Nat → Int32} {k j : Nat} {v : Int32} (q : j ≠ k) : upd f k v j = f j := by simp only [upd, if_neg q]
theorem u_eq {f : Nat → Int32} {k : Nat} {v : Int32} : upd f k v k = v := by simp only [upd, if_true]
theorem ul_ne {f : Nat → Int64} {k j : Nat} {v : Int64} (q : j ≠ k) : vp_updL f k v j = f j := by simp only [vp_updL, if_neg q]
theorem ul_eq {f : Nat → Int64} {k : Nat} {v : Int64} : vp_updL f k v k = v := by simp only [vp_updL, if_true]
theorem bp_some {α β : Type} (a : α) (f : α → Option β) : bp (some a) f = f a := by exact Eq.trans rfl rfl
theorem bd_some {α β : Type} (a : α) (m : Mm) (f : α → Mm → Option β) : bd (some (a, m)) f = f a m := by exact Eq.trans rfl rfl
theorem bp_id {α : Type} (x : Option α) : bp x (fun r => some r) = x := by cases x <;> rfl
theorem b2i_t : b2i true = zN 1 := by exact Eq.trans rfl rfl
theorem b2i_f : b2i false = zN 0 := by exact Eq.trans rfl rfl
/-! small methods that both have -/
theorem j_min (a b : Int32) (h : Mm) : J9_min_7cf53 a b h = some (if b < a then b else a) := by
  unfold J9_min_7cf53
  by_cases c : b < a
  · rw [if_pos c, if_pos c]
  · rw [if_neg c, if_neg c]
theorem j_max (a b : Int32) (h : Mm) : J9_max_7cf53 a b h = some (if a < b then b else a) := by
  unfold J9_max_7cf53
  by_cases c : a < b
  · rw [if_pos c, if_pos c]
  · rw [if_neg c, if_neg c]
theorem c_at {a0 : Nat} {x : Int32} {h : Mm} (hl : aln a0 < 2147483648) : X11_at a0 x h = some (if inB x (aln a0) then rdA h a0 x.toNatClampNeg else 0) := by
  unfold X11_at
  have e : (Int32.ofNat (aln a0)).toInt = (aln a0 : Int) := Int32.toInt_ofNat_of_lt hl
  by_cases c : inB x (aln a0)
  · have c1 : ¬ x < 0 := by rw [Int32.lt_iff_toInt_lt]; exact Int.not_lt.mpr c.1
    have c2 : ¬ Int32.ofNat (aln a0) ≤ x := by rw [Int32.le_iff_toInt_le, e]; exact Int.not_le.mpr c.2
    rw [if_neg c1, if_neg c2, if_pos c, if_pos c]
  · by_cases c1 : x < 0
    · rw [if_pos c1, if_neg c]
    · by_cases c2 : Int32.ofNat (aln a0) ≤ x
      · rw [if_neg c1, if_pos c2, if_neg c]
      · exfalso
        rw [Int32.lt_iff_toInt_lt] at c1
        rw [Int32.le_iff_toInt_le, e] at c2
        exact c ⟨by have : (0 : Int32).toInt = 0 := rfl; omega, by omega⟩
theorem c_atN {a0 k : Nat} {h : Mm} (hl : k < aln a0) (h2 : aln a0 < 2147483648) : X11_at a0 (zN k) h = some (rdA h a0 k) := by
  rw [c_at h2, if_pos ((zN_inB (by omega)).mpr hl), zN_ix (by omega)]
theorem c_put {a0 : Nat} {x v : Int32} {h : Mm} (hl : aln a0 < 2147483648) : X11_put a0 x v h = some ((), if inB x (aln a0) then wI h a0 x.toNatClampNeg v else h) := by
  unfold X11_put
  have e : (Int32.ofNat (aln a0)).toInt = (aln a0 : Int) := Int32.toInt_ofNat_of_lt hl
  by_cases c : inB x (aln a0)
  · have c1 : ¬ x < 0 := by rw [Int32.lt_iff_toInt_lt]; exact Int.not_lt.mpr c.1
    have c2 : ¬ Int32.ofNat (aln a0) ≤ x := by rw [Int32.le_iff_toInt_le, e]; exact Int.not_le.mpr c.2
    simp only [if_neg c1, if_neg c2, if_pos c]
  · by_cases c1 : x < 0
    · simp only [if_pos c1, if_neg c]
    · by_cases c2 : Int32.ofNat (aln a0) ≤ x
      · simp only [if_neg c1, if_pos c2, if_neg c]
      · exfalso
        rw [Int32.lt_iff_toInt_lt] at c1
        rw [Int32.le_iff_toInt_le, e] at c2
        exact c ⟨by have : (0 : Int32).toInt = 0 := rfl; omega, by omega⟩
theorem c_putN {a0 k : Nat} {v : Int32} {h : Mm} (hl : k < aln a0) (h2 : aln a0 < 2147483648) : X11_put a0 (zN k) v h = some ((), wI h a0 k v) := by
  rw [c_put h2, if_pos ((zN_inB (by omega)).mpr hl), zN_ix (by omega)]
theorem m_isIn (x lo hi : Int32) (h : Mm) : X12_isIn x.toInt64 lo.toInt64 hi.toInt64 h = some (decide (lo ≤ x ∧ x ≤ hi)) := by
  unfold X12_isIn
  have e1 : (lg_cmp x.toInt64 lo.toInt64 < 0) ↔ x < lo := by
    rw [lg_cmp_lt, Int64.lt_iff_toInt_lt, Int32.toInt_toInt64, Int32.toInt_toInt64, Int32.lt_iff_toInt_lt]
  have e2 : (0 < lg_cmp x.toInt64 hi.toInt64) ↔ hi < x := by
    rw [lg_cmp_gt, Int64.lt_iff_toInt_lt, Int32.toInt_toInt64, Int32.toInt_toInt64, Int32.lt_iff_toInt_lt]
  by_cases c : x < lo
  · rw [if_pos (e1.mpr c), decide_eq_false]; exact fun z => Int32.not_le.mpr c z.1
  · rw [if_neg (fun z => c (e1.mp z))]
    by_cases d : hi < x
    · rw [if_pos (e2.mpr d), decide_eq_false]; exact fun z => Int32.not_le.mpr d z.2
    · rw [if_neg (fun z => d (e2.mp z)), decide_eq_true]
      exact ⟨Int32.not_lt.mp c, Int32.not_lt.mp d⟩
theorem m_isIn_l (x : Int32) (lo hi : Nat) {L U : Int64} (h : Mm) (e1 : L = (zN lo).toInt64) (e2 : U = (zN hi).toInt64) : X12_isIn x.toInt64 L U h = some (decide (zN lo ≤ x ∧ x ≤ zN hi)) := by
  rw [e1, e2, m_isIn]
theorem and1 (x : Int32) : x &&& zN 1 = zN 0 ∨ x &&& zN 1 = zN 1 := by
  have e : (x &&& zN 1).toBitVec = x.toBitVec &&& 1#32 := rfl
  by_cases c : x.toBitVec.getLsbD 0
  · right
    apply Int32.toBitVec_inj.mp
    rw [e]
    apply BitVec.eq_of_getLsbD_eq
    intro i hi
    show (x.toBitVec &&& 1#32).getLsbD i = (1#32).getLsbD i
    rw [BitVec.getLsbD_and, BitVec.getLsbD_one]
    by_cases d : i = 0
    · subst d; simp [c]
    · simp [d]
  · left
    apply Int32.toBitVec_inj.mp
    rw [e]
    apply BitVec.eq_of_getLsbD_eq
    intro i hi
    show (x.toBitVec &&& 1#32).getLsbD i = (0#32).getLsbD i
    rw [BitVec.getLsbD_and, BitVec.getLsbD_one]
    by_cases d : i = 0
    · subst d; simp only [Bool.not_eq_true] at c; rw [c]; rfl
    · simp [d]
