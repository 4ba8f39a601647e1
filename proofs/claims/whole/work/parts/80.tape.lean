/-! the tape, read -/
def skF (T : Nat → Nat) : Nat → Nat → Nat
  | 0, p => p
  | d + 1, p => if T p = 32 then skF T d (p + 1) else p
def skp (T : Nat → Nat) (s p : Nat) : Nat := skF T (s - p) p
def sg (T : Nat → Nat) (s p : Nat) : Nat := if p < s then T p else 0
theorem skF_b (T : Nat → Nat) : ∀ d p, p ≤ skF T d p ∧ skF T d p ≤ p + d
  | 0, p => ⟨Nat.le_refl _, Nat.le_refl _⟩
  | d + 1, p => by
    unfold skF
    have := skF_b T d (p + 1)
    split <;> omega
theorem skF_n (T : Nat → Nat) : ∀ d p, skF T d p < p + d → T (skF T d p) ≠ 32
  | 0, p, h => by unfold skF at h; omega
  | d + 1, p, h => by
    unfold skF at h ⊢
    by_cases c : T p = 32
    · rw [if_pos c] at h ⊢; exact skF_n T d (p + 1) (by omega)
    · rw [if_neg c]; exact c
theorem skp_b {T : Nat → Nat} {s p : Nat} (h : p ≤ s) : p ≤ skp T s p ∧ skp T s p ≤ s := by
  have := skF_b T (s - p) p
  unfold skp; omega
theorem skp_n {T : Nat → Nat} {s p : Nat} (h : p ≤ s) (hl : skp T s p < s) : T (skp T s p) ≠ 32 := skF_n T (s - p) p (by unfold skp at hl; omega)
theorem skp_nb {T : Nat → Nat} {s p : Nat} (h : p < s → T p ≠ 32) : skp T s p = p := by
  unfold skp
  cases hd : s - p with
  | zero => rfl
  | succ d => unfold skF; rw [if_neg (h (by omega))]
theorem skp_id {T : Nat → Nat} {s p : Nat} (h : p ≤ s) : skp T s (skp T s p) = skp T s p := skp_nb (fun z => skp_n h z)
/-- that text, on the class's tape -/
def CT (T : Nat → Nat) (s : Nat) (h : Mm) : Prop := s ≤ 240 ∧ h.1 1 1 = zN s ∧ ∀ k, k < s → h.1 2 k = zN (T k) ∧ 1 ≤ T k ∧ T k ≤ 255
def mk (h : Mm) (p : Nat) : Mm := wI h 1 2 (zN p)
theorem wR_wR {h : Mm} {i : Nat} {f f' : Nat → Int32} : wR (wR h i f) i f' = wR h i f' := by
  unfold wR
  refine Prod.ext (funext fun a => ?_) rfl
  show (if a = i then f' else if a = i then f else h.1 a) = if a = i then f' else h.1 a
  by_cases c : a = i
  · rw [if_pos c, if_pos c]
  · rw [if_neg c, if_neg c, if_neg c]
theorem wI_wR {h : Mm} {i k : Nat} {f : Nat → Int32} {v : Int32} : wI (wR h i f) i k v = wR h i (upd f k v) := by
  unfold wI; rw [wr_eq, wR_wR]
theorem upd_upd {f : Nat → Int32} {k : Nat} {v w : Int32} : upd (upd f k v) k w = upd f k w := funext fun j => by
  by_cases c : j = k
  · subst c; rw [u_eq, u_eq]
  · rw [u_ne c, u_ne c, u_ne c]
theorem wI_wI {h : Mm} {i k : Nat} {v w : Int32} : wI (wI h i k v) i k w = wI h i k w := by
  show wI (wR h i (upd (h.1 i) k v)) i k w = _
  rw [wI_wR, upd_upd]; rfl
theorem mk_w {h : Mm} {p q : Nat} : wI (mk h p) 1 2 (zN q) = mk h q := wI_wI
theorem mk_2 {h : Mm} {p : Nat} : (mk h p).1 1 2 = zN p := by unfold mk; rw [w_eq, u_eq]
theorem mk_k {h : Mm} {p k : Nat} (hk : k ≠ 2) : (mk h p).1 1 k = h.1 1 k := by unfold mk; rw [w_eq, u_ne hk]
theorem mk_i {h : Mm} {p i : Nat} (hi : i ≠ 1) : (mk h p).1 i = h.1 i := by unfold mk; rw [w_ne hi]
theorem mk_inc {h : Mm} {p : Nat} : wI (mk h p) 1 2 ((mk h p).1 1 2 + 1) = mk h (p + 1) := by rw [mk_2, sN1, mk_w]
theorem nar_cc : ∀ k, k < 256 → vp_nar .char (zN k) = zN k := by decide +kernel
theorem c_sign5 {T : Nat → Nat} {s n : Nat} {h : Mm} (ct : CT T s h) : ∀ (d q p p0 : Nat), p + d = s → d < q → X7_sign_5 n q (zN p) (mk h p0) = some (zN (sg T s (skF T d p)), mk h (skF T d p)) := by
  obtain ⟨c1, c2, c3⟩ := ct
  intro d
  induction d with
  | zero =>
    intro q p p0 hp hq
    obtain ⟨q, rfl⟩ : ∃ m, q = m + 1 := ⟨q - 1, by omega⟩
    unfold X7_sign_5 X7_sign_55
    rw [if_neg (show ¬ zN p < 0 from zN_neg0 (by omega)), mk_k (by decide), c2, if_pos (show zN s ≤ zN p from (zN_le (by omega) (by omega)).mpr (by omega)), mk_w]
    unfold skF sg
    rw [if_neg (by omega), show p = s by omega]; rfl
  | succ d ih =>
    intro q p p0 hp hq
    obtain ⟨q, rfl⟩ : ∃ m, q = m + 1 := ⟨q - 1, by omega⟩
    obtain ⟨e1, e2, e3⟩ := c3 p (by omega)
    have ib : inB (zN p) (aln 2) := by rw [al_2, zN_inB (by omega)]; omega
    rw [X7_sign_5]
    rw [if_neg (show ¬ zN p < 0 from zN_neg0 (by omega)), mk_k (by decide), c2, if_neg (show ¬ zN s ≤ zN p by rw [zN_le (by omega) (by omega)]; omega), if_neg (show ¬ (240 : Int32) ≤ zN p by rw [zN_lit, zN_le (by decide) (by omega)]; omega), if_pos ib, mk_w, mk_i (by decide), zN_ix (by omega), e1, if_pos ib, sN1, nar_cc _ (by omega), if_pos rfl]
    unfold skF
    by_cases c : T p = 32
    · rw [if_pos (show zN (T p) = 32 by rw [c]; rfl), if_pos c]
      exact ih q (p + 1) p (by omega) (by omega)
    · rw [if_neg (show ¬ zN (T p) = 32 by rw [zN_lit, zN_eq (by omega) (by decide)]; exact c), if_neg c]
      unfold sg; rw [if_pos (by omega)]
theorem sg_le {T : Nat → Nat} {s : Nat} {h : Mm} (ct : CT T s h) (p : Nat) : sg T s p ≤ 255 := by
  unfold sg
  by_cases c : p < s
  · rw [if_pos c]; exact (ct.2.2 p c).2.2
  · rw [if_neg c]; omega
theorem sg_0 {T : Nat → Nat} {s : Nat} {h : Mm} (ct : CT T s h) (p : Nat) : sg T s p = 0 ↔ ¬ p < s := by
  unfold sg
  by_cases c : p < s
  · rw [if_pos c]; have := (ct.2.2 p c).2.1; omega
  · rw [if_neg c]; omega
theorem c_sign {T : Nat → Nat} {s n p : Nat} {h : Mm} (hn : 20000 ≤ n) (ct : CT T s h) (hp : p ≤ s) : X7_sign n (mk h p) = some (zN (sg T s (skp T s p)), mk h (skp T s p)) := by
  have := ct.1
  unfold X7_sign; rw [mk_2]; exact c_sign5 ct (s - p) n p p (by omega) (by omega)
theorem c_take {T : Nat → Nat} {s n p ch : Nat} {h : Mm} (hn : 20000 ≤ n) (ct : CT T s h) (hp : p ≤ s) (c2 : ch ≤ 255) : X7_take n (zN ch) (mk h p) = if sg T s (skp T s p) = ch then some (true, mk h (skp T s p + 1)) else some (false, mk h (skp T s p)) := by
  have := sg_le ct (skp T s p)
  unfold X7_take
  rw [c_sign hn ct hp, bd_some, mk_inc]
  by_cases c : sg T s (skp T s p) = ch
  · rw [if_pos (by rw [c]), if_pos c]
  · rw [if_neg (by rw [zN_eq (by omega) (by omega)]; exact c), if_neg c]
theorem c_atEnd {T : Nat → Nat} {s n p : Nat} {h : Mm} (hn : 20000 ≤ n) (ct : CT T s h) (hp : p ≤ s) : X7_isAtEnd n (mk h p) = some (decide (skp T s p = s), mk h (skp T s p)) := by
  have := sg_le ct (skp T s p)
  have b := skp_b (T := T) hp
  have z := sg_0 ct (skp T s p)
  unfold X7_isAtEnd
  rw [c_sign hn ct hp, bd_some]
  by_cases c : skp T s p = s
  · rw [if_pos (show zN (sg T s (skp T s p)) = 0 by rw [z.mpr (by omega)]; rfl), decide_eq_true c]
  · rw [if_neg (show ¬ zN (sg T s (skp T s p)) = 0 by rw [zN_lit, zN_eq (by omega) (by decide), z]; omega), decide_eq_false c]
def dg (T : Nat → Nat) (s p : Nat) : Bool := decide (48 ≤ sg T s p ∧ sg T s p ≤ 57)
theorem c_isDigit {c : Nat} {h : Mm} (hc : c ≤ 255) : X7_isDigit (zN c) h = some (decide (48 ≤ c ∧ c ≤ 57)) := by
  unfold X7_isDigit
  rw [show (48 : Int32) = zN 48 from rfl, show (57 : Int32) = zN 57 from rfl]
  by_cases a : c < 48
  · rw [if_pos ((zN_lt (by omega) (by decide)).mpr a), decide_eq_false (by omega)]
  · rw [if_neg (by rw [zN_lt (by omega) (by decide)]; exact a)]
    by_cases b : 57 < c
    · rw [if_pos ((zN_lt (by decide) (by omega)).mpr b), decide_eq_false (by omega)]
    · rw [if_neg (by rw [zN_lt (by decide) (by omega)]; exact b), decide_eq_true (by omega)]
theorem c_touch {T : Nat → Nat} {s p : Nat} {h : Mm} (ct : CT T s h) (hp : p ≤ s) : X7_touching (mk h p) = some (zN (sg T s p)) := by
  obtain ⟨c1, c2, c3⟩ := ct
  unfold X7_touching
  rw [mk_2, if_neg (show ¬ zN p < 0 from zN_neg0 (by omega)), mk_k (by decide), c2]
  by_cases c : p < s
  · obtain ⟨e1, e2, e3⟩ := c3 p c
    rw [if_neg (show ¬ zN s ≤ zN p by rw [zN_le (by omega) (by omega)]; omega), if_neg (show ¬ (240 : Int32) ≤ zN p by rw [zN_lit, zN_le (by decide) (by omega)]; omega), if_pos (show inB (zN p) (aln 2) by rw [al_2, zN_inB (by omega)]; omega), mk_i (by decide), zN_ix (by omega), e1, if_pos (nar_cc _ (by omega))]
    unfold sg; rw [if_pos c]
  · rw [if_pos (show zN s ≤ zN p from (zN_le (by omega) (by omega)).mpr (by omega))]
    unfold sg; rw [if_neg c]; rfl
/-- a number of so many digits more -/
def nmF (T : Nat → Nat) (s : Nat) : Nat → Nat → Nat → Option Nat × Nat
  | 0, v, p => if dg T s p = true then (none, p) else (some v, p)
  | d + 1, v, p => if dg T s p = true then nmF T s d (v * 10 + (sg T s p - 48)) (p + 1) else (some v, p)
theorem dg_lt {T : Nat → Nat} {s p : Nat} (h : dg T s p = true) : p < s ∧ 48 ≤ sg T s p ∧ sg T s p ≤ 57 := by
  unfold dg at h
  have h := of_decide_eq_true h
  refine ⟨?_, h⟩
  unfold sg at h
  by_cases c : p < s
  · exact c
  · rw [if_neg c] at h; omega
theorem nmF_b (T : Nat → Nat) (s : Nat) : ∀ d v p, p ≤ s → p ≤ (nmF T s d v p).2 ∧ (nmF T s d v p).2 ≤ s
  | 0, v, p, h => by unfold nmF; split <;> exact ⟨Nat.le_refl _, h⟩
  | d + 1, v, p, h => by
    unfold nmF
    by_cases c : dg T s p = true
    · rw [if_pos c]
      have := dg_lt c
      have := nmF_b T s d (v * 10 + (sg T s p - 48)) (p + 1) (by omega)
      omega
    · rw [if_neg c]; exact ⟨Nat.le_refl _, h⟩
theorem c_num16 {T : Nat → Nat} {s n m : Nat} {h : Mm} (ct : CT T s h) (hm : m ≤ 4) : ∀ (d q k v p : Nat), k + d = m → d < q → p ≤ s → X7_takeNumber_16 n q (zN m) (zN v) (zN k) (mk h p) = some (oZ (nmF T s d v p).1, mk h (nmF T s d v p).2) := by
  have f60 : ∀ (v p : Nat), p ≤ s → X7_takeNumber_60 n (zN v) (mk h p) = if dg T s p = true then some (-1, mk h p) else some (zN v, mk h p) := fun v p hp => by
    unfold X7_takeNumber_60
    rw [c_touch ct hp, bp_some, c_isDigit (sg_le ct p), bp_some]; rfl
  intro d
  induction d with
  | zero =>
    intro q k v p hk hq hp
    obtain ⟨q, rfl⟩ : ∃ m, q = m + 1 := ⟨q - 1, by omega⟩
    unfold X7_takeNumber_16 nmF
    rw [if_pos (show zN m ≤ zN k from (zN_le (by omega) (by omega)).mpr (by omega)), f60 v p hp]
    by_cases c : dg T s p = true
    · rw [if_pos c, if_pos c]; rfl
    · rw [if_neg c, if_neg c]; rfl
  | succ d ih =>
    intro q k v p hk hq hp
    obtain ⟨q, rfl⟩ : ∃ m, q = m + 1 := ⟨q - 1, by omega⟩
    unfold X7_takeNumber_16 nmF
    rw [if_neg (show ¬ zN m ≤ zN k by rw [zN_le (by omega) (by omega)]; omega), c_touch ct hp, bp_some, c_isDigit (sg_le ct p), bp_some, bp_some, mk_inc, f60 v p hp]
    by_cases c : dg T s p = true
    · have c' : decide (48 ≤ sg T s p ∧ sg T s p ≤ 57) = true := c
      obtain ⟨a1, a2, a3⟩ := dg_lt c
      rw [if_pos c', if_pos c, show (10 : Int32) = zN 10 from rfl, show (48 : Int32) = zN 48 from rfl, zN_mul, zN_sub a2, zN_add, sN1]
      exact ih q (k + 1) _ (p + 1) (by omega) (by omega) (by omega)
    · have c' : ¬ decide (48 ≤ sg T s p ∧ sg T s p ≤ 57) = true := c
      rw [if_neg c', if_neg c, if_neg c]; rfl
theorem c_number {T : Nat → Nat} {s n m p : Nat} {h : Mm} (hn : 20000 ≤ n) (ct : CT T s h) (hm : m ≤ 4) (hp : p ≤ s) : X7_takeNumber n (zN m) (mk h p) = if dg T s (skp T s p) = true then some (oZ (nmF T s m 0 (skp T s p)).1, mk h (nmF T s m 0 (skp T s p)).2) else some (-1, mk h (skp T s p)) := by
  have b := skp_b (T := T) hp
  unfold X7_takeNumber
  rw [c_sign hn ct hp, bd_some, c_isDigit (sg_le ct _), bp_some]
  by_cases c : dg T s (skp T s p) = true
  · have c' : decide (48 ≤ sg T s (skp T s p) ∧ sg T s (skp T s p) ≤ 57) = true := c
    rw [if_pos c', if_pos c]
    exact c_num16 ct hm m n 0 0 (skp T s p) (by omega) (by omega) b.2
  · have c' : ¬ decide (48 ≤ sg T s (skp T s p) ∧ sg T s (skp T s p) ≤ 57) = true := c
    rw [if_neg c', if_neg c]
/-! signs among some -/
def ixN (v : Int32) : List Int32 → Nat → Int32
  | [], _ => -1
  | x :: l, j => if x = v then zN j else ixN v l (j + 1)
theorem sar0 (x : Int32) : x >>> ((0 : Int32) &&& 31) = x := by
  apply Int32.toBitVec_inj.mp
  have e : (x >>> ((0 : Int32) &&& 31)).toBitVec = x.toBitVec.sshiftRight 0 := rfl
  rw [e, BitVec.sshiftRight_zero]
theorem j_len {a0 : Nat} {h : Mm} {l : List Int32} (hl : stB a0 = l) : J0_length_8abf5 a0 h = some (zN l.length) := by
  unfold J0_length_8abf5 J0_coder_7d493
  rw [bp_some, Nat.add_sub_cancel, hl]
  exact congrArg some (sar0 _)
theorem j_ix7 {n a0 : Nat} {h : Mm} {l : List Int32} (v : Int32) (hl : stB (a0 - 20) = l) (h9 : l.length < 100) : ∀ (d q j : Nat), j + d = l.length → d < q → J1_indexOfChar_4cfef_7 n a0 q (zN l.length) v (zN j) h = some (ixN v (l.drop j) j) := by
  intro d
  induction d with
  | zero =>
    intro q j hj hq
    obtain ⟨q, rfl⟩ : ∃ m, q = m + 1 := ⟨q - 1, by omega⟩
    unfold J1_indexOfChar_4cfef_7
    rw [if_pos (show zN l.length ≤ zN j from (zN_le (by omega) (by omega)).mpr (by omega)), List.drop_of_length_le (by omega)]; rfl
  | succ d ih =>
    intro q j hj hq
    obtain ⟨q, rfl⟩ : ∃ m, q = m + 1 := ⟨q - 1, by omega⟩
    have hj' : j < l.length := by omega
    rw [J1_indexOfChar_4cfef_7, if_neg (show ¬ zN l.length ≤ zN j by rw [zN_le (by omega) (by omega)]; omega), hl, if_pos (show inB (zN j) l.length from (zN_inB (by omega)).mpr hj'), zN_ix (by omega), List.drop_eq_getElem_cons hj', sN1, ih q (j + 1) (by omega) (by omega)]
    have e : l.getD j 0 = l[j] := by simp [hj']
    rw [e, ixN]
    by_cases c : l[j] = v
    · rw [if_pos c, if_pos c]
    · rw [if_neg c, if_neg c]
theorem j_ix {n a0 ch : Nat} {h : Mm} {l : List Int32} (hn : 20000 ≤ n) (hl : stB a0 = l) (h9 : l.length < 100) (h1 : 0 < l.length) (hc : ch ≤ 255) : J0_indexOf_0f7a4 n a0 (zN ch) h = some (ixN (zN ch).toInt8.toInt32 l 0) := by
  unfold J0_indexOf_0f7a4 J0_indexOf_7cf53 J0_isLatin1_aae02 J1_indexOf_4cfef J1_canEncode_9a6ad J1_indexOfChar_4cfef
  rw [bp_some, if_pos rfl, j_len hl, bp_some, if_neg (show ¬ zN ch < 0 from zN_neg0 (by omega)), if_neg (show ¬ (255 : Int32) < zN ch by rw [zN_lit, zN_lt (by decide) (by omega)]; omega), bp_some, if_pos rfl, Nat.add_sub_cancel, hl, show (0 : Int32) = zN 0 from rfl, j_max, bp_some, if_neg (show ¬ zN 0 < zN 0 by decide), j_min, bp_some, show Int32.ofNat l.length = zN l.length from rfl, if_neg (show ¬ zN l.length < zN l.length by rw [zN_lt (by omega) (by omega)]; omega), if_pos (show zN 0 < zN l.length from (zN_lt (by decide) (by omega)).mpr h1), j_ix7 (a0 := a0 + 20) _ (by rw [Nat.add_sub_cancel]; exact hl) h9 l.length n 0 (by omega) (by omega)]
  rfl
theorem u16k : ∀ k, k < 256 → ((zN k).toUInt32 % 65536).toInt32 = zN k := by decide +kernel
theorem cc255 : ∀ k, k < 256 → (zN k &&& (255 : Int32)) = zN k := by decide +kernel
theorem j_char {a0 j : Nat} {h : Mm} {l : List Int32} (hl : stB a0 = l) (h9 : l.length < 100) (hj : j < l.length) (hk : ∃ k, k < 256 ∧ l[j] = zN k) : J0_charAt_5068e a0 (zN j) h = some l[j] := by
  obtain ⟨k, k1, k2⟩ := hk
  have e : l.getD j 0 = zN k := by rw [← k2]; simp [hj]
  unfold J0_charAt_5068e J0_isLatin1_aae02 J1_charAt_3b067 J0_checkIndex_df160
  rw [bp_some, if_pos rfl, Nat.add_sub_cancel, hl, if_neg (show ¬ zN j < 0 from zN_neg0 (by omega)), if_pos (show zN j < Int32.ofNat l.length from (zN_lt (by omega) (by omega)).mpr hj), bp_some, if_pos (show inB (zN j) l.length from (zN_inB (by omega)).mpr hj), zN_ix (by omega), e, cc255 k k1]
  have e2 : ((zN k).toUInt32 % 65536).toInt32 = zN k := u16k k k1
  rw [e2, nar_cc k k1, if_pos rfl, bp_some, nar_cc k k1, if_pos rfl, k2]
theorem m_among {n a0 : Nat} {g : Mm} {l : List Int32} (x1 : Int32) (hl : stB a0 = l) (h9 : l.length < 100) (hk : ∀ j (hj : j < l.length), ∃ k, k < 256 ∧ l[j] = zN k) : ∀ (d q j : Nat), j + d = l.length → d < q → X12_isAmong_2 n a0 q x1 (zN j) g = some (decide (ixN x1 (l.drop j) j ≠ -1)) := by
  intro d
  induction d with
  | zero =>
    intro q j hj hq
    obtain ⟨q, rfl⟩ : ∃ m, q = m + 1 := ⟨q - 1, by omega⟩
    unfold X12_isAmong_2
    rw [j_len hl, bp_some, if_pos (show zN l.length ≤ zN j from (zN_le (by omega) (by omega)).mpr (by omega)), List.drop_of_length_le (by omega)]; rfl
  | succ d ih =>
    intro q j hj hq
    obtain ⟨q, rfl⟩ : ∃ m, q = m + 1 := ⟨q - 1, by omega⟩
    have hj' : j < l.length := by omega
    rw [X12_isAmong_2, j_len hl, bp_some, if_neg (show ¬ zN l.length ≤ zN j by rw [zN_le (by omega) (by omega)]; omega), j_char hl h9 hj' (hk j hj'), bp_some, List.drop_eq_getElem_cons hj', sN1, ih q (j + 1) (by omega) (by omega), ixN]
    by_cases c : l[j] = x1
    · rw [if_pos c, if_pos c, decide_eq_true (zN_nm1 (by omega))]
    · rw [if_neg c, if_neg c]
theorem m_spot {n a0 : Nat} {g : Mm} {l : List Int32} (x1 : Int32) (hl : stB a0 = l) (h9 : l.length < 100) (hk : ∀ j (hj : j < l.length), ∃ k, k < 256 ∧ l[j] = zN k) : ∀ (d q j : Nat), j + d = l.length → d < q → X12_spotOf_2 n a0 q x1 (zN j) g = some (ixN x1 (l.drop j) j) := by
  intro d
  induction d with
  | zero =>
    intro q j hj hq
    obtain ⟨q, rfl⟩ : ∃ m, q = m + 1 := ⟨q - 1, by omega⟩
    unfold X12_spotOf_2
    rw [j_len hl, bp_some, if_pos (show zN l.length ≤ zN j from (zN_le (by omega) (by omega)).mpr (by omega)), List.drop_of_length_le (by omega)]; rfl
  | succ d ih =>
    intro q j hj hq
    obtain ⟨q, rfl⟩ : ∃ m, q = m + 1 := ⟨q - 1, by omega⟩
    have hj' : j < l.length := by omega
    rw [X12_spotOf_2, j_len hl, bp_some, if_neg (show ¬ zN l.length ≤ zN j by rw [zN_le (by omega) (by omega)]; omega), j_char hl h9 hj' (hk j hj'), bp_some, List.drop_eq_getElem_cons hj', sN1, ih q (j + 1) (by omega) (by omega), ixN]
    by_cases c : l[j] = x1
    · rw [if_pos c, if_pos c]
    · rw [if_neg c, if_neg c]
/-! the model's text -/
def zM (c : Nat) : Int32 := if c = 0 then -1 else zN c
def MT (T : Nat → Nat) (s t b0 : Nat) (g : Mm) : Prop := s ≤ 240 ∧ (t = 252 ∨ t = 253) ∧ b0 + s ≤ aln t ∧ (g.1 251 5 = zN (t + 1) ∧ g.1 251 8 = zN b0 ∧ g.1 251 9 = zN s) ∧ ∀ k, k < s → g.1 t (b0 + k) = (zN (T k)).toInt8.toInt32 ∧ 1 ≤ T k ∧ T k ≤ 255
def ms (g : Mm) (p : Nat) (fl : Int32) (dp : Int32) : Mm := wR g 251 (fun k => if k = 10 then zN p else if k = 11 then fl else if k = 12 then dp else g.1 251 k)
theorem ms_10 {g : Mm} {p : Nat} {fl : Int32} {dp : Int32} : (ms g p fl dp).1 251 10 = zN p := by unfold ms; rw [wr_eq, if_pos rfl]
theorem ms_11 {g : Mm} {p : Nat} {fl : Int32} {dp : Int32} : (ms g p fl dp).1 251 11 = fl := by unfold ms; rw [wr_eq, if_neg (by decide), if_pos rfl]
theorem ms_12 {g : Mm} {p : Nat} {fl : Int32} {dp : Int32} : (ms g p fl dp).1 251 12 = dp := by unfold ms; rw [wr_eq, if_neg (by decide), if_neg (by decide), if_pos rfl]
theorem ms_k {g : Mm} {p : Nat} {fl : Int32} {dp : Int32} {k : Nat} (h1 : k ≠ 10) (h2 : k ≠ 11) (h3 : k ≠ 12) : (ms g p fl dp).1 251 k = g.1 251 k := by unfold ms; rw [wr_eq, if_neg h1, if_neg h2, if_neg h3]
theorem ms_i {g : Mm} {p : Nat} {fl : Int32} {dp : Int32} {i : Nat} (hi : i ≠ 251) : (ms g p fl dp).1 i = g.1 i := by unfold ms; rw [wr_ne hi]
theorem ms_w10 {g : Mm} {p : Nat} {fl : Int32} {dp : Int32} {q : Nat} : wI (ms g p fl dp) 251 10 (zN q) = ms g q fl dp := by
  unfold ms; rw [wI_wR]; congr 1; funext k
  by_cases c : k = 10
  · subst c; rw [u_eq, if_pos rfl]
  · rw [u_ne c, if_neg c, if_neg c]
theorem ms_w11 {g : Mm} {p : Nat} {fl : Int32} {dp : Int32} {v : Int32} : wI (ms g p fl dp) 251 11 v = ms g p v dp := by
  unfold ms; rw [wI_wR]; congr 1; funext k
  by_cases c : k = 11
  · subst c; rw [u_eq, if_neg (by decide), if_pos rfl]
  · rw [u_ne c, if_neg c, if_neg c]
theorem ms_w12 {g : Mm} {p : Nat} {fl : Int32} {dp : Int32} {v : Int32} : wI (ms g p fl dp) 251 12 v = ms g p fl v := by
  unfold ms; rw [wI_wR]; congr 1; funext k
  by_cases c : k = 12
  · subst c; rw [u_eq, if_neg (by decide), if_neg (by decide), if_pos rfl]
  · rw [u_ne c, if_neg c, if_neg c]
theorem ms_inc {g : Mm} {p : Nat} {fl : Int32} {dp : Int32} : wI (ms g p fl dp) 251 10 ((ms g p fl dp).1 251 10 + 1) = ms g (p + 1) fl dp := by rw [ms_10, sN1, ms_w10]
theorem by32 : ∀ k, k < 256 → ((zN k).toInt8.toInt32 = 32 ↔ k = 32) := by decide +kernel
theorem by255 : ∀ k, k < 256 → (zN k).toInt8.toInt32 &&& (255 : Int32) = zN k := by decide +kernel
theorem by48 : ∀ k, k < 256 → ((zN k).toInt8.toInt32 < 48 ↔ (k < 48 ∨ 128 ≤ k)) := by decide +kernel
theorem by57 : ∀ k, k < 256 → (57 < (zN k).toInt8.toInt32 ↔ (57 < k ∧ k < 128)) := by decide +kernel
theorem by_d : ∀ k, k < 256 → 48 ≤ k → k ≤ 57 → (zN k).toInt8.toInt32 = zN k := by decide +kernel
theorem txt_t {t : Nat} (h : t = 252 ∨ t = 253) : txt (zN (t + 1)) = some t := by
  rcases h with rfl | rfl
  all_goals decide
theorem m_rd {T : Nat → Nat} {s t b0 n : Nat} {g : Mm} (mt : MT T s t b0 g) {p : Nat} {fl : Int32} {dp : Int32} (hp : p < s) : txt ((ms g p fl dp).1 251 5) = some t ∧ inB ((ms g p fl dp).1 251 8 + (ms g p fl dp).1 251 10) (aln t) ∧ (ms g p fl dp).1 t ((ms g p fl dp).1 251 8 + (ms g p fl dp).1 251 10).toNatClampNeg = (zN (T p)).toInt8.toInt32 := by
  obtain ⟨m1, m2, m3, ⟨m4, m5, m6⟩, m7⟩ := mt
  have al : aln t ≤ 960 := by
    rcases m2 with rfl | rfl
    · rw [al_252]; decide
    · rw [al_253]; decide
  rw [ms_k (by decide) (by decide) (by decide), m4, ms_k (by decide) (by decide) (by decide), m5, ms_10, zN_add, zN_ix (by omega), ms_i (by omega)]
  exact ⟨txt_t m2, (zN_inB (by omega)).mpr (by omega), (m7 p hp).1⟩
theorem m_look0 {T : Nat → Nat} {s t b0 n : Nat} {g : Mm} (mt : MT T s t b0 g) {fl : Int32} {dp : Int32} : ∀ (d q p : Nat), p + d = s → d < q → X12_look_0 n q (ms g p fl dp) = some (zM (sg T s (skF T d p)), ms g (skF T d p) fl dp) := by
  obtain ⟨m1, m2, m3, ⟨m4, m5, m6⟩, m7⟩ := id mt
  intro d
  induction d with
  | zero =>
    intro q p hp hq
    obtain ⟨q, rfl⟩ : ∃ m, q = m + 1 := ⟨q - 1, by omega⟩
    unfold X12_look_0 X12_look_43
    rw [ms_k (by decide) (by decide) (by decide), m6, ms_10, if_pos (show zN s ≤ zN p from (zN_le (by omega) (by omega)).mpr (by omega)), if_pos (show zN s ≤ zN p from (zN_le (by omega) (by omega)).mpr (by omega))]
    unfold skF sg zM
    rw [if_neg (show ¬ p < s by omega), if_pos rfl]
  | succ d ih =>
    intro q p hp hq
    obtain ⟨q, rfl⟩ : ∃ m, q = m + 1 := ⟨q - 1, by omega⟩
    obtain ⟨r1, r2, r3⟩ := m_rd (n := n) (T := T) (fl := fl) (dp := dp) mt (show p < s by omega)
    obtain ⟨e1, e2, e3⟩ := m7 p (by omega)
    rw [X12_look_0]
    unfold X12_look_43
    rw [r1, bp_some, if_pos r2, r3, bp_some, if_pos r2, r3, ms_k (by decide) (by decide) (by decide), m6, ms_inc, ms_10, if_neg (show ¬ zN s ≤ zN p by rw [zN_le (by omega) (by omega)]; omega), if_neg (show ¬ zN s ≤ zN p by rw [zN_le (by omega) (by omega)]; omega), by255 _ (by omega)]
    unfold skF
    by_cases c : T p = 32
    · rw [if_pos ((by32 _ (by omega)).mpr c), if_pos c]
      exact ih q (p + 1) (by omega) (by omega)
    · rw [if_neg (fun z => c ((by32 _ (by omega)).mp z)), if_neg c]
      unfold sg zM; rw [if_pos (show p < s by omega), if_neg (by omega)]
theorem m_look {T : Nat → Nat} {s t b0 n : Nat} {g : Mm} (mt : MT T s t b0 g) {p : Nat} {fl : Int32} {dp : Int32} (hn : 20000 ≤ n) (hp : p ≤ s) : X12_look n (ms g p fl dp) = some (zM (sg T s (skp T s p)), ms g (skp T s p) fl dp) := by
  have := mt.1
  exact m_look0 (n := n) mt (s - p) n p (by omega) (by omega)
theorem m_isDig {T : Nat → Nat} {s t b0 n : Nat} {g : Mm} (mt : MT T s t b0 g) {p : Nat} {fl : Int32} {dp : Int32} (hp : p ≤ s) : X12_isDigit (ms g p fl dp) = some (dg T s p) := by
  obtain ⟨m1, m2, m3, ⟨m4, m5, m6⟩, m7⟩ := id mt
  unfold X12_isDigit
  by_cases c : p < s
  · obtain ⟨r1, r2, r3⟩ := m_rd (n := n) (T := T) (fl := fl) (dp := dp) mt c
    obtain ⟨e1, e2, e3⟩ := m7 p c
    rw [r1, bp_some, bp_some, if_pos r2, if_pos r2, r3, ms_k (by decide) (by decide) (by decide), m6, ms_10, if_neg (show ¬ zN s ≤ zN p by rw [zN_le (by omega) (by omega)]; omega)]
    unfold dg sg
    rw [if_pos c]
    by_cases a : (zN (T p)).toInt8.toInt32 < 48
    · rw [if_pos a]
      rw [by48 _ (by omega)] at a
      rw [decide_eq_false (by omega)]
    · rw [if_neg a]
      rw [by48 _ (by omega)] at a
      by_cases b : 57 < (zN (T p)).toInt8.toInt32
      · rw [if_pos b]
        rw [by57 _ (by omega)] at b
        rw [decide_eq_false (by omega)]
      · rw [if_neg b]
        rw [by57 _ (by omega)] at b
        rw [decide_eq_true (by omega)]
  · rw [ms_k (by decide) (by decide) (by decide), m6, ms_10, if_pos (show zN s ≤ zN p from (zN_le (by omega) (by omega)).mpr (by omega))]
    unfold dg sg
    rw [if_neg c]; rfl
theorem m_fail {g : Mm} {p : Nat} {dp : Int32} : X12_fails (ms g p (-1) dp) = some (false, ms g p (zN p) dp) := by
  unfold X12_fails; rw [ms_11, if_pos rfl, ms_10, ms_w11]
theorem m_fail2 {g : Mm} {p q : Nat} {dp : Int32} (hq : q < 2147483648) : X12_fails (ms g p (zN q) dp) = some (false, ms g p (zN q) dp) := by
  unfold X12_fails; rw [ms_11, if_neg (zN_nm1 hq)]
theorem m_takes {T : Nat → Nat} {s t b0 n p ch : Nat} {dp : Int32} {g : Mm} (mt : MT T s t b0 g) (hn : 20000 ≤ n) (hp : p ≤ s) (c1 : 1 ≤ ch) (c2 : ch ≤ 255) : X12_takes n (zN ch) (ms g p (-1) dp) = if sg T s (skp T s p) = ch then some (true, ms g (skp T s p + 1) (-1) dp) else some (false, ms g (skp T s p) (zN (skp T s p)) dp) := by
  have sl : sg T s (skp T s p) ≤ 255 := by
    unfold sg
    by_cases c : skp T s p < s
    · rw [if_pos c]; exact (mt.2.2.2.2 _ c).2.2
    · rw [if_neg c]; omega
  unfold X12_takes X12_takes_16
  rw [ms_11, if_pos rfl, m_look mt hn hp, bd_some, ms_inc, m_fail, bd_some]
  by_cases c : sg T s (skp T s p) = ch
  · rw [if_pos (show zM (sg T s (skp T s p)) = zN ch by rw [c]; unfold zM; rw [if_neg (by omega)]), if_pos c]
  · rw [if_neg (show ¬ zM (sg T s (skp T s p)) = zN ch from fun z => by
      unfold zM at z
      by_cases d : sg T s (skp T s p) = 0
      · rw [if_pos d] at z; exact zN_nm1 (by omega) z.symm
      · rw [if_neg d, zN_eq (by omega) (by omega)] at z; exact c z), if_neg c]
theorem m_takes2 {n p q ch : Nat} {dp : Int32} {g : Mm} (hq : q < 2147483648) : X12_takes n (zN ch) (ms g p (zN q) dp) = some (false, ms g p (zN q) dp) := by
  unfold X12_takes X12_takes_16
  rw [ms_11, if_neg (zN_nm1 hq), m_fail2 hq, bd_some]
