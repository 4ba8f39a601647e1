/-! the NIGHT of both -/
theorem oN (k : Nat) : Int32.ofNat k = zN k := by exact Eq.trans rfl rfl
theorem LandR.cc {B H : Nat} {nm : Nat → Nat} {h g h' : Mm} (q : LandR B H nm (h.1 14) (h.1 15) (g.1 251) (g.1 256) (g.1 258) (g.1 260)) (e1 : h'.1 14 = h.1 14) (e2 : h'.1 15 = h.1 15) : LandR B H nm (h'.1 14) (h'.1 15) (g.1 251) (g.1 256) (g.1 258) (g.1 260) := q.ag e1 e2 rfl rfl rfl rfl rfl
theorem LandR.mm {B H : Nat} {nm : Nat → Nat} {h g g' : Mm} (q : LandR B H nm (h.1 14) (h.1 15) (g.1 251) (g.1 256) (g.1 258) (g.1 260)) (e3 : g'.1 251 26 = g.1 251 26) (e4 : g'.1 251 27 = g.1 251 27) (e5 : g'.1 256 = g.1 256) (e6 : g'.1 258 = g.1 258) (e7 : g'.1 260 = g.1 260) : LandR B H nm (h.1 14) (h.1 15) (g'.1 251) (g'.1 256) (g'.1 258) (g'.1 260) := q.ag rfl rfl e3 e4 e5 e6 e7
theorem c_less {n a0 m d : Nat} (ha : aln a0 = m) (hm : m ≤ 6) : ∀ (q f k : Nat) (h : Mm), k + q = m → q < f → ∃ h', X11_lessen_2 n a0 f (zN d) (zN k) h = some ((), h') ∧ (∀ i, i ≠ a0 → h'.1 i = h.1 i) ∧ h'.2 = h.2 ∧ (∀ j, k ≤ j → j < m → h'.1 a0 j = lessI (h.1 a0 j) d) ∧ ∀ j, j < k → h'.1 a0 j = h.1 a0 j := by
  intro q
  induction q with
  | zero =>
    intro f k h hk hf
    obtain ⟨f, rfl⟩ : ∃ m, f = m + 1 := ⟨f - 1, by omega⟩
    unfold X11_lessen_2
    simp (disch := omega) only [ha, oN, zN_le, if_pos (show m ≤ k by omega)]
    exact ⟨h, rfl, fun _ _ => rfl, rfl, fun j h1 h2 => by omega, fun _ _ => rfl⟩
  | succ q ih =>
    intro f k h hk hf
    obtain ⟨f, rfl⟩ : ∃ m, f = m + 1 := ⟨f - 1, by omega⟩
    unfold X11_lessen_2
    simp (disch := omega) only [ha, oN, zN_lit, zN_add, zN_mul, bp_some, bd_some, w_eq, w_2, wl_1, u_eq, wr_eq, wr_2, Nat.reduceAdd, Nat.reduceMul, Nat.reduceSub, zN_le, zN_inB, zN_ix, j_max, if_neg (show ¬ m ≤ k by omega), if_pos (show k < m by omega)]
    obtain ⟨h', r1, r2, r3, r4, r5⟩ := ih f (k + 1) (wI h a0 k (lessI (h.1 a0 k) d)) (by omega) (by omega)
    refine ⟨h', r1, fun i hi => by rw [r2 i hi, w_ne hi], by rw [r3]; rfl, fun j h1 h2 => ?_, fun j h1 => by rw [r5 j (by omega), w_eq, u_ne (by omega)]⟩
    by_cases c : j = k
    · subst c; rw [r5 _ (by omega), w_eq, u_eq]
    · rw [r4 j (by omega) h2, w_eq, u_ne c]
theorem atN {a0 k m : Nat} {h : Mm} (e : aln a0 = m) (hm : m ≤ 400) (h0 : a0 < 1000) (hk : k < m) : X11_at a0 (zN k) h = some (h.1 a0 k) := by
  rw [c_atN (by omega) (by omega)]; unfold rdA; rw [if_pos h0]
theorem puN {a0 k m : Nat} {v : Int32} {h : Mm} (e : aln a0 = m) (hm : m ≤ 400) (hk : k < m) : X11_put a0 (zN k) v h = some ((), wI h a0 k v) := c_putN (by omega) (by omega)
def slN (nm : Nat → Nat) (c x : Nat) : Nat := if nm 1 ≤ c then nm (21 + 3 * x) else 0
set_option maxHeartbeats 4000000 in
theorem c_pass {n a B H x c : Nat} {nm : Nat → Nat} {h g : Mm} (hL : LandR B H nm (h.1 14) (h.1 15) (g.1 251) (g.1 256) (g.1 258) (g.1 260)) (hn : 20000 ≤ n) (ha : 27 ≤ a) (hb : a < 900) (a1 : aln (a + 1) = 4) (a2 : aln (a + 2) = 6) (a4 : aln (a + 4) = 6) (hx : x < H) (ex : h.1 a 5 = zN x) (ec : h.1 a 4 = zN c) (hc : c ≤ 99) :
    ∃ h', X9_pass n a h = some (zN (slN nm c x), h') ∧ (∀ i, (i < a ∨ a + 4 < i) → h'.1 i = h.1 i) ∧ h'.2 = h.2 ∧ (∀ j, j < 4 → h'.1 (a + 1) j = lessI (h.1 (a + 1) j) 1) ∧ (∀ j, j < 6 → h'.1 (a + 2) j = lessI (h.1 (a + 2) j) 6) ∧ h'.1 (a + 3) = h.1 (a + 3) ∧ h'.1 (a + 4) = upd (h.1 (a + 4)) x (h.1 (a + 4) x + zN 1) ∧
      (h'.1 a 4 = zN (ncalm nm c) ∧ h'.1 a 5 = zN ((x + 1) % H) ∧ h'.1 a 6 = h.1 a 6 + zN 1 ∧ h'.1 a 7 = h.1 a 7 + zN (slN nm c x) ∧ h'.1 a 8 = h.1 a 8 + (zN (nm (21 + 3 * x)) - zN (slN nm c x)) ∧ h'.1 a 9 = zN 0 ∧ h'.1 a 10 = h.1 a 10 ∧ h'.1 a 11 = zN 0 ∧ h'.1 a 12 = zN 0) := by
  have hH := hL.2.1.2.1
  have z1 := hL.2.2.2.2.2.1.2.1
  have key : X9_pass n a h = X9_pass_31 n a (zN (nm (21 + 3 * x))) (zN (slN nm c x)) h := by
    unfold X9_pass
    rw [ex, c_children hL hx, bp_some, c_enough hL, bp_some, ec]
    simp (disch := omega) only [zN_lt]
    unfold slN
    by_cases q : nm 1 ≤ c
    · rw [if_neg (by omega), if_pos q]
    · rw [if_pos (by omega), if_neg q]; rfl
  rw [key]
  generalize zN (slN nm c x) = sl
  generalize zN (nm (21 + 3 * x)) = ch
  unfold X9_pass_31
  generalize eW : wI (wI h a 7 (h.1 a 7 + sl)) a 8 ((wI h a 7 (h.1 a 7 + sl)).1 a 8 + (ch - sl)) = W
  have w1 : ∀ i, i ≠ a → W.1 i = h.1 i := fun i hi => by rw [← eW]; simp (disch := omega) only [w_ne]
  have w2 : W.2 = h.2 := by rw [← eW]; rfl
  have w4 : W.1 a 4 = zN c := by rw [← eW]; simp (disch := omega) only [w_eq, u_ne]; exact ec
  have w5 : W.1 a 5 = zN x := by rw [← eW]; simp (disch := omega) only [w_eq, u_ne]; exact ex
  have w6 : W.1 a 6 = h.1 a 6 := by rw [← eW]; simp (disch := omega) only [w_eq, u_ne]
  have w7 : W.1 a 7 = h.1 a 7 + sl := by rw [← eW]; simp (disch := omega) only [w_eq, u_ne, u_eq]
  have w8 : W.1 a 8 = h.1 a 8 + (ch - sl) := by rw [← eW]; simp (disch := omega) only [w_eq, u_ne, u_eq]
  have w10 : W.1 a 10 = h.1 a 10 := by rw [← eW]; simp (disch := omega) only [w_eq, u_ne]
  rw [w4, c_behind (hL.cc (w1 14 (by omega)) (w1 15 (by omega))) hc, bp_some]
  unfold X11_lessen
  obtain ⟨h2, r1, r2, r3, r4, -⟩ := c_less (n := n) (d := 6) a2 (by decide) 6 n 0 (wI W a 4 (zN (ncalm nm c))) rfl (by omega)
  rw [show (6 : Int32) = zN 6 from rfl, show (0 : Int32) = zN 0 from rfl, show (1 : Int32) = zN 1 from rfl, r1, bd_some]
  obtain ⟨h3, s1, s2, s3, s4, -⟩ := c_less (n := n) (d := 1) a1 (by decide) 4 n 0 h2 rfl (by omega)
  have h35 : h3.1 a 5 = zN x := by rw [s2 a (by omega), r2 a (by omega), w_eq, u_ne (by omega), w5]
  have h3i : ∀ i, i ≠ a → i ≠ a + 1 → i ≠ a + 2 → h3.1 i = h.1 i := fun i i1 i2 i3 => by rw [s2 i i2, r2 i i3, w_ne i1, w1 i i1]
  rw [s1, bd_some, h35, atN a4 (by decide) (by omega) (by omega), bp_some, puN a4 (by decide) (by omega), bd_some, c_houses, bp_some, w_ne (by omega : a ≠ a + 4), h35, w_ne (by omega : 14 ≠ a + 4), h3i 14 (by omega) (by omega) (by omega), hL.1.2.1, zN_add]
  have key2 : ∀ M, (if zN H ≤ zN (x + 1) then X9_pass_134 n a sl (zN 0) M else X9_pass_134 n a sl (zN (x + 1)) M) = X9_pass_134 n a sl (zN ((x + 1) % H)) M := fun M => by
    simp (disch := omega) only [zN_le]
    by_cases q : H ≤ x + 1
    · rw [if_pos q, show x + 1 = H by omega, Nat.mod_self]
    · rw [if_neg q, Nat.mod_eq_of_lt (by omega)]
  rw [key2]
  unfold X9_pass_134 X0_forgetEvening
  rw [bd_some]
  have g4 : h3.1 (a + 4) = h.1 (a + 4) := h3i _ (by omega) (by omega) (by omega)
  have gf : ∀ k, k ≠ 4 → h3.1 a k = W.1 a k := fun k hk => by rw [s2 a (by omega), r2 a (by omega), w_eq, u_ne hk]
  refine ⟨_, rfl, fun i hi => ?_, ?_, fun j hj => ?_, fun j hj => ?_, ?_, ?_, ?_, ?_, ?_, ?_, ?_, ?_, ?_, ?_, ?_⟩
  · simp (disch := omega) only [w_ne]; exact h3i i (by omega) (by omega) (by omega)
  · simp only [w_2]; rw [s3, r3, w_2, w2]
  · simp (disch := omega) only [w_ne]; rw [s4 j (by omega) hj, r2 _ (by omega), w_ne (by omega), w1 _ (by omega)]
  · simp (disch := omega) only [w_ne]; rw [s2 _ (by omega), r4 j (by omega) hj, w_ne (by omega), w1 _ (by omega)]
  · simp (disch := omega) only [w_ne]; exact h3i _ (by omega) (by omega) (by omega)
  · simp (disch := omega) only [w_ne, w_eq]; rw [g4]
  · simp (disch := omega) only [w_ne, w_eq, u_ne]; rw [s2 a (by omega), r2 a (by omega), w_eq, u_eq]
  · simp (disch := omega) only [w_ne, w_eq, u_ne, u_eq]
  · simp (disch := omega) only [w_ne, w_eq, u_ne, u_eq]; rw [gf 6 (by decide), w6]; rfl
  · simp (disch := omega) only [w_ne, w_eq, u_ne, u_eq]; rw [gf 7 (by decide), w7]
  · simp (disch := omega) only [w_ne, w_eq, u_ne, u_eq]; rw [gf 8 (by decide), w8]
  · simp (disch := omega) only [w_ne, w_eq, u_ne, u_eq]; rfl
  · simp (disch := omega) only [w_ne, w_eq, u_ne, u_eq]; rw [gf 10 (by decide), w10]
  · simp (disch := omega) only [w_ne, w_eq, u_ne, u_eq]; rfl
  · simp (disch := omega) only [w_ne, w_eq, u_ne, u_eq]; rfl
