/-! the NIGHT of both -/
theorem oN (k : Nat) : Int32.ofNat k = zN k := by exact Eq.trans rfl rfl
theorem LandR.cc {B H : Nat} {nm : Nat → Nat} {h g h' : Mm} (q : LandR B H nm (h.1 14) (h.1 15) (g.1 251) (g.1 256) (g.1 258) (g.1 260)) (e1 : h'.1 14 = h.1 14) (e2 : h'.1 15 = h.1 15) : LandR B H nm (h'.1 14) (h'.1 15) (g.1 251) (g.1 256) (g.1 258) (g.1 260) := q.ag e1 e2 rfl rfl rfl rfl rfl
theorem LandR.mm {B H : Nat} {nm : Nat → Nat} {h g g' : Mm} (q : LandR B H nm (h.1 14) (h.1 15) (g.1 251) (g.1 256) (g.1 258) (g.1 260)) (e3 : g'.1 251 26 = g.1 251 26) (e4 : g'.1 251 27 = g.1 251 27) (e5 : g'.1 256 = g.1 256) (e6 : g'.1 258 = g.1 258) (e7 : g'.1 260 = g.1 260) : LandR B H nm (h.1 14) (h.1 15) (g'.1 251) (g'.1 256) (g'.1 258) (g'.1 260) := q.ag rfl rfl e3 e4 e5 e6 e7
theorem c_less {n a0 m d : Nat} (ha : aln a0 = m) (hm : m ≤ 6) : ∀ (q f k : Nat) (h : Mm), k + q = m → q < f → ∃ h', X11_lessen_2 n a0 f (zN d) (zN k) h = some ((), h') ∧ (∀ i, i ≠ a0 → h'.1 i = h.1 i) ∧ h'.2 = h.2 ∧ (∀ j, k ≤ j → j < m → h'.1 a0 j = lessI (h.1 a0 j) d) ∧ ∀ j, j < k → h'.1 a0 j = h.1 a0 j := by
  intro q
  induction q with
  | zero =>
    intro f k h hk hf
    obtain ⟨f, rfl⟩ : ∃ m, f = m + 1 := ⟨f - 1, by omega⟩
    unfold X11_lessen_2
    simp (disch := omega) only [ha, oN, zN_le, if_pos (show m ≤ k by omega)]
    exact ⟨h, rfl, fun _ _ => rfl, rfl, fun j h1 h2 => by omega, fun _ _ => rfl⟩
  | succ q ih =>
    intro f k h hk hf
    obtain ⟨f, rfl⟩ : ∃ m, f = m + 1 := ⟨f - 1, by omega⟩
    unfold X11_lessen_2
    simp (disch := omega) only [ha, oN, zN_lit, zN_add, zN_mul, bp_some, bd_some, w_eq, w_2, wl_1, u_eq, wr_eq, wr_2, Nat.reduceAdd, Nat.reduceMul, Nat.reduceSub, zN_le, zN_inB, zN_ix, j_max, if_neg (show ¬ m ≤ k by omega), if_pos (show k < m by omega)]
    obtain ⟨h', r1, r2, r3, r4, r5⟩ := ih f (k + 1) (wI h a0 k (lessI (h.1 a0 k) d)) (by omega) (by omega)
    refine ⟨h', r1, fun i hi => by rw [r2 i hi, w_ne hi], by rw [r3]; rfl, fun j h1 h2 => ?_, fun j h1 => by rw [r5 j (by omega), w_eq, u_ne (by omega)]⟩
    by_cases c : j = k
    · subst c; rw [r5 _ (by omega), w_eq, u_eq]
    · rw [r4 j (by omega) h2, w_eq, u_ne c]
theorem atN {a0 k m : Nat} {h : Mm} (e : aln a0 = m) (hm : m ≤ 400) (h0 : a0 < 1000) (hk : k < m) : X11_at a0 (zN k) h = some (h.1 a0 k) := by
  rw [c_atN (by omega) (by omega)]; unfold rdA; rw [if_pos h0]
theorem puN {a0 k m : Nat} {v : Int32} {h : Mm} (e : aln a0 = m) (hm : m ≤ 400) (hk : k < m) : X11_put a0 (zN k) v h = some ((), wI h a0 k v) := c_putN (by omega) (by omega)
def slN (nm : Nat → Nat) (c x : Nat) : Nat := if nm 1 ≤ c then nm (21 + 3 * x) else 0
set_option maxHeartbeats 4000000 in
theorem c_pass {n a B H x c : Nat} {nm : Nat → Nat} {h g : Mm} (hL : LandR B H nm (h.1 14) (h.1 15) (g.1 251) (g.1 256) (g.1 258) (g.1 260)) (hn : 20000 ≤ n) (ha : 27 ≤ a) (hb : a < 900) (a1 : aln (a + 1) = 4) (a2 : aln (a + 2) = 6) (a4 : aln (a + 4) = 6) (hx : x < H) (ex : h.1 a 5 = zN x) (ec : h.1 a 4 = zN c) (hc : c ≤ 99) :
    ∃ h', X9_pass n a h = some (zN (slN nm c x), h') ∧ (∀ i, (i < a ∨ a + 4 < i) → h'.1 i = h.1 i) ∧ h'.2 = h.2 ∧ (∀ j, j < 4 → h'.1 (a + 1) j = lessI (h.1 (a + 1) j) 1) ∧ (∀ j, j < 6 → h'.1 (a + 2) j = lessI (h.1 (a + 2) j) 6) ∧ h'.1 (a + 3) = h.1 (a + 3) ∧ h'.1 (a + 4) = upd (h.1 (a + 4)) x (h.1 (a + 4) x + zN 1) ∧
      (h'.1 a 4 = zN (ncalm nm c) ∧ h'.1 a 5 = zN ((x + 1) % H) ∧ h'.1 a 6 = h.1 a 6 + zN 1 ∧ h'.1 a 7 = h.1 a 7 + zN (slN nm c x) ∧ h'.1 a 8 = h.1 a 8 + (zN (nm (21 + 3 * x)) - zN (slN nm c x)) ∧ h'.1 a 9 = zN 0 ∧ h'.1 a 10 = h.1 a 10 ∧ h'.1 a 11 = zN 0 ∧ h'.1 a 12 = zN 0) := by
  have hH := hL.2.1.2.1
  have z1 := hL.2.2.2.2.2.1.2.1
  have key : X9_pass n a h = X9_pass_31 n a (zN (nm (21 + 3 * x))) (zN (slN nm c x)) h := by
    unfold X9_pass
    rw [ex, c_children hL hx, bp_some, c_enough hL, bp_some, ec]
    simp (disch := omega) only [zN_lt]
    unfold slN
    by_cases q : nm 1 ≤ c
    · rw [if_neg (by omega), if_pos q]
    · rw [if_pos (by omega), if_neg q]; rfl
  rw [key]
  generalize zN (slN nm c x) = sl
  generalize zN (nm (21 + 3 * x)) = ch
  unfold X9_pass_31
  generalize eW : wI (wI h a 7 (h.1 a 7 + sl)) a 8 ((wI h a 7 (h.1 a 7 + sl)).1 a 8 + (ch - sl)) = W
  have w1 : ∀ i, i ≠ a → W.1 i = h.1 i := fun i hi => by rw [← eW]; simp (disch := omega) only [w_ne]
  have w2 : W.2 = h.2 := by rw [← eW]; rfl
  have w4 : W.1 a 4 = zN c := by rw [← eW]; simp (disch := omega) only [w_eq, u_ne]; exact ec
  have w5 : W.1 a 5 = zN x := by rw [← eW]; simp (disch := omega) only [w_eq, u_ne]; exact ex
  have w6 : W.1 a 6 = h.1 a 6 := by rw [← eW]; simp (disch := omega) only [w_eq, u_ne]
  have w7 : W.1 a 7 = h.1 a 7 + sl := by rw [← eW]; simp (disch := omega) only [w_eq, u_ne, u_eq]
  have w8 : W.1 a 8 = h.1 a 8 + (ch - sl) := by rw [← eW]; simp (disch := omega) only [w_eq, u_ne, u_eq]
  have w10 : W.1 a 10 = h.1 a 10 := by rw [← eW]; simp (disch := omega) only [w_eq, u_ne]
  rw [w4, c_behind (hL.cc (w1 14 (by omega)) (w1 15 (by omega))) hc, bp_some]
  unfold X11_lessen
  obtain ⟨h2, r1, r2, r3, r4, -⟩ := c_less (n := n) (d := 6) a2 (by decide) 6 n 0 (wI W a 4 (zN (ncalm nm c))) rfl (by omega)
  rw [show (6 : Int32) = zN 6 from rfl, show (0 : Int32) = zN 0 from rfl, show (1 : Int32) = zN 1 from rfl, r1, bd_some]
  obtain ⟨h3, s1, s2, s3, s4, -⟩ := c_less (n := n) (d := 1) a1 (by decide) 4 n 0 h2 rfl (by omega)
  have h35 : h3.1 a 5 = zN x := by rw [s2 a (by omega), r2 a (by omega), w_eq, u_ne (by omega), w5]
  have h3i : ∀ i, i ≠ a → i ≠ a + 1 → i ≠ a + 2 → h3.1 i = h.1 i := fun i i1 i2 i3 => by rw [s2 i i2, r2 i i3, w_ne i1, w1 i i1]
  rw [s1, bd_some, h35, atN a4 (by decide) (by omega) (by omega), bp_some, puN a4 (by decide) (by omega), bd_some, c_houses, bp_some, w_ne (by omega : a ≠ a + 4), h35, w_ne (by omega : 14 ≠ a + 4), h3i 14 (by omega) (by omega) (by omega), hL.1.2.1, zN_add]
  have key2 : ∀ M, (if zN H ≤ zN (x + 1) then X9_pass_134 n a sl (zN 0) M else X9_pass_134 n a sl (zN (x + 1)) M) = X9_pass_134 n a sl (zN ((x + 1) % H)) M := fun M => by
    simp (disch := omega) only [zN_le]
    by_cases q : H ≤ x + 1
    · rw [if_pos q, show x + 1 = H by omega, Nat.mod_self]
    · rw [if_neg q, Nat.mod_eq_of_lt (by omega)]
  rw [key2]
  unfold X9_pass_134 X0_forgetEvening
  rw [bd_some]
  have g4 : h3.1 (a + 4) = h.1 (a + 4) := h3i _ (by omega) (by omega) (by omega)
  have gf : ∀ k, k ≠ 4 → h3.1 a k = W.1 a k := fun k hk => by rw [s2 a (by omega), r2 a (by omega), w_eq, u_ne hk]
  refine ⟨_, rfl, fun i hi => ?_, ?_, fun j hj => ?_, fun j hj => ?_, ?_, ?_, ?_, ?_, ?_, ?_, ?_, ?_, ?_, ?_, ?_⟩
  · simp (disch := omega) only [w_ne]; exact h3i i (by omega) (by omega) (by omega)
  · simp only [w_2]; rw [s3, r3, w_2, w2]
  · simp (disch := omega) only [w_ne]; rw [s4 j (by omega) hj, r2 _ (by omega), w_ne (by omega), w1 _ (by omega)]
  · simp (disch := omega) only [w_ne]; rw [s2 _ (by omega), r4 j (by omega) hj, w_ne (by omega), w1 _ (by omega)]
  · simp (disch := omega) only [w_ne]; exact h3i _ (by omega) (by omega) (by omega)
  · simp (disch := omega) only [w_ne, w_eq]; rw [g4]
  · simp (disch := omega) only [w_ne, w_eq, u_ne]; rw [s2 a (by omega), r2 a (by omega), w_eq, u_eq]
  · simp (disch := omega) only [w_ne, w_eq, u_ne, u_eq]
  · simp (disch := omega) only [w_ne, w_eq, u_ne, u_eq]; rw [gf 6 (by decide), w6]; rfl
  · simp (disch := omega) only [w_ne, w_eq, u_ne, u_eq]; rw [gf 7 (by decide), w7]
  · simp (disch := omega) only [w_ne, w_eq, u_ne, u_eq]; rw [gf 8 (by decide), w8]
  · simp (disch := omega) only [w_ne, w_eq, u_ne, u_eq]; rfl
  · simp (disch := omega) only [w_ne, w_eq, u_ne, u_eq]; rw [gf 10 (by decide), w10]
  · simp (disch := omega) only [w_ne, w_eq, u_ne, u_eq]; rfl
  · simp (disch := omega) only [w_ne, w_eq, u_ne, u_eq]; rfl
def RW (n B H : Nat) (nm : Nat → Nat) (A nx : Nat) (E : Nat → Nat) (nw sn s : Nat) (tp : Nat → Nat) (nl : Nat) (hd : Int32) (f : Nat → F6) (h g : Mm) : Prop :=
  LandR B H nm (h.1 14) (h.1 15) (g.1 251) (g.1 256) (g.1 258) (g.1 260) ∧ PastR H A nx E h g ∧ ImgR H h g ∧ WeekR nw (h.1 9) (h.1 11) (h.1 12) (g.1 251) (g.1 262) (g.1 263) ∧
  WatchR B H nm sn (h.1 249) (h.1 250) (g.1 251) (g.1 270) ∧ TapeR s tp (h.1 1) (h.1 2) (g.1 251) (g.1 252) ∧ LawC n nl hd f h ∧ LawM n nl hd f g ∧ h.1 0 12 = g.1 251 35
/-- R; where kk holds, the state was just kept -/
def RA (n : Nat) (kk : Prop) (h g : Mm) : Prop := ∃ (B H : Nat) (nm : Nat → Nat) (A nx : Nat) (E : Nat → Nat) (nw sn s : Nat) (tp : Nat → Nat) (nl : Nat) (hd : Int32) (f : Nat → F6), RW n B H nm A nx E nw sn s tp nl hd f h g ∧ (kk → 1 ≤ A ∧ E (A - 1) = E A)
theorem R.ra {n : Nat} {h g : Mm} (q : R n h g) : RA n False h g := by
  obtain ⟨B, H, nm, A, nx, E, nw, sn, s, tp, nl, hd, f, q⟩ := q
  exact ⟨B, H, nm, A, nx, E, nw, sn, s, tp, nl, hd, f, q, fun z => z.elim⟩
theorem RK.ra {n : Nat} {h g : Mm} (q : RK n h g) : RA n True h g := by
  obtain ⟨B, H, nm, A, nx, E, nw, sn, s, tp, nl, hd, f, hL, hP, hI, hW, hS, hT, hC, hM, hu, hk⟩ := q
  exact ⟨B, H, nm, A, nx, E, nw, sn, s, tp, nl, hd, f, ⟨hL, hP, hI, hW, hS, hT, hC, hM, hu⟩, fun _ => hk⟩
theorem RA.r {n : Nat} {kk : Prop} {h g : Mm} (q : RA n kk h g) : R n h g := by
  obtain ⟨B, H, nm, A, nx, E, nw, sn, s, tp, nl, hd, f, q, -⟩ := q
  exact ⟨B, H, nm, A, nx, E, nw, sn, s, tp, nl, hd, f, q⟩
def AgN (h h' : Mm) : Prop := ∀ i k, kpC i k = true → (i < 27 ∨ 31 < i) → h'.1 i k = h.1 i k
def AgT (g g' : Mm) : Prop := ∀ i k, kpM i k = true → i ≠ 264 → i ≠ 267 → g'.1 i k = g.1 i k
theorem AgN.rf {h : Mm} : AgN h h := fun _ _ _ _ => rfl
theorem AgT.rf {h : Mm} : AgT h h := fun _ _ _ _ _ => rfl
theorem AgN.tr {a b c : Mm} (p : AgN a b) (q : AgN b c) : AgN a c := fun i k z y => (q i k z y).trans (p i k z y)
theorem AgT.tr {a b c : Mm} (p : AgT a b) (q : AgT b c) : AgT a c := fun i k z y x => (q i k z y x).trans (p i k z y x)
theorem RW.now {n B H : Nat} {nm : Nat → Nat} {A nx : Nat} {E : Nat → Nat} {nw sn s : Nat} {tp : Nat → Nat} {nl : Nat} {hd : Int32} {f : Nat → F6} {h g h' g' : Mm} (q : RW n B H nm A nx E nw sn s tp nl hd f h g) (zc : AgN h h') (zm : AgT g g') (st : StateR H (E A) h' 27 (h'.1 39) (g'.1 264)) (hC : LawC n nl hd f h') (hM : LawM n nl hd f g') : RW n B H nm A nx E nw sn s tp nl hd f h' g' := by
  obtain ⟨hL, hP, hI, hW, hS, hT, -, -, hu⟩ := q
  have iC : ∀ i, (∀ k, kpC i k = true) → (i < 27 ∨ 31 < i) → h'.1 i = h.1 i := fun i z y => funext fun k => zc i k (z k) y
  have iM : ∀ i, (∀ k, kpM i k = true) → i ≠ 264 → i ≠ 267 → g'.1 i = g.1 i := fun i z y x => funext fun k => zm i k (z k) y x
  refine ⟨?_, ?_, ?_, ?_, ?_, ?_, hC, hM, ?_⟩
  · exact hL.ag (iC 14 (fun _ => rfl) (by omega)) (iC 15 (fun _ => rfl) (by omega)) (zm 251 26 rfl (by decide) (by decide)) (zm 251 27 rfl (by decide) (by decide)) (iM 256 (fun _ => rfl) (by decide) (by decide)) (iM 258 (fun _ => rfl) (by decide) (by decide)) (iM 260 (fun _ => rfl) (by decide) (by decide))
  · exact hP.now (fun i h1 h2 => iC i (fun k => kp_bed (by omega)) (by omega)) (iC 39 (fun k => kp_bed (by omega)) (by omega)) (zc 37 5 rfl (by omega)) (zc 37 6 rfl (by omega)) (zm 251 39 rfl (by decide) (by decide)) (iM 268 (fun _ => rfl) (by decide) (by decide)) st
  · exact hI.ag (fun i h1 h2 => iC i (fun k => kp_bed (by omega)) (by omega)) (zc 37 4 rfl (by omega)) (zm 251 50 rfl (by decide) (by decide)) (iM 272 (fun _ => rfl) (by decide) (by decide))
  · exact hW.ag (zc 9 5 rfl (by omega)) (iC 11 (fun _ => rfl) (by omega)) (iC 12 (fun _ => rfl) (by omega)) (zm 251 30 rfl (by decide) (by decide)) (iM 262 (fun _ => rfl) (by decide) (by decide)) (iM 263 (fun _ => rfl) (by decide) (by decide))
  · exact hS.ag (zc 249 4 rfl (by omega)) (iC 250 (fun _ => rfl) (by omega)) (zm 251 47 rfl (by decide) (by decide)) (iM 270 (fun _ => rfl) (by decide) (by decide))
  · exact hT.ag (zc 1 1 rfl (by omega)) (iC 2 (fun _ => rfl) (by omega)) (zm 251 6 rfl (by decide) (by decide)) (iM 252 (fun _ => rfl) (by decide) (by decide))
  · rw [zc 0 12 rfl (by omega), zm 251 35 rfl (by decide) (by decide)]; exact hu
def nbe (nm : Nat → Nat) (H : Nat) (be : Nat → Nat) (k : Nat) : Nat := if k < 18 then (if k % 3 = 0 then be k - 6 else if k = 3 * be 23 + 2 then be k + 1 else be k) else if k < 22 then be k - 1 else if k = 22 then ncalm nm (be 22) else if k = 23 then (be 23 + 1) % H else if k = 25 then 0 else if k = 26 then 0 else if k = 29 then be 29 + 1 else be k
theorem pass_bed {n a r B H L : Nat} {nm be : Nat → Nat} {h g : Mm} (hL : LandR B H nm (h.1 14) (h.1 15) (g.1 251) (g.1 256) (g.1 258) (g.1 260)) (hn : 20000 ≤ n) (ha : 27 ≤ a) (hb : a < 900) (a1 : aln (a + 1) = 4) (a2 : aln (a + 2) = 6) (a4 : aln (a + 4) = 6) (hr : aln r = 211) (hr2 : 261 ≤ r)
    (hB : BedR H be (h.1 (a + 1)) (h.1 (a + 2)) (h.1 (a + 3)) (h.1 (a + 4)) (h.1 a) (g.1 r)) (h0 : 0 < H) (h9 : be 29 < 9999) (eL : g.1 r 30 = zN L) (hl : L ≤ 60) :
    ∃ h' g', X9_pass n a h = some (zN (slN nm (be 22) (be 23)), h') ∧ X12_goNight n r g = some (zN (slN nm (be 22) (be 23)), g') ∧ BedR H (nbe nm H be) (h'.1 (a + 1)) (h'.1 (a + 2)) (h'.1 (a + 3)) (h'.1 (a + 4)) (h'.1 a) (g'.1 r) ∧ (∀ i, (i < a ∨ a + 4 < i) → h'.1 i = h.1 i) ∧ h'.2 = h.2 ∧ h'.1 a 10 = h.1 a 10 ∧ (∀ i, i ≠ r → g'.1 i = g.1 i) ∧ g'.2 = g.2 ∧
      (L < 60 → g'.1 r 30 = zN (L + 1) ∧ (g'.1 r (31 + 3 * L) = zN (be 23) ∧ g'.1 r (31 + 3 * L + 1) = zN (be 22) ∧ g'.1 r (31 + 3 * L + 2) = zN (slN nm (be 22) (be 23))) ∧ ∀ j, 31 ≤ j → j < 31 + 3 * L → g'.1 r j = g.1 r j) ∧
      (L = 60 → g'.1 r 30 = zN 60 ∧ (g'.1 r 208 = zN (be 23) ∧ g'.1 r 209 = zN (be 22) ∧ g'.1 r 210 = zN (slN nm (be 22) (be 23))) ∧ ∀ j, 31 ≤ j → j < 208 → g'.1 r j = g.1 r (j + 3)) := by
  have hH := hL.2.1.2.1
  obtain ⟨q1, q2, q3, q4, q5, q6, q7, q8⟩ := hB
  have hx : be 23 < H := by omega
  obtain ⟨h', c1, c2, c3, c4, c5, c6, c7, d4, d5, d6, d7, d8, d9, d10, d11, d12⟩ := c_pass hL hn ha hb a1 a2 a4 hx q4.1 q3.1 q3.2.2
  obtain ⟨g', sl, es, m1, m2, m3, m4, ⟨k22, k23, k24, k25, k26, k27, k28, k29⟩, m6, m7, m8⟩ := m_night hL hn hr hr2 hx q4.2.1 eL hl q3.2.1 q3.2.2
  have es' : sl = zN (slN nm (be 22) (be 23)) := es
  subst es'
  refine ⟨h', g', c1, m1, ⟨fun x hx => ?_, fun k hk => ?_, ?_, ?_, ?_, ?_, ?_, ?_⟩, c2, c3, d10, m2, m3, m7, m8⟩
  · obtain ⟨⟨t1, t2, t3⟩, ⟨u1, u2, u3⟩, v1, v2, v3⟩ := q1 x hx
    obtain ⟨p1, p2, p3⟩ := m6 x hx
    have e0 : nbe nm H be (3 * x) = be (3 * x) - 6 := by unfold nbe; rw [if_pos (by omega), if_pos (by omega)]
    have e1 : nbe nm H be (3 * x + 1) = be (3 * x + 1) := by unfold nbe; rw [if_pos (by omega), if_neg (by omega), if_neg (by omega)]
    have e9 : nbe nm H be 29 = be 29 + 1 := by exact Eq.trans rfl rfl
    rw [e0, e1, e9, c5 x (by omega), c6, c7, p1, p2, p3, t1, u1, lessI_N (by omega) (by decide), t2, u2, u3]
    by_cases c : x = be 23
    · have e2 : nbe nm H be (3 * x + 2) = be (3 * x + 2) + 1 := by unfold nbe; rw [if_pos (by omega), if_neg (by omega), if_pos (by omega)]
      rw [e2, if_pos c, c, u_eq, ← c, t3, zN_add]
      exact ⟨⟨rfl, rfl, rfl⟩, ⟨rfl, rfl, rfl⟩, by omega, v2, by omega⟩
    · have e2 : nbe nm H be (3 * x + 2) = be (3 * x + 2) := by unfold nbe; rw [if_pos (by omega), if_neg (by omega), if_neg (by omega)]
      rw [e2, if_neg c, u_ne c, t3]
      exact ⟨⟨rfl, rfl, rfl⟩, ⟨rfl, rfl, rfl⟩, by omega, v2, by omega⟩
  · obtain ⟨t1, t2, t3⟩ := q2 k hk
    have e0 : nbe nm H be (18 + k) = be (18 + k) - 1 := by unfold nbe; rw [if_neg (by omega), if_pos (by omega)]
    rw [e0, c4 k hk, m4 _ (by omega) (by omega), t1, t2, lessI_N (by omega) (by decide)]
    exact ⟨rfl, rfl, by omega⟩
  · exact ⟨d4, k22, ncalm_le q3.2.2⟩
  · exact ⟨d5, k23, Or.inl (Nat.mod_lt _ h0)⟩
  · have e9 : nbe nm H be 29 = be 29 + 1 := by exact Eq.trans rfl rfl
    rw [e9, d6, k29, q5.1, q5.2.1, zN_add]; exact ⟨rfl, rfl, by omega⟩
  · exact ⟨by rw [d7, k27, q6.1], by rw [d8, k28, q6.2.1], by rw [d9, k24]⟩
  · exact ⟨d11, k25, Nat.zero_le _⟩
  · exact ⟨d12, k26, Nat.zero_le _⟩
theorem LogR.old {E E' : Nat} {rows rows' w : Nat → Int32} (q : LogR E' rows w) (h1 : E' ≤ E) (h2 : E < E' + 40) (e : ∀ k, k < 300 → k / 3 ≠ E % 100 → rows' k = rows k) : LogR E' rows' w := by
  obtain ⟨q1, q2⟩ := q
  refine ⟨q1, fun i c hi hc => ?_⟩
  rw [q2 i c hi hc, e _ (by omega) (by omega)]
theorem LogR.step {E x c sl : Nat} {rows rows' w w' : Nat → Int32} (q : LogR E rows w) (e : ∀ k, k < 300 → k / 3 ≠ E % 100 → rows' k = rows k) (e0 : rows' (3 * (E % 100)) = zN x ∧ rows' (3 * (E % 100) + 1) = zN c ∧ rows' (3 * (E % 100) + 2) = zN sl)
    (m7 : min E 60 < 60 → w' 30 = zN (min E 60 + 1) ∧ (w' (31 + 3 * min E 60) = zN x ∧ w' (31 + 3 * min E 60 + 1) = zN c ∧ w' (31 + 3 * min E 60 + 2) = zN sl) ∧ ∀ j, 31 ≤ j → j < 31 + 3 * min E 60 → w' j = w j)
    (m8 : min E 60 = 60 → w' 30 = zN 60 ∧ (w' 208 = zN x ∧ w' 209 = zN c ∧ w' 210 = zN sl) ∧ ∀ j, 31 ≤ j → j < 208 → w' j = w (j + 3)) : LogR (E + 1) rows' w' := by
  obtain ⟨q1, q2⟩ := q
  by_cases d : E < 60
  · obtain ⟨a1, ⟨b0, b1, b2⟩, a3⟩ := m7 (by omega)
    have em : min E 60 = E := by omega
    rw [em] at a1 b0 b1 b2 a3
    refine ⟨by rw [a1]; congr 1; omega, fun i k hi hk => ?_⟩
    by_cases f : i = E
    · subst f
      have e1 : (i + 1 - min (i + 1) 60 + i) % 100 = i % 100 := by congr 1; omega
      rw [e1]
      obtain rfl | rfl | rfl : k = 0 ∨ k = 1 ∨ k = 2 := by omega
      · exact b0.trans e0.1.symm
      · exact b1.trans e0.2.1.symm
      · exact b2.trans e0.2.2.symm
    · have z := q2 i k (by omega) hk
      rw [a3 _ (by omega) (by omega), z, e _ (by omega) (by omega)]
      congr 3; omega
  · obtain ⟨a1, ⟨b0, b1, b2⟩, a3⟩ := m8 (by omega)
    refine ⟨by rw [a1]; congr 1; omega, fun i k hi hk => ?_⟩
    by_cases f : i = 59
    · subst f
      have e1 : (E + 1 - min (E + 1) 60 + 59) % 100 = E % 100 := by congr 1; omega
      rw [e1]
      obtain rfl | rfl | rfl : k = 0 ∨ k = 1 ∨ k = 2 := by omega
      · exact b0.trans e0.1.symm
      · exact b1.trans e0.2.1.symm
      · exact b2.trans e0.2.2.symm
    · have z := q2 (i + 1) k (by omega) hk
      rw [a3 _ (by omega) (by omega), show 31 + 3 * i + k + 3 = 31 + 3 * (i + 1) + k by omega, z, e _ (by omega) (by omega)]
      congr 3; omega
