/-! what is asked apart: only notes are changed -/
def sx251 (k : Nat) : Bool := sc251 k || (decide (40 ≤ k) && decide (k ≤ 46))
def SCx (h h' : Mm) : Prop := (∀ i, i ≠ 16 → i ≠ 23 → i ≠ 24 → i ≠ 246 → i ≠ 247 → i ≠ 248 → h'.1 i = h.1 i) ∧ (∀ k, k ≠ 7 → h'.1 16 k = h.1 16 k) ∧ ∀ i, i ≠ 25 → h'.2 i = h.2 i
def SMx (g g' : Mm) : Prop := (∀ i, i ≠ 251 → i ≠ 255 → i ≠ 265 → i ≠ 267 → i ≠ 269 → i ≠ 271 → g'.1 i = g.1 i) ∧ (∀ k, sx251 k = false → g'.1 251 k = g.1 251 k) ∧ ∀ i, i ≠ 266 → g'.2 i = g.2 i
theorem SCx.rf {h : Mm} : SCx h h := ⟨fun _ _ _ _ _ _ _ => rfl, fun _ _ => rfl, fun _ _ => rfl⟩
theorem SMx.rf {h : Mm} : SMx h h := ⟨fun _ _ _ _ _ _ _ => rfl, fun _ _ => rfl, fun _ _ => rfl⟩
theorem SCx.tr {a b c : Mm} (p : SCx a b) (q : SCx b c) : SCx a c := ⟨fun i h1 h2 h3 h4 h5 h6 => (q.1 i h1 h2 h3 h4 h5 h6).trans (p.1 i h1 h2 h3 h4 h5 h6), fun k hk => (q.2.1 k hk).trans (p.2.1 k hk), fun i hi => (q.2.2 i hi).trans (p.2.2 i hi)⟩
theorem SMx.tr {a b c : Mm} (p : SMx a b) (q : SMx b c) : SMx a c := ⟨fun i h1 h2 h3 h4 h5 h6 => (q.1 i h1 h2 h3 h4 h5 h6).trans (p.1 i h1 h2 h3 h4 h5 h6), fun k hk => (q.2.1 k hk).trans (p.2.1 k hk), fun i hi => (q.2.2 i hi).trans (p.2.2 i hi)⟩
theorem sx_sc {k : Nat} (h : sx251 k = false) : sc251 k = false := by
  unfold sx251 at h; simp only [Bool.or_eq_false_iff] at h; exact h.1
theorem QC.sx {h h' : Mm} (q : QC h h') : SCx h h' := ⟨fun i h1 h2 h3 _ _ _ => q.1 i h1 h2 h3, q.2.1, q.2.2⟩
theorem QM.sx {h h' : Mm} (q : QM h h') : SMx h h' := ⟨fun i h1 h2 _ h4 _ _ => q.1 i h1 h2 h4, fun k hk => q.2.1 k (sx_sc hk), q.2.2⟩
theorem QMr.sx {h h' : Mm} (q : QMr 265 h h') : SMx h h' := ⟨fun i h1 h2 h3 h4 _ _ => q.1 i h1 h2 h4 h3, fun k hk => q.2.1 k (sx_sc hk), q.2.2⟩
theorem SCx.w {h : Mm} {i k : Nat} {v : Int32} (hi : i = 246 ∨ i = 247 ∨ i = 248) : SCx h (wI h i k v) := ⟨fun j _ _ _ h1 h2 h3 => w_ne (by omega), fun k _ => by rw [w_ne (by omega)], fun _ _ => rfl⟩
theorem SMx.w {h : Mm} {i k : Nat} {v : Int32} (hi : i = 265 ∨ i = 269 ∨ i = 271) : SMx h (wI h i k v) := ⟨fun j _ _ h1 _ h2 h3 => w_ne (by omega), fun k _ => by rw [w_ne (by omega)], fun _ _ => rfl⟩
theorem SMx.f {h : Mm} {k : Nat} {v : Int32} (hk : sx251 k = true) : SMx h (wI h 251 k v) := ⟨fun j h0 _ _ _ _ _ => w_ne h0, fun j hj => by rw [w_eq, u_ne (fun z => by subst z; rw [hk] at hj; cases hj)], fun _ _ => rfl⟩
def KC (n nl : Nat) (hd : Int32) (f : Nat → F6) (h0 h : Mm) : Prop := LawC n nl hd f h ∧ SCx h0 h
def KG (n nl : Nat) (hd : Int32) (f : Nat → F6) (g0 g : Mm) : Prop := LawM n nl hd f g ∧ SMx g0 g
theorem KC.sx {n nl : Nat} {hd : Int32} {f : Nat → F6} {h0 h h' : Mm} (q : KC n nl hd f h0 h) (z : LawC n nl hd f h') (y : SCx h h') : KC n nl hd f h0 h' := ⟨z, q.2.tr y⟩
theorem KG.sx {n nl : Nat} {hd : Int32} {f : Nat → F6} {h0 h h' : Mm} (q : KG n nl hd f h0 h) (z : LawM n nl hd f h') (y : SMx h h') : KG n nl hd f h0 h' := ⟨z, q.2.tr y⟩
theorem LawC.w246 {n nl : Nat} {hd : Int32} {f : Nat → F6} {h : Mm} {i k : Nat} {v : Int32} (q : LawC n nl hd f h) (hi : 26 ≤ i) : LawC n nl hd f (wI h i k v) := q.cg (by rw [w_ne (by omega)]) (by rw [w_ne (by omega)]) (fun j _ _ => w_ne (by omega)) rfl
theorem KC.w {n nl : Nat} {hd : Int32} {f : Nat → F6} {h0 h : Mm} {i k : Nat} {v : Int32} (q : KC n nl hd f h0 h) (hi : i = 246 ∨ i = 247 ∨ i = 248) : KC n nl hd f h0 (wI h i k v) := q.sx (q.1.w246 (by omega)) (SCx.w hi)
theorem LawM.w265 {n nl : Nat} {hd : Int32} {f : Nat → F6} {h : Mm} {i k : Nat} {v : Int32} (q : LawM n nl hd f h) (hi : i = 265 ∨ i = 269 ∨ i = 271) : LawM n nl hd f (wI h i k v) := q.cg (by rw [w_ne (by omega)]) (by rw [w_ne (by omega)]) (w_ne (by omega)) (w_ne (by omega)) rfl (w_ne (by omega))
theorem KG.w {n nl : Nat} {hd : Int32} {f : Nat → F6} {h0 h : Mm} {i k : Nat} {v : Int32} (q : KG n nl hd f h0 h) (hi : i = 265 ∨ i = 269 ∨ i = 271) : KG n nl hd f h0 (wI h i k v) := q.sx (q.1.w265 hi) (SMx.w hi)
theorem KG.f {n nl : Nat} {hd : Int32} {f : Nat → F6} {h0 h : Mm} {k : Nat} {v : Int32} (q : KG n nl hd f h0 h) (hk : sx251 k = true) (h7 : k ≠ 7) (h34 : k ≠ 34) : KG n nl hd f h0 (wI h 251 k v) := q.sx (q.1.cg (by rw [w_eq, u_ne (by omega)]) (by rw [w_eq, u_ne (by omega)]) (w_ne (by omega)) (w_ne (by omega)) rfl (w_ne (by omega))) (SMx.f hk)
theorem KC.i {n nl : Nat} {hd : Int32} {f : Nat → F6} {h0 h : Mm} (k : KC n nl hd f h0 h) (i : Nat) (h1 : (i < 16 ∨ (24 < i ∧ i < 246)) ∨ 248 < i) : h.1 i = h0.1 i := k.2.1 i (by omega) (by omega) (by omega) (by omega) (by omega) (by omega)
theorem KG.i {n nl : Nat} {hd : Int32} {f : Nat → F6} {g0 g : Mm} (k : KG n nl hd f g0 g) (i : Nat) (h1 : (i = 264 ∨ (255 < i ∧ i < 265)) ∨ i = 270) : g.1 i = g0.1 i := k.2.1 i (by omega) (by omega) (by omega) (by omega) (by omega) (by omega)
/-- all that is fixed while something is asked -/
def CX (n B H : Nat) (nm : Nat → Nat) (nl : Nat) (hd : Int32) (f : Nat → F6) (be : Nat → Nat) (h0 g0 : Mm) : Prop := 20000 ≤ n ∧ LandR B H nm (h0.1 14) (h0.1 15) (g0.1 251) (g0.1 256) (g0.1 258) (g0.1 260) ∧ BedR H be (h0.1 28) (h0.1 29) (h0.1 30) (h0.1 31) (h0.1 27) (g0.1 264) ∧ LawC n nl hd f h0 ∧ LawM n nl hd f g0
theorem CX.c {n B H : Nat} {nm : Nat → Nat} {nl : Nat} {hd : Int32} {f : Nat → F6} {be : Nat → Nat} {h0 g0 : Mm} (x : CX n B H nm nl hd f be h0 g0) : KC n nl hd f h0 h0 := ⟨x.2.2.2.1, SCx.rf⟩
theorem CX.g {n B H : Nat} {nm : Nat → Nat} {nl : Nat} {hd : Int32} {f : Nat → F6} {be : Nat → Nat} {h0 g0 : Mm} (x : CX n B H nm nl hd f be h0 g0) : KG n nl hd f g0 g0 := ⟨x.2.2.2.2, SMx.rf⟩
theorem CX.mv {n B H : Nat} {nm : Nat → Nat} {nl : Nat} {hd : Int32} {f : Nat → F6} {be : Nat → Nat} {h0 g0 : Mm} {h g : Mm} (x : CX n B H nm nl hd f be h0 g0) (c : KC n nl hd f h0 h) (k : KG n nl hd f g0 g) : CX n B H nm nl hd f be h g := by
  obtain ⟨x1, x2, x3, -, -⟩ := x
  refine ⟨x1, x2.ag (c.i 14 (by omega)) (c.i 15 (by omega)) (k.2.2.1 26 rfl) (k.2.2.1 27 rfl) (k.i 256 (by omega)) (k.i 258 (by omega)) (k.i 260 (by omega)), ?_, c.1, k.1⟩
  rw [c.i 28 (by omega), c.i 29 (by omega), c.i 30 (by omega), c.i 31 (by omega), c.i 27 (by omega), k.i 264 (by omega)]; exact x3
theorem CX.lc {n B H : Nat} {nm : Nat → Nat} {nl : Nat} {hd : Int32} {f : Nat → F6} {be : Nat → Nat} {h0 g0 : Mm} {h : Mm} (x : CX n B H nm nl hd f be h0 g0) (c : KC n nl hd f h0 h) : LandR B H nm (h.1 14) (h.1 15) (g0.1 251) (g0.1 256) (g0.1 258) (g0.1 260) := (x.mv c x.g).2.1
theorem CX.lm {n B H : Nat} {nm : Nat → Nat} {nl : Nat} {hd : Int32} {f : Nat → F6} {be : Nat → Nat} {h0 g0 : Mm} {g : Mm} (x : CX n B H nm nl hd f be h0 g0) (c : KG n nl hd f g0 g) : LandR B H nm (h0.1 14) (h0.1 15) (g.1 251) (g.1 256) (g.1 258) (g.1 260) := (x.mv x.c c).2.1
theorem RW.ask {n B H : Nat} {nm : Nat → Nat} {A nx : Nat} {E : Nat → Nat} {nw sn s : Nat} {tp : Nat → Nat} {nl : Nat} {hd : Int32} {f : Nat → F6} {h0 g0 h g : Mm} (q : RW n B H nm A nx E nw sn s tp nl hd f h0 g0) (c : KC n nl hd f h0 h) (k : KG n nl hd f g0 g) : RW n B H nm A nx E nw sn s tp nl hd f h g := by
  refine q.now (fun i j z y => ?_) (fun i j z y x => ?_) ?_ c.1 k.1
  · by_cases c1 : i = 16
    · subst c1; exact c.2.2.1 j (fun e => by subst e; revert z; decide)
    · by_cases c2 : i = 23
      · subst c2; exact absurd (show false = true from z) (by decide)
      · by_cases c3 : i = 24
        · subst c3; exact absurd (show false = true from z) (by decide)
        · by_cases c4 : i = 246
          · subst c4; exact absurd (show false = true from z) (by decide)
          · by_cases c5 : i = 247
            · subst c5; exact absurd (show false = true from z) (by decide)
            · by_cases c6 : i = 248
              · subst c6; exact absurd (show false = true from z) (by decide)
              · rw [c.2.1 i c1 c2 c3 c4 c5 c6]
  · by_cases c1 : i = 251
    · subst c1
      refine k.2.2.1 j ?_
      have z' : kp251 j = true := by revert z; unfold kpM; simp
      have := kp_sc z'
      unfold kp251 at z'; unfold sx251
      simp only [Bool.or_eq_true, beq_iff_eq] at z'
      rw [this, Bool.false_or, Bool.and_eq_false_iff, decide_eq_false_iff_not, decide_eq_false_iff_not]; omega
    · by_cases c2 : i = 255
      · subst c2; exact absurd (show false = true from z) (by decide)
      · by_cases c3 : i = 265
        · subst c3; exact absurd (show false = true from z) (by decide)
        · by_cases c4 : i = 269
          · subst c4; exact absurd (show false = true from z) (by decide)
          · by_cases c5 : i = 271
            · subst c5; exact absurd (show false = true from z) (by decide)
            · rw [k.2.1 i c1 c2 c3 x c4 c5]
  · exact q.2.1.2.2.1.ag (fun i h1 h2 => c.i i (by omega)) (c.i 39 (by omega)) (k.i 264 (by omega))
/-- from R to what is fixed -/
theorem R.cx {n : Nat} {h g : Mm} (hn : 20000 ≤ n) (hR : R n h g) : ∃ B H nm nl hd f be, CX n B H nm nl hd f be h g ∧ ∀ h' g', KC n nl hd f h h' → KG n nl hd f g g' → R n h' g' := by
  obtain ⟨B, H, nm, A, nx, E, nw, sn, s, tp, nl, hd, f, q⟩ := hR
  have hQ : RW n B H nm A nx E nw sn s tp nl hd f h g := q
  obtain ⟨hL, ⟨-, -, ⟨be, hB, -, -, -⟩, -⟩, -, -, -, -, hC, hM, -⟩ := id hQ
  exact ⟨B, H, nm, nl, hd, f, be, ⟨hn, hL, hB, hC, hM⟩, fun h' g' c k => (hQ.ask c k).r⟩
def cNow (nm : Nat → Nat) (hd : Int32) (f : Nat → F6) (be : Nat → Nat) (b m : Nat) : Nat := pgs (wr6 hd f (nm (3 + (3 * b + 1))) (be (3 * be 23 + 1)) (be (18 + nm (3 + (3 * b + 2)))) (be 29) (be (3 * be 23))) (be 22) m
theorem m_copy2 {n : Nat} : ∀ (d q k : Nat) (g : Mm), k + d = 30 → d < q → ∃ g', X12_copy_2 n 264 265 q (zN k) g = some ((), g') ∧ (∀ i, i ≠ 265 → g'.1 i = g.1 i) ∧ g'.2 = g.2 ∧ (∀ j, k ≤ j → j < 30 → g'.1 265 j = g.1 264 j) ∧ (∀ j, j < k → g'.1 265 j = g.1 265 j) ∧ g'.1 265 30 = zN 0 := by
  intro d
  induction d with
  | zero =>
    intro q k g hk hq
    obtain ⟨q, rfl⟩ : ∃ m, q = m + 1 := ⟨q - 1, by omega⟩
    unfold X12_copy_2
    simp (disch := omega) only [zN_lit, zN_add, zN_mul, bp_some, bd_some, w_eq, w_2, wl_1, u_eq, wr_eq, wr_2, Nat.reduceAdd, Nat.reduceMul, Nat.reduceSub, al_265, zN_le, zN_inB, zN_ix, if_pos (show 30 ≤ k by omega), if_pos (show 30 < 211 by decide)]
    exact ⟨_, rfl, fun i hi => w_ne hi, rfl, fun j h1 h2 => by omega, fun j hj => by rw [w_eq, u_ne (by omega)], by rw [w_eq, u_eq]⟩
  | succ d ih =>
    intro q k g hk hq
    obtain ⟨q, rfl⟩ : ∃ m, q = m + 1 := ⟨q - 1, by omega⟩
    unfold X12_copy_2
    simp (disch := omega) only [zN_lit, zN_add, zN_mul, bp_some, bd_some, w_eq, w_2, wl_1, u_eq, wr_eq, wr_2, Nat.reduceAdd, Nat.reduceMul, Nat.reduceSub, al_264, al_265, zN_le, zN_inB, zN_ix, if_neg (show ¬ 30 ≤ k by omega), if_pos (show k < 211 by omega)]
    obtain ⟨g', r1, r2, r3, r4, r5, r6⟩ := ih q (k + 1) (wI g 265 k (g.1 264 k)) (by omega) (by omega)
    refine ⟨g', r1, fun i hi => by rw [r2 i hi, w_ne hi], by rw [r3]; rfl, fun j h1 h2 => ?_, fun j hj => by rw [r5 j (by omega), w_eq, u_ne (by omega)], r6⟩
    by_cases c : j = k
    · subst c; rw [r5 _ (by omega), w_eq, u_eq]
    · rw [r4 j (by omega) h2, w_ne (by decide)]
theorem m_trial {n B H : Nat} {nm : Nat → Nat} {nl : Nat} {hd : Int32} {f : Nat → F6} {be : Nat → Nat} {h0 g0 : Mm} (x : CX n B H nm nl hd f be h0 g0) {g : Mm} (k : KG n nl hd f g0 g) : ∃ g1, X12_copy n 264 265 g = some ((), g1) ∧ KG n nl hd f g0 g1 ∧ (∀ j, j < 30 → g1.1 265 j = g0.1 264 j) ∧ g1.1 265 30 = zN 0 := by
  obtain ⟨g1, r1, r2, r3, r4, -, r6⟩ := m_copy2 (n := n) 30 n 0 g (by omega) (by have := x.1; omega)
  refine ⟨g1, r1, k.sx (k.1.cg (by rw [r2 251 (by decide)]) (by rw [r2 251 (by decide)]) (r2 253 (by decide)) (r2 254 (by decide)) (by rw [r3]) (r2 267 (by decide))) ⟨fun i _ _ h3 _ _ _ => r2 i h3, fun j _ => by rw [r2 251 (by decide)], fun i _ => by rw [r3]⟩, fun j hj => by rw [r4 j (by omega) hj, k.i 264 (by omega)], r6⟩
theorem c_worthK {n B H : Nat} {nm : Nat → Nat} {nl : Nat} {hd : Int32} {f : Nat → F6} {be : Nat → Nat} {h0 g0 : Mm} (x : CX n B H nm nl hd f be h0 g0) {h : Mm} (k : KC n nl hd f h0 h) {c v b p nn t : Nat} (h1 : c ≤ 9) (h2 : v ≤ 9) (h3 : b ≤ 9) (h4 : p ≤ 9) (h5 : nn < 16384) (h6 : t < 64) : ∃ h', X4_worthOf n (zN c) (zN v) (zN b) (zN p) (zN nn) (zN t) h = some (wv hd f c v b p nn t, h') ∧ KC n nl hd f h0 h' ∧ QC h h' := by
  obtain ⟨h', e1, e2, e3⟩ := c_worth k.1 h1 h2 h3 h4 h5 h6
  exact ⟨h', e1, k.sx e2 e3.sx, e3⟩
theorem c_worthW {n B H : Nat} {nm : Nat → Nat} {nl : Nat} {hd : Int32} {f : Nat → F6} {be : Nat → Nat} {h0 g0 : Mm} (x : CX n B H nm nl hd f be h0 g0) {h : Mm} (k : KC n nl hd f h0 h) {y v b p nn t : Nat} (hy : y < B) (h2 : v ≤ 9) (h3 : b ≤ 9) (h4 : p ≤ 9) (h5 : nn < 16384) (h6 : t < 64) : ∃ h', X9_worthOf n (zN y) (zN p) (zN v) (zN b) (zN nn) (zN t) h = some (wv hd f (nm (3 + (3 * y + 1))) v b p nn t, h') ∧ KC n nl hd f h0 h' ∧ QC h h' := by
  obtain ⟨h', e1, e2, e3⟩ := c_worthK x k (x.2.1.2.2.2.2.2.2.1 y hy).2.2.1 h2 h3 h4 h5 h6
  refine ⟨h', ?_, e2, e3⟩
  unfold X9_worthOf
  rw [c_calming (x.lc k) hy, bp_some, e1, bd_some]
theorem m_pageK {n B H : Nat} {nm : Nat → Nat} {nl : Nat} {hd : Int32} {f : Nat → F6} {be : Nat → Nat} {h0 g0 : Mm} (x : CX n B H nm nl hd f be h0 g0) {g : Mm} (k : KG n nl hd f g0 g) {y v b p nn t : Nat} (hy : y < B) (h2 : v ≤ 9) (h3 : b ≤ 9) (h4 : p ≤ 9) (h5 : nn < 16384) (h6 : t < 64) : ∃ g', X12_page n (zN y) (zN v) (zN b) (zN p) (zN nn) (zN t) g = some (wv hd f (nm (3 + (3 * y + 1))) v b p nn t, g') ∧ KG n nl hd f g0 g' ∧ QM g g' := by
  obtain ⟨g', e1, e2, e3⟩ := m_page (x.lm k) k.1 hy h2 h3 h4 h5 h6
  exact ⟨g', e1, k.sx e2 e3.sx, e3⟩
theorem c_behK {n B H : Nat} {nm : Nat → Nat} {nl : Nat} {hd : Int32} {f : Nat → F6} {be : Nat → Nat} {h0 g0 : Mm} (x : CX n B H nm nl hd f be h0 g0) {h : Mm} (k : KC n nl hd f h0 h) {y v b nn t m c : Nat} (hy : y < B) (h2 : v ≤ 9) (h3 : b ≤ 9) (h5 : nn < 16384) (hm : m ≤ 9) (h6 : t + m ≤ 60) (hc : c ≤ 99) :
    ∃ h', X9_calmBehind n (zN c) (zN y) (zN m) (zN v) (zN b) (zN nn) (zN t) h = some (zN (pgs (wr6 hd f (nm (3 + (3 * y + 1))) v b nn t) c m), h') ∧ KC n nl hd f h0 h' ∧ QC h h' := by
  obtain ⟨h', e1, e2, e3⟩ := c_calmBehind x.1 (x.lc k) k.1 hy h2 h3 h5 hm h6 hc
  exact ⟨h', e1, k.sx e2 e3.sx, e3⟩
theorem m_readK {n B H : Nat} {nm : Nat → Nat} {nl : Nat} {hd : Int32} {f : Nat → F6} {be : Nat → Nat} {h0 g0 : Mm} (x : CX n B H nm nl hd f be h0 g0) {g : Mm} (k : KG n nl hd f g0 g) {y v b nn t m c fa : Nat} (hy : y < B) (hf : fa < 6) (h2 : v ≤ 9) (h3 : b ≤ 9) (h5 : nn < 16384) (hm : m ≤ 9) (h6 : t + m ≤ 60) (hc : c ≤ 99) (e23 : g.1 265 23 = zN fa) (e22 : g.1 265 22 = zN c) (ev : g.1 265 (3 * fa + 1) = zN v) (eb : g.1 265 (18 + nm (3 + (3 * y + 2))) = zN b) (e29 : g.1 265 29 = zN nn) (et : g.1 265 (3 * fa) = zN t) :
    ∃ g', X12_reads n 265 (zN y) (zN m) false g = some ((), g') ∧ KG n nl hd f g0 g' ∧ g'.1 265 22 = zN (pgs (wr6 hd f (nm (3 + (3 * y + 1))) v b nn t) c m) ∧ g'.1 265 (3 * fa) = zN (t + m) ∧ g'.1 265 (18 + nm (3 + (3 * y + 2))) = zN (min 9 (b + 1)) ∧ g'.1 265 24 = g.1 265 24 ||| ((1 : Int32) <<< (zN y &&& 31)) ∧ (∀ j, j ≠ 22 → j ≠ 3 * fa → j ≠ 18 + nm (3 + (3 * y + 2)) → j ≠ 24 → g'.1 265 j = g.1 265 j) ∧ QMr 265 g g' := by
  obtain ⟨g', e1, e2, e3, e4, e5, e6, e7, e8⟩ := m_reads (sk := false) (p := m) x.1 al_265 (Or.inr rfl) hy hf h2 h3 h5 hm h6 hc rfl (x.lm k) k.1 e23 e22 ev eb e29 et
  exact ⟨g', e1, k.sx e2 e3.sx, e4, e5, e6, e7, e8, e3⟩
theorem c_nowK {n B H : Nat} {nm : Nat → Nat} {nl : Nat} {hd : Int32} {f : Nat → F6} {be : Nat → Nat} {h0 g0 : Mm} (x : CX n B H nm nl hd f be h0 g0) {h : Mm} (k : KC n nl hd f h0 h) {y m : Nat} (hy : y < B) (hm : m ≤ 9) (h6 : be (3 * be 23) + m ≤ 60) : ∃ h', X9_calmNow n 27 (zN y) (zN m) h = some (zN (cNow nm hd f be y m), h') ∧ KC n nl hd f h0 h' := by
  obtain ⟨x1, x2, ⟨q1, q2, q3, q4, q5, q6, q7, q8⟩, x4, x5⟩ := id x
  have hH := x2.2.1.2.1
  have hf : be 23 < H := by have := x2.2.1.2.2; omega
  have kk := (x2.2.2.2.2.2.2.1 y hy).2.2.2
  obtain ⟨⟨t1, t2, t3⟩, -, v1, v2, v3⟩ := q1 _ hf
  obtain ⟨b1, b2, b3⟩ := q2 (nm (3 + (3 * y + 2))) (by omega)
  obtain ⟨h', e1, e2, -⟩ := c_behK x k (y := y) (v := be (3 * be 23 + 1)) (b := be (18 + nm (3 + (3 * y + 2)))) (nn := be 29) (t := be (3 * be 23)) (m := m) (c := be 22) hy v2 b3 (by omega) hm h6 q3.2.2
  refine ⟨h', ?_, e2⟩
  unfold X9_calmNow
  rw [c_kind (x.lc k) hy, bp_some, show 27 + 1 = 28 from rfl, show 27 + 3 = 30 from rfl, show 27 + 2 = 29 from rfl, at_28 (by omega), bp_some, k.i 27 (by omega), q4.1, at_30 (by omega), bp_some, at_29 (by omega), bp_some, k.i 28 (by omega), k.i 29 (by omega), k.i 30 (by omega), q3.1, q5.1, b1, t1, t2, e1, bd_some]
  rfl
theorem m_nowK {n B H : Nat} {nm : Nat → Nat} {nl : Nat} {hd : Int32} {f : Nat → F6} {be : Nat → Nat} {h0 g0 : Mm} (x : CX n B H nm nl hd f be h0 g0) {g : Mm} (k : KG n nl hd f g0 g) {y m : Nat} (hy : y < B) (hm : m ≤ 9) (h6 : be (3 * be 23) + m ≤ 60) : ∃ g1 g', X12_copy n 264 265 g = some ((), g1) ∧ X12_reads n 265 (zN y) (zN m) false g1 = some ((), g') ∧ g'.1 265 22 = zN (cNow nm hd f be y m) ∧ KG n nl hd f g0 g' := by
  obtain ⟨x1, x2, ⟨q1, q2, q3, q4, q5, q6, q7, q8⟩, x4, x5⟩ := id x
  have hH := x2.2.1.2.1
  have hf : be 23 < H := by have := x2.2.1.2.2; omega
  have kk := (x2.2.2.2.2.2.2.1 y hy).2.2.2
  obtain ⟨-, ⟨u1, u2, u3⟩, v1, v2, v3⟩ := q1 _ hf
  obtain ⟨b1, b2, b3⟩ := q2 (nm (3 + (3 * y + 2))) (by omega)
  obtain ⟨g1, e1, e2, e3, -⟩ := m_trial x k
  obtain ⟨g', s1, s2, s3, -⟩ := m_readK x e2 (y := y) (v := be (3 * be 23 + 1)) (b := be (18 + nm (3 + (3 * y + 2)))) (nn := be 29) (t := be (3 * be 23)) (m := m) (c := be 22) (fa := be 23) hy (by omega) v2 b3 (by omega) hm h6 q3.2.2 (by rw [e3 _ (by omega)]; exact q4.2.1) (by rw [e3 _ (by omega)]; exact q3.2.1) (by rw [e3 _ (by omega)]; exact u2) (by rw [e3 _ (by omega)]; exact b2) (by rw [e3 _ (by omega)]; exact q5.2.1) (by rw [e3 _ (by omega)]; exact u1)
  exact ⟨g1, g', e1, s1, s3, s2⟩
theorem cNow_le {H : Nat} {nm be : Nat → Nat} {hd : Int32} {f : Nat → F6} {hb ht hv hu hf w : Nat → Int32} (q : BedR H be hb ht hv hu hf w) (y m : Nat) : cNow nm hd f be y m ≤ 99 := pgs_le q.2.2.1.2.2 m
theorem c_hasPages_y {B H y p : Nat} {nm : Nat → Nat} {h g : Mm} (hL : LandR B H nm (h.1 14) (h.1 15) (g.1 251) (g.1 256) (g.1 258) (g.1 260)) (hy : y < B) (p1 : 1 ≤ p) (p2 : p ≤ nm (3 + 3 * y)) : X9_hasPages (zN y) (zN p) h = some true := by
  have pg := (hL.2.2.2.2.2.2.1 y hy)
  unfold X9_hasPages
  rw [c_hasBook_y hL hy, bp_some, if_pos rfl, c_pages hL hy, bp_some, if_neg (by rw [zN_lit, zN_lt (by omega) (by decide)]; omega), if_neg (by rw [zN_lt (by omega) (by omega)]; omega)]
theorem c_hasPages_n {B H : Nat} {nm : Nat → Nat} {h g : Mm} {x1 x2 : Int32} (hL : LandR B H nm (h.1 14) (h.1 15) (g.1 251) (g.1 256) (g.1 258) (g.1 260)) (no : ∀ y p, y < B → x1 = zN y → x2 = zN p → 1 ≤ p → p ≤ nm (3 + 3 * y) → False) : X9_hasPages x1 x2 h = some false := by
  unfold X9_hasPages
  rcases idx x1 B with ⟨y, hy, rfl⟩ | hx
  · have pg := (hL.2.2.2.2.2.2.1 y hy)
    rw [c_hasBook_y hL hy, bp_some, if_pos rfl, c_pages hL hy, bp_some]
    rcases i32_cases x2 with c | ⟨p, hp, rfl⟩
    · rw [if_pos (Int32.lt_trans c (by decide))]
    · simp only [zN_lit, zN_lt hp (show 1 < 2147483648 by decide), zN_lt (show nm (3 + 3 * y) < 2147483648 by omega) hp]
      by_cases z : p < 1
      · rw [if_pos z]
      · rw [if_neg z, if_pos]
        exact Nat.not_le.mp fun w => no y p hy rfl rfl (by omega) w
  · rw [c_hasBook_n hL hx, bp_some, if_neg (by decide)]
theorem sim_calms (n : Nat) (hn : 20000 ≤ n) : Sim_calms n (R n) := by
  intro x1 x2 h g hR
  have hR0 := hR.thr 0
  obtain ⟨B, H, nm, nl, hd, f, be, x, ex⟩ := R.cx hn hR0
  unfold X11_calms X12_calms X9_leftOf
  generalize wI g 251 0 (0 : Int32) = g0 at *
  obtain ⟨-, hL, hB, -, -⟩ := id x
  have hH := hL.2.1.2.1
  have hB' := hL.2.1.2.2
  obtain ⟨q1, q2, q3, q4, q5, q6, q7, q8⟩ := id hB
  have le5 : 0 < B → be 23 < H := fun z => by omega
  rcases can_read (a := 27) (r := 264) hL (by decide) al_29 al_264 hB x1 x2 false with ⟨y, p, hy, rfl, rfl, p1, p2, -, p4, m1, -⟩ | ⟨m1, -, -, no⟩
  · have hf := le5 (by omega)
    have pg := (hL.2.2.2.2.2.2.1 y hy)
    have st := (hL.2.2.2.2.2.2.2 _ hf).2.1
    have p4' : be (3 * be 23) + p ≤ nm (21 + (3 * be 23 + 1)) := p4
    obtain ⟨h1, c1, c2⟩ := c_nowK x x.c hy (m := p) (by omega) (by omega)
    obtain ⟨g1, g2, d1, d2, d3, d4⟩ := m_nowK x x.g hy (m := p) (by omega) (by omega)
    rw [m1, c_hasPages_y hL hy p1 p2, bp_some, bp_some, if_pos rfl, if_pos rfl, q4.1, c_strength hL hf, bp_some, show 27 + 2 = 29 from rfl, at_29 (by omega), bp_some, (q1 _ hf).1.1, bp_some, zN_subI, if_pos (by rw [zN_leI (by omega) (by omega) (by omega)]; omega), c1, bd_some, d1, bd_some, d2, bd_some, if_neg (by rw [hL.1.2.2.2, zN_lit, zN_eq (by omega) (by decide)]; omega), if_pos (by rw [al_265]; decide)]
    exact ⟨_, h1, g2, rfl, by rw [← d3]; rfl, ex _ _ c2 d4⟩
  · have e2 : ∃ g2, (if g0.1 251 27 = 0 then some ((-1 : Int32), g0) else bp (X12_canRead 264 x1 x2 false g0) (fun r9 => (if r9 = true then (bd (X12_copy n 264 265 g0) (fun _ h13 => (bd (X12_reads n 265 x1 x2 false h13) (fun _ h16 => (if inB (22 : Int32) (aln 265) then (some ((h16.1 265 (22 : Int32).toNatClampNeg), h16)) else none))))) else (some ((-1 : Int32), g0))))) = some (-1, g2) ∧ R n h g2 := by
      rw [m1]
      by_cases c : g0.1 251 27 = 0
      · rw [if_pos c]; exact ⟨_, rfl, hR0⟩
      · rw [if_neg c]; exact ⟨_, rfl, hR0⟩
    obtain ⟨g2, e2, r2⟩ := e2
    refine ⟨-1, h, g2, ?_, e2, r2⟩
    by_cases ok : ∃ y p, y < B ∧ x1 = zN y ∧ x2 = zN p ∧ 1 ≤ p ∧ p ≤ nm (3 + 3 * y)
    · obtain ⟨y, p, hy, rfl, rfl, p1, p2⟩ := ok
      have hf := le5 (by omega)
      have pg := (hL.2.2.2.2.2.2.1 y hy)
      have st := (hL.2.2.2.2.2.2.2 _ hf).2.1
      have tb := (q1 _ hf).2.2.1
      have nn := no y p hy rfl rfl p1 p2 (fun z => by cases z)
      have nn' : ¬ be (3 * be 23) + p ≤ nm (21 + (3 * be 23 + 1)) := nn
      rw [c_hasPages_y hL hy p1 p2, bp_some, if_pos rfl, q4.1, c_strength hL hf, bp_some, show 27 + 2 = 29 from rfl, at_29 (by omega), bp_some, (q1 _ hf).1.1, bp_some, zN_subI, if_neg (by rw [zN_leI (by omega) (by omega) (by omega)]; omega)]
    · rw [c_hasPages_n hL (fun y p h1 h2 h3 h4 h5 => ok ⟨y, p, h1, h2, h3, h4, h5⟩), bp_some, if_neg (by decide)]
