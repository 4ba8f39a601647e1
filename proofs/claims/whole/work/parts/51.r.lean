theorem al_2 : aln 2 = 240 := by decide +kernel
theorem al_5 : aln 5 = 3 := by decide +kernel
theorem al_6 : aln 6 = 39 := by decide +kernel
theorem al_8 : aln 8 = 240 := by decide +kernel
theorem al_10 : aln 10 = 16 := by decide +kernel
theorem al_11 : aln 11 = 64 := by decide +kernel
theorem al_12 : aln 12 = 4 := by decide +kernel
theorem al_14 : aln 14 = 3 := by decide +kernel
theorem al_15 : aln 15 = 39 := by decide +kernel
theorem al_18 : aln 18 = 240 := by decide +kernel
theorem al_19 : aln 19 = 240 := by decide +kernel
theorem al_20 : aln 20 = 240 := by decide +kernel
theorem al_21 : aln 21 = 240 := by decide +kernel
theorem al_22 : aln 22 = 4 := by decide +kernel
theorem al_23 : aln 23 = 6 := by decide +kernel
theorem al_24 : aln 24 = 64 := by decide +kernel
theorem al_25 : aln 25 = 2048 := by decide +kernel
theorem al_28 : aln 28 = 4 := by decide +kernel
theorem al_29 : aln 29 = 6 := by decide +kernel
theorem al_30 : aln 30 = 6 := by decide +kernel
theorem al_31 : aln 31 = 6 := by decide +kernel
theorem al_33 : aln 33 = 4 := by decide +kernel
theorem al_34 : aln 34 = 6 := by decide +kernel
theorem al_35 : aln 35 = 6 := by decide +kernel
theorem al_36 : aln 36 = 6 := by decide +kernel
theorem al_39 : aln 39 = 300 := by decide +kernel
theorem al_41 : aln 41 = 4 := by decide +kernel
theorem al_42 : aln 42 = 6 := by decide +kernel
theorem al_43 : aln 43 = 6 := by decide +kernel
theorem al_44 : aln 44 = 6 := by decide +kernel
theorem al_45 : aln 45 = 300 := by decide +kernel
theorem al_247 : aln 247 = 4 := by decide +kernel
theorem al_248 : aln 248 = 100 := by decide +kernel
theorem al_250 : aln 250 = 50 := by decide +kernel
theorem al_252 : aln 252 = 240 := by decide +kernel
theorem al_253 : aln 253 = 960 := by decide +kernel
theorem al_254 : aln 254 = 4 := by decide +kernel
theorem al_255 : aln 255 = 128 := by decide +kernel
theorem al_256 : aln 256 = 3 := by decide +kernel
theorem al_257 : aln 257 = 3 := by decide +kernel
theorem al_258 : aln 258 = 18 := by decide +kernel
theorem al_259 : aln 259 = 18 := by decide +kernel
theorem al_260 : aln 260 = 18 := by decide +kernel
theorem al_261 : aln 261 = 18 := by decide +kernel
theorem al_262 : aln 262 = 240 := by decide +kernel
theorem al_263 : aln 263 = 5 := by decide +kernel
theorem al_264 : aln 264 = 211 := by decide +kernel
theorem al_265 : aln 265 = 211 := by decide +kernel
theorem al_266 : aln 266 = 8191 := by decide +kernel
theorem al_267 : aln 267 = 8191 := by decide +kernel
theorem al_268 : aln 268 = 8440 := by decide +kernel
theorem al_269 : aln 269 = 217 := by decide +kernel
theorem al_270 : aln 270 = 50 := by decide +kernel
theorem al_271 : aln 271 = 200 := by decide +kernel
theorem al_272 : aln 272 = 211 := by decide +kernel
theorem al_273 : aln 273 = 1 := by decide +kernel
theorem al_1001 : aln 1001 = 3 := by decide +kernel
theorem al_1002 : aln 1002 = 3 := by decide +kernel
theorem al_1003 : aln 1003 = 9 := by decide +kernel
theorem al_1004 : aln 1004 = 9 := by decide +kernel
theorem al_1005 : aln 1005 = 9 := by decide +kernel
theorem al_1006 : aln 1006 = 5 := by decide +kernel
theorem al_1007 : aln 1007 = 5 := by decide +kernel
theorem at_5 {x : Nat} {h : Mm} (q : x < 3) : X11_at 5 (zN x) h = some (h.1 5 x) := by rw [c_atN (by rw [al_5]; exact q) (by rw [al_5]; decide)]; rfl
theorem at_6 {x : Nat} {h : Mm} (q : x < 39) : X11_at 6 (zN x) h = some (h.1 6 x) := by rw [c_atN (by rw [al_6]; exact q) (by rw [al_6]; decide)]; rfl
theorem at_8 {x : Nat} {h : Mm} (q : x < 240) : X11_at 8 (zN x) h = some (h.1 8 x) := by rw [c_atN (by rw [al_8]; exact q) (by rw [al_8]; decide)]; rfl
theorem at_10 {x : Nat} {h : Mm} (q : x < 16) : X11_at 10 (zN x) h = some (h.1 10 x) := by rw [c_atN (by rw [al_10]; exact q) (by rw [al_10]; decide)]; rfl
theorem at_11 {x : Nat} {h : Mm} (q : x < 64) : X11_at 11 (zN x) h = some (h.1 11 x) := by rw [c_atN (by rw [al_11]; exact q) (by rw [al_11]; decide)]; rfl
theorem at_12 {x : Nat} {h : Mm} (q : x < 4) : X11_at 12 (zN x) h = some (h.1 12 x) := by rw [c_atN (by rw [al_12]; exact q) (by rw [al_12]; decide)]; rfl
theorem at_14 {x : Nat} {h : Mm} (q : x < 3) : X11_at 14 (zN x) h = some (h.1 14 x) := by rw [c_atN (by rw [al_14]; exact q) (by rw [al_14]; decide)]; rfl
theorem at_15 {x : Nat} {h : Mm} (q : x < 39) : X11_at 15 (zN x) h = some (h.1 15 x) := by rw [c_atN (by rw [al_15]; exact q) (by rw [al_15]; decide)]; rfl
theorem at_18 {x : Nat} {h : Mm} (q : x < 240) : X11_at 18 (zN x) h = some (h.1 18 x) := by rw [c_atN (by rw [al_18]; exact q) (by rw [al_18]; decide)]; rfl
theorem at_19 {x : Nat} {h : Mm} (q : x < 240) : X11_at 19 (zN x) h = some (h.1 19 x) := by rw [c_atN (by rw [al_19]; exact q) (by rw [al_19]; decide)]; rfl
theorem at_20 {x : Nat} {h : Mm} (q : x < 240) : X11_at 20 (zN x) h = some (h.1 20 x) := by rw [c_atN (by rw [al_20]; exact q) (by rw [al_20]; decide)]; rfl
theorem at_21 {x : Nat} {h : Mm} (q : x < 240) : X11_at 21 (zN x) h = some (h.1 21 x) := by rw [c_atN (by rw [al_21]; exact q) (by rw [al_21]; decide)]; rfl
theorem at_22 {x : Nat} {h : Mm} (q : x < 4) : X11_at 22 (zN x) h = some (h.1 22 x) := by rw [c_atN (by rw [al_22]; exact q) (by rw [al_22]; decide)]; rfl
theorem at_23 {x : Nat} {h : Mm} (q : x < 6) : X11_at 23 (zN x) h = some (h.1 23 x) := by rw [c_atN (by rw [al_23]; exact q) (by rw [al_23]; decide)]; rfl
theorem at_24 {x : Nat} {h : Mm} (q : x < 64) : X11_at 24 (zN x) h = some (h.1 24 x) := by rw [c_atN (by rw [al_24]; exact q) (by rw [al_24]; decide)]; rfl
theorem at_28 {x : Nat} {h : Mm} (q : x < 4) : X11_at 28 (zN x) h = some (h.1 28 x) := by rw [c_atN (by rw [al_28]; exact q) (by rw [al_28]; decide)]; rfl
theorem at_29 {x : Nat} {h : Mm} (q : x < 6) : X11_at 29 (zN x) h = some (h.1 29 x) := by rw [c_atN (by rw [al_29]; exact q) (by rw [al_29]; decide)]; rfl
theorem at_30 {x : Nat} {h : Mm} (q : x < 6) : X11_at 30 (zN x) h = some (h.1 30 x) := by rw [c_atN (by rw [al_30]; exact q) (by rw [al_30]; decide)]; rfl
theorem at_31 {x : Nat} {h : Mm} (q : x < 6) : X11_at 31 (zN x) h = some (h.1 31 x) := by rw [c_atN (by rw [al_31]; exact q) (by rw [al_31]; decide)]; rfl
theorem at_33 {x : Nat} {h : Mm} (q : x < 4) : X11_at 33 (zN x) h = some (h.1 33 x) := by rw [c_atN (by rw [al_33]; exact q) (by rw [al_33]; decide)]; rfl
theorem at_34 {x : Nat} {h : Mm} (q : x < 6) : X11_at 34 (zN x) h = some (h.1 34 x) := by rw [c_atN (by rw [al_34]; exact q) (by rw [al_34]; decide)]; rfl
theorem at_35 {x : Nat} {h : Mm} (q : x < 6) : X11_at 35 (zN x) h = some (h.1 35 x) := by rw [c_atN (by rw [al_35]; exact q) (by rw [al_35]; decide)]; rfl
theorem at_36 {x : Nat} {h : Mm} (q : x < 6) : X11_at 36 (zN x) h = some (h.1 36 x) := by rw [c_atN (by rw [al_36]; exact q) (by rw [al_36]; decide)]; rfl
theorem at_39 {x : Nat} {h : Mm} (q : x < 300) : X11_at 39 (zN x) h = some (h.1 39 x) := by rw [c_atN (by rw [al_39]; exact q) (by rw [al_39]; decide)]; rfl
theorem at_41 {x : Nat} {h : Mm} (q : x < 4) : X11_at 41 (zN x) h = some (h.1 41 x) := by rw [c_atN (by rw [al_41]; exact q) (by rw [al_41]; decide)]; rfl
theorem at_42 {x : Nat} {h : Mm} (q : x < 6) : X11_at 42 (zN x) h = some (h.1 42 x) := by rw [c_atN (by rw [al_42]; exact q) (by rw [al_42]; decide)]; rfl
theorem at_43 {x : Nat} {h : Mm} (q : x < 6) : X11_at 43 (zN x) h = some (h.1 43 x) := by rw [c_atN (by rw [al_43]; exact q) (by rw [al_43]; decide)]; rfl
theorem at_44 {x : Nat} {h : Mm} (q : x < 6) : X11_at 44 (zN x) h = some (h.1 44 x) := by rw [c_atN (by rw [al_44]; exact q) (by rw [al_44]; decide)]; rfl
theorem at_45 {x : Nat} {h : Mm} (q : x < 300) : X11_at 45 (zN x) h = some (h.1 45 x) := by rw [c_atN (by rw [al_45]; exact q) (by rw [al_45]; decide)]; rfl
theorem at_247 {x : Nat} {h : Mm} (q : x < 4) : X11_at 247 (zN x) h = some (h.1 247 x) := by rw [c_atN (by rw [al_247]; exact q) (by rw [al_247]; decide)]; rfl
theorem at_248 {x : Nat} {h : Mm} (q : x < 100) : X11_at 248 (zN x) h = some (h.1 248 x) := by rw [c_atN (by rw [al_248]; exact q) (by rw [al_248]; decide)]; rfl
theorem at_250 {x : Nat} {h : Mm} (q : x < 50) : X11_at 250 (zN x) h = some (h.1 250 x) := by rw [c_atN (by rw [al_250]; exact q) (by rw [al_250]; decide)]; rfl
theorem at_1001 {x : Nat} {h : Mm} (q : x < 3) : X11_at 1001 (zN x) h = some (EX 1001 x) := by rw [c_atN (by rw [al_1001]; exact q) (by rw [al_1001]; decide)]; rfl
theorem at_1002 {x : Nat} {h : Mm} (q : x < 3) : X11_at 1002 (zN x) h = some (EX 1002 x) := by rw [c_atN (by rw [al_1002]; exact q) (by rw [al_1002]; decide)]; rfl
theorem at_1003 {x : Nat} {h : Mm} (q : x < 9) : X11_at 1003 (zN x) h = some (EX 1003 x) := by rw [c_atN (by rw [al_1003]; exact q) (by rw [al_1003]; decide)]; rfl
theorem at_1004 {x : Nat} {h : Mm} (q : x < 9) : X11_at 1004 (zN x) h = some (EX 1004 x) := by rw [c_atN (by rw [al_1004]; exact q) (by rw [al_1004]; decide)]; rfl
theorem at_1005 {x : Nat} {h : Mm} (q : x < 9) : X11_at 1005 (zN x) h = some (EX 1005 x) := by rw [c_atN (by rw [al_1005]; exact q) (by rw [al_1005]; decide)]; rfl
theorem at_1006 {x : Nat} {h : Mm} (q : x < 5) : X11_at 1006 (zN x) h = some (EX 1006 x) := by rw [c_atN (by rw [al_1006]; exact q) (by rw [al_1006]; decide)]; rfl
theorem at_1007 {x : Nat} {h : Mm} (q : x < 5) : X11_at 1007 (zN x) h = some (EX 1007 x) := by rw [c_atN (by rw [al_1007]; exact q) (by rw [al_1007]; decide)]; rfl
theorem pu_5 {x : Nat} {v : Int32} {h : Mm} (q : x < 3) : X11_put 5 (zN x) v h = some ((), wI h 5 x v) := c_putN (by rw [al_5]; exact q) (by rw [al_5]; decide)
theorem pu_6 {x : Nat} {v : Int32} {h : Mm} (q : x < 39) : X11_put 6 (zN x) v h = some ((), wI h 6 x v) := c_putN (by rw [al_6]; exact q) (by rw [al_6]; decide)
theorem pu_8 {x : Nat} {v : Int32} {h : Mm} (q : x < 240) : X11_put 8 (zN x) v h = some ((), wI h 8 x v) := c_putN (by rw [al_8]; exact q) (by rw [al_8]; decide)
theorem pu_10 {x : Nat} {v : Int32} {h : Mm} (q : x < 16) : X11_put 10 (zN x) v h = some ((), wI h 10 x v) := c_putN (by rw [al_10]; exact q) (by rw [al_10]; decide)
theorem pu_11 {x : Nat} {v : Int32} {h : Mm} (q : x < 64) : X11_put 11 (zN x) v h = some ((), wI h 11 x v) := c_putN (by rw [al_11]; exact q) (by rw [al_11]; decide)
theorem pu_12 {x : Nat} {v : Int32} {h : Mm} (q : x < 4) : X11_put 12 (zN x) v h = some ((), wI h 12 x v) := c_putN (by rw [al_12]; exact q) (by rw [al_12]; decide)
theorem pu_14 {x : Nat} {v : Int32} {h : Mm} (q : x < 3) : X11_put 14 (zN x) v h = some ((), wI h 14 x v) := c_putN (by rw [al_14]; exact q) (by rw [al_14]; decide)
theorem pu_15 {x : Nat} {v : Int32} {h : Mm} (q : x < 39) : X11_put 15 (zN x) v h = some ((), wI h 15 x v) := c_putN (by rw [al_15]; exact q) (by rw [al_15]; decide)
theorem pu_18 {x : Nat} {v : Int32} {h : Mm} (q : x < 240) : X11_put 18 (zN x) v h = some ((), wI h 18 x v) := c_putN (by rw [al_18]; exact q) (by rw [al_18]; decide)
theorem pu_19 {x : Nat} {v : Int32} {h : Mm} (q : x < 240) : X11_put 19 (zN x) v h = some ((), wI h 19 x v) := c_putN (by rw [al_19]; exact q) (by rw [al_19]; decide)
theorem pu_20 {x : Nat} {v : Int32} {h : Mm} (q : x < 240) : X11_put 20 (zN x) v h = some ((), wI h 20 x v) := c_putN (by rw [al_20]; exact q) (by rw [al_20]; decide)
theorem pu_21 {x : Nat} {v : Int32} {h : Mm} (q : x < 240) : X11_put 21 (zN x) v h = some ((), wI h 21 x v) := c_putN (by rw [al_21]; exact q) (by rw [al_21]; decide)
theorem pu_22 {x : Nat} {v : Int32} {h : Mm} (q : x < 4) : X11_put 22 (zN x) v h = some ((), wI h 22 x v) := c_putN (by rw [al_22]; exact q) (by rw [al_22]; decide)
theorem pu_23 {x : Nat} {v : Int32} {h : Mm} (q : x < 6) : X11_put 23 (zN x) v h = some ((), wI h 23 x v) := c_putN (by rw [al_23]; exact q) (by rw [al_23]; decide)
theorem pu_24 {x : Nat} {v : Int32} {h : Mm} (q : x < 64) : X11_put 24 (zN x) v h = some ((), wI h 24 x v) := c_putN (by rw [al_24]; exact q) (by rw [al_24]; decide)
theorem pu_28 {x : Nat} {v : Int32} {h : Mm} (q : x < 4) : X11_put 28 (zN x) v h = some ((), wI h 28 x v) := c_putN (by rw [al_28]; exact q) (by rw [al_28]; decide)
theorem pu_29 {x : Nat} {v : Int32} {h : Mm} (q : x < 6) : X11_put 29 (zN x) v h = some ((), wI h 29 x v) := c_putN (by rw [al_29]; exact q) (by rw [al_29]; decide)
theorem pu_30 {x : Nat} {v : Int32} {h : Mm} (q : x < 6) : X11_put 30 (zN x) v h = some ((), wI h 30 x v) := c_putN (by rw [al_30]; exact q) (by rw [al_30]; decide)
theorem pu_31 {x : Nat} {v : Int32} {h : Mm} (q : x < 6) : X11_put 31 (zN x) v h = some ((), wI h 31 x v) := c_putN (by rw [al_31]; exact q) (by rw [al_31]; decide)
theorem pu_33 {x : Nat} {v : Int32} {h : Mm} (q : x < 4) : X11_put 33 (zN x) v h = some ((), wI h 33 x v) := c_putN (by rw [al_33]; exact q) (by rw [al_33]; decide)
theorem pu_34 {x : Nat} {v : Int32} {h : Mm} (q : x < 6) : X11_put 34 (zN x) v h = some ((), wI h 34 x v) := c_putN (by rw [al_34]; exact q) (by rw [al_34]; decide)
theorem pu_35 {x : Nat} {v : Int32} {h : Mm} (q : x < 6) : X11_put 35 (zN x) v h = some ((), wI h 35 x v) := c_putN (by rw [al_35]; exact q) (by rw [al_35]; decide)
theorem pu_36 {x : Nat} {v : Int32} {h : Mm} (q : x < 6) : X11_put 36 (zN x) v h = some ((), wI h 36 x v) := c_putN (by rw [al_36]; exact q) (by rw [al_36]; decide)
theorem pu_39 {x : Nat} {v : Int32} {h : Mm} (q : x < 300) : X11_put 39 (zN x) v h = some ((), wI h 39 x v) := c_putN (by rw [al_39]; exact q) (by rw [al_39]; decide)
theorem pu_41 {x : Nat} {v : Int32} {h : Mm} (q : x < 4) : X11_put 41 (zN x) v h = some ((), wI h 41 x v) := c_putN (by rw [al_41]; exact q) (by rw [al_41]; decide)
theorem pu_42 {x : Nat} {v : Int32} {h : Mm} (q : x < 6) : X11_put 42 (zN x) v h = some ((), wI h 42 x v) := c_putN (by rw [al_42]; exact q) (by rw [al_42]; decide)
theorem pu_43 {x : Nat} {v : Int32} {h : Mm} (q : x < 6) : X11_put 43 (zN x) v h = some ((), wI h 43 x v) := c_putN (by rw [al_43]; exact q) (by rw [al_43]; decide)
theorem pu_44 {x : Nat} {v : Int32} {h : Mm} (q : x < 6) : X11_put 44 (zN x) v h = some ((), wI h 44 x v) := c_putN (by rw [al_44]; exact q) (by rw [al_44]; decide)
theorem pu_45 {x : Nat} {v : Int32} {h : Mm} (q : x < 300) : X11_put 45 (zN x) v h = some ((), wI h 45 x v) := c_putN (by rw [al_45]; exact q) (by rw [al_45]; decide)
theorem pu_247 {x : Nat} {v : Int32} {h : Mm} (q : x < 4) : X11_put 247 (zN x) v h = some ((), wI h 247 x v) := c_putN (by rw [al_247]; exact q) (by rw [al_247]; decide)
theorem pu_248 {x : Nat} {v : Int32} {h : Mm} (q : x < 100) : X11_put 248 (zN x) v h = some ((), wI h 248 x v) := c_putN (by rw [al_248]; exact q) (by rw [al_248]; decide)
theorem pu_250 {x : Nat} {v : Int32} {h : Mm} (q : x < 50) : X11_put 250 (zN x) v h = some ((), wI h 250 x v) := c_putN (by rw [al_250]; exact q) (by rw [al_250]; decide)
/-! the relation between the class's memory and the model's -/
/-- the LANDING: BOOKS, HOUSES, the numbers told -/
def LandR (B H : Nat) (nm : Nat → Nat) (hc hn g1 gr gb gh : Nat → Int32) : Prop :=
  (hc 1 = zN B ∧ hc 2 = zN H ∧ g1 26 = zN B ∧ g1 27 = zN H) ∧ (B ≤ 6 ∧ H ≤ 6 ∧ (H = 0 ↔ B = 0)) ∧
  (∀ k, k < 3 → hn k = zN (nm k) ∧ gr k = zN (nm k)) ∧ (∀ k, k < 3 * B → hn (3 + k) = zN (nm (3 + k)) ∧ gb k = zN (nm (3 + k))) ∧ (∀ k, k < 3 * H → hn (21 + k) = zN (nm (21 + k)) ∧ gh k = zN (nm (21 + k))) ∧
  (nm 0 ≤ 99 ∧ nm 1 ≤ 99 ∧ nm 2 ≤ 30) ∧ (∀ b, b < B → 1 ≤ nm (3 + 3 * b) ∧ nm (3 + 3 * b) ≤ 9 ∧ nm (3 + (3 * b + 1)) ≤ 9 ∧ nm (3 + (3 * b + 2)) ≤ 3) ∧
  (∀ x, x < H → nm (21 + 3 * x) ≤ 9 ∧ nm (21 + (3 * x + 1)) ≤ 40 ∧ nm (21 + (3 * x + 2)) ≤ 9)
/-- a BED: the class's rows and fields, the model's row -/
def BedR (H : Nat) (be : Nat → Nat) (hb ht hv hu hf w : Nat → Int32) : Prop :=
  (∀ x, x < H → (ht x = zN (be (3 * x)) ∧ hv x = zN (be (3 * x + 1)) ∧ hu x = zN (be (3 * x + 2))) ∧ (w (3 * x) = zN (be (3 * x)) ∧ w (3 * x + 1) = zN (be (3 * x + 1)) ∧ w (3 * x + 2) = zN (be (3 * x + 2))) ∧ be (3 * x) ≤ 40 ∧ be (3 * x + 1) ≤ 9 ∧ be (3 * x + 2) ≤ be 29) ∧
  (∀ k, k < 4 → hb k = zN (be (18 + k)) ∧ w (18 + k) = zN (be (18 + k)) ∧ be (18 + k) ≤ 9) ∧
  (hf 4 = zN (be 22) ∧ w 22 = zN (be 22) ∧ be 22 ≤ 99) ∧ (hf 5 = zN (be 23) ∧ w 23 = zN (be 23) ∧ (be 23 < H ∨ H = 0 ∧ be 23 = 0)) ∧ (hf 6 = zN (be 29) ∧ w 29 = zN (be 29) ∧ be 29 ≤ 9999) ∧
  (hf 7 = w 27 ∧ hf 8 = w 28 ∧ hf 9 = w 24) ∧ (hf 11 = zN (be 25) ∧ w 25 = zN (be 25) ∧ be 25 ≤ 1) ∧ (hf 12 = zN (be 26) ∧ w 26 = zN (be 26) ∧ be 26 ≤ 1)
/-- the LOG behind E NIGHTS -/
def LogR (E : Nat) (rows w : Nat → Int32) : Prop := w 30 = zN (min E 60) ∧ ∀ i c, i < min E 60 → c < 3 → w (31 + 3 * i + c) = rows (3 * ((E - min E 60 + i) % 100) + c)
def StateR (H E : Nat) (h : Mm) (a : Nat) (rows w : Nat → Int32) : Prop :=
  ∃ be, BedR H be (h.1 (a + 1)) (h.1 (a + 2)) (h.1 (a + 3)) (h.1 (a + 4)) (h.1 a) w ∧ be 29 = E ∧ h.1 a 10 = zN E ∧ LogR E rows w
def ringId (nx A j : Nat) : Nat := 46 + 5 * ((nx + 40 - A + j) % 40)
def PastR (H A nx : Nat) (E : Nat → Nat) (h g : Mm) : Prop :=
  (A ≤ 40 ∧ nx < 40 ∧ h.1 37 5 = zN A ∧ g.1 251 39 = zN A ∧ h.1 37 6 = zN nx) ∧ (∀ i j, i ≤ j → j ≤ A → E i ≤ E j ∧ E j ≤ E i + (j - i)) ∧
  StateR H (E A) h 27 (h.1 39) (g.1 264) ∧ ∀ j, j < A → StateR H (E j) h (ringId nx A j) (h.1 39) (fun k => g.1 268 (211 * j + k))
def ImgR (H : Nat) (h g : Mm) : Prop := h.1 37 4 = g.1 251 50 ∧ (h.1 37 4 = zN 0 ∨ h.1 37 4 = zN 1 ∧ ∃ E, StateR H E h 40 (h.1 45) (g.1 272))
/-- a STEP as it is told: its sort and digits -/
def stepOK (told a b c : Int32) : Prop := ∃ s x y : Nat, s ≤ 4 ∧ x ≤ 9 ∧ y ≤ 9 ∧ told = zN (100 * s + 10 * x + y) ∧ a = zN s ∧
  ((s ≤ 1 ∧ b = zN x ∧ c = zN y) ∨ (s = 4 ∧ b = zN x ∧ y = 0 ∧ c = -1) ∨ ((s = 2 ∨ s = 3) ∧ x = 0 ∧ y = 0 ∧ b = -1 ∧ c = -1))
def WeekR (nw : Nat) (hw hs hz g1 gw gz : Nat → Int32) : Prop :=
  (nw ≤ 4 ∧ hw 5 = zN nw ∧ g1 30 = zN nw) ∧ ∀ j, j < nw → ∃ z, 1 ≤ z ∧ z ≤ 16 ∧ hz j = zN z ∧ gz j = zN z ∧ ∀ i, i < z → stepOK (hs (16 * j + i)) (gw (3 * (16 * j + i))) (gw (3 * (16 * j + i) + 1)) (gw (3 * (16 * j + i) + 2))
def WatchR (B H : Nat) (nm : Nat → Nat) (sn : Nat) (hw hr g1 gr : Nat → Int32) : Prop :=
  (sn ≤ 10 ∧ hw 4 = zN sn ∧ g1 47 = zN sn) ∧ ∀ j, j < sn → ∃ b p x v d : Nat, b < B ∧ 1 ≤ p ∧ p ≤ nm (3 + 3 * b) ∧ x < H ∧ v ≤ 99 ∧ d ≤ 1 ∧
    (hr (5 * j) = zN b ∧ hr (5 * j + 1) = zN p ∧ hr (5 * j + 2) = zN x ∧ hr (5 * j + 3) = zN v ∧ hr (5 * j + 4) = zN d) ∧ (gr (5 * j) = zN b ∧ gr (5 * j + 1) = zN p ∧ gr (5 * j + 2) = zN x ∧ gr (5 * j + 3) = zN v ∧ gr (5 * j + 4) = zN d)
/-- the TAPE -/
def TapeR (s : Nat) (tp : Nat → Nat) (ht hc g1 gt : Nat → Int32) : Prop :=
  (s ≤ 240 ∧ ht 1 = zN s ∧ g1 6 = zN s) ∧ ∀ k, k < s → 1 ≤ tp k ∧ tp k ≤ 255 ∧ hc k = zN (tp k) ∧ gt k = (zN (tp k)).toInt8.toInt32
/-! the LAWS: what each is worth, however often it is asked -/
abbrev F6 : Type := Int32 → Int32 → Int32 → Int32 → Int32 → Int32 → Int32
def FrW (h h' : Mm) : Prop := (∀ i, i ≠ 16 → i ≠ 24 → h'.1 i = h.1 i) ∧ (∀ k, k ≠ 7 → h'.1 16 k = h.1 16 k) ∧ h'.2 = h.2
def sc251 (k : Nat) : Bool := k == 5 || k == 8 || k == 9 || k == 10 || k == 11 || k == 12 || k == 13 || k == 14 || k == 17
def FrM (g g' : Mm) : Prop := (∀ i, i ≠ 251 → g'.1 i = g.1 i) ∧ (∀ k, sc251 k = false → g'.1 251 k = g.1 251 k) ∧ g'.2 = g.2
/-- what a letter can be at all -/
def lbd (x : Int32) : Prop := -1000000 ≤ x.toInt ∧ x.toInt ≤ 1000000
def EvC (n j : Nat) (row : Nat → Int32) (sz : Int32) (f : F6) : Prop := ∀ h : Mm, (∀ k, k < 240 → h.1 (18 + j) k = row k) → h.1 22 j = sz → h.1 16 6 = zN j → (∀ i, i < 6 → lbd (h.1 23 i)) →
  ∃ h', X4_worthByLaw n h = some (f (h.1 23 0) (h.1 23 1) (h.1 23 2) (h.1 23 3) (h.1 23 4) (h.1 23 5), h') ∧ FrW h h'
def EvM (n j : Nat) (tx : Nat → Int32) (ln : Int32) (f : F6) : Prop := ∀ g : Mm, (∀ k, k < 240 → g.1 253 (240 * j + k) = tx k) → (lbd (g.1 255 99) ∧ lbd (g.1 255 118) ∧ lbd (g.1 255 98) ∧ lbd (g.1 255 112) ∧ lbd (g.1 255 110) ∧ lbd (g.1 255 116)) →
  ∃ g', X12_goThrough n 253 (zN (240 * j)) ln g = some ((), g') ∧ g'.1 251 14 = f (g.1 255 99) (g.1 255 118) (g.1 255 98) (g.1 255 112) (g.1 255 110) (g.1 255 116) ∧ FrM g g'
def clmp (lo x hi : Int32) : Int32 := if x < lo then lo else if hi < x then hi else x
def keyC (j c v b p nn t : Nat) : Nat := (((((j * 10 + c) * 10 + v) * 64 + t) * 10 + b) * 10 + p) * 16384 + nn
def keyM (j c v b p nn t : Nat) : Nat := ((((((1 + j) * 10 + c) * 10 + v) * 10 + b) * 10 + p) * 100 + t) * 100000 + nn
def LawC (n nl : Nat) (hd : Int32) (f : Nat → F6) (h : Mm) : Prop :=
  (nl ≤ 4 ∧ h.1 16 5 = zN nl ∧ h.1 16 6 = hd ∧ (hd = -1 ∨ ∃ j, j < nl ∧ hd = zN j)) ∧ (∀ j, j < nl → EvC n j (h.1 (18 + j)) (h.1 22 j) (f j)) ∧
  ∀ s, s < 2048 → h.2 25 s = 0 ∨ ∃ j c v b p nn t, j < nl ∧ c ≤ 9 ∧ v ≤ 9 ∧ b ≤ 9 ∧ p ≤ 9 ∧ nn < 16384 ∧ t < 64 ∧ h.2 25 s = Int64.ofInt ((keyC j c v b p nn t : Int) * 32 + (clmp (-9) (f j (zN c) (zN v) (zN b) (zN p) (zN nn) (zN t)) 20).toInt + 10)
def LawM (n nl : Nat) (hd : Int32) (f : Nat → F6) (g : Mm) : Prop :=
  (nl ≤ 4 ∧ g.1 251 7 = zN nl ∧ g.1 251 34 = hd ∧ (hd = -1 ∨ ∃ j, j < nl ∧ hd = zN j)) ∧ (∀ j, j < nl → EvM n j (fun k => g.1 253 (240 * j + k)) (g.1 254 j) (f j)) ∧
  ∀ s, s < 8191 → g.2 266 s = 0 ∨ ∃ j c v b p nn t, j < nl ∧ c ≤ 9 ∧ v ≤ 9 ∧ b ≤ 9 ∧ p ≤ 9 ∧ nn < 100000 ∧ t < 100 ∧ g.2 266 s = Int64.ofNat (keyM j c v b p nn t) ∧ g.1 267 s = f j (zN c) (zN v) (zN b) (zN p) (zN nn) (zN t)
/-- what a page is worth -/
def wv (hd : Int32) (f : Nat → F6) (c v b p nn t : Nat) : Int32 := clmp (-9) (if hd = -1 then zN c + zN v / zN 3 - zN b else f hd.toNatClampNeg (zN c) (zN v) (zN b) (zN p) (zN nn) (zN t)) 20
def R (n : Nat) (h g : Mm) : Prop := ∃ (B H : Nat) (nm : Nat → Nat) (A nx : Nat) (E : Nat → Nat) (nw sn s : Nat) (tp : Nat → Nat) (nl : Nat) (hd : Int32) (f : Nat → F6),
  LandR B H nm (h.1 14) (h.1 15) (g.1 251) (g.1 256) (g.1 258) (g.1 260) ∧ PastR H A nx E h g ∧ ImgR H h g ∧ WeekR nw (h.1 9) (h.1 11) (h.1 12) (g.1 251) (g.1 262) (g.1 263) ∧
  WatchR B H nm sn (h.1 249) (h.1 250) (g.1 251) (g.1 270) ∧ TapeR s tp (h.1 1) (h.1 2) (g.1 251) (g.1 252) ∧ LawC n nl hd f h ∧ LawM n nl hd f g ∧ h.1 0 12 = g.1 251 35
/-- what of the class's memory R speaks of -/
def kpC (i k : Nat) : Bool := (i == 0 && k == 12) || (i == 1 && k == 1) || i == 2 || (i == 9 && k == 5) || i == 11 || i == 12 || i == 14 || i == 15 || (i == 16 && (k == 5 || k == 6)) || (decide (18 ≤ i) && decide (i ≤ 22)) || (decide (27 ≤ i) && decide (i ≤ 31)) || (i == 37 && decide (4 ≤ k) && decide (k ≤ 6)) || (decide (39 ≤ i) && decide (i ≤ 245)) || (i == 249 && k == 4) || i == 250
def kp251 (k : Nat) : Bool := k == 6 || k == 7 || k == 26 || k == 27 || k == 30 || k == 34 || k == 35 || k == 39 || k == 47 || k == 50
def kpM (i k : Nat) : Bool := (i == 251 && kp251 k) || i == 252 || i == 253 || i == 254 || i == 256 || i == 258 || i == 260 || i == 262 || i == 263 || i == 264 || i == 267 || i == 268 || i == 270 || i == 272
def AgC (h h' : Mm) : Prop := (∀ i k, kpC i k = true → h'.1 i k = h.1 i k) ∧ h'.2 25 = h.2 25
def AgM (g g' : Mm) : Prop := (∀ i k, kpM i k = true → g'.1 i k = g.1 i k) ∧ g'.2 266 = g.2 266
theorem AgC.rf {h : Mm} : AgC h h := ⟨fun _ _ _ => rfl, rfl⟩
theorem AgM.rf {g : Mm} : AgM g g := ⟨fun _ _ _ => rfl, rfl⟩
theorem AgC.tr {a b c : Mm} (p : AgC a b) (q : AgC b c) : AgC a c := ⟨fun i k z => (q.1 i k z).trans (p.1 i k z), q.2.trans p.2⟩
theorem AgM.tr {a b c : Mm} (p : AgM a b) (q : AgM b c) : AgM a c := ⟨fun i k z => (q.1 i k z).trans (p.1 i k z), q.2.trans p.2⟩
theorem AgC.w {h : Mm} {i k : Nat} {v : Int32} (q : kpC i k = false) : AgC h (wI h i k v) := ⟨fun i' k' z => by
  by_cases c : i' = i
  · subst c
    rw [w_eq]
    by_cases d : k' = k
    · subst d; rw [q] at z; cases z
    · rw [u_ne d]
  · rw [w_ne c], rfl⟩
theorem AgM.w {h : Mm} {i k : Nat} {v : Int32} (q : kpM i k = false) : AgM h (wI h i k v) := ⟨fun i' k' z => by
  by_cases c : i' = i
  · subst c
    rw [w_eq]
    by_cases d : k' = k
    · subst d; rw [q] at z; cases z
    · rw [u_ne d]
  · rw [w_ne c], rfl⟩
theorem AgC.r {h : Mm} {i : Nat} {f : Nat → Int32} (q : ∀ k, kpC i k = false) : AgC h (wR h i f) := ⟨fun i' k' z => by
  by_cases c : i' = i
  · subst c; rw [q k'] at z; cases z
  · rw [wr_ne c], rfl⟩
theorem AgC.l {h : Mm} {i k : Nat} {v : Int64} (q : i ≠ 25) : AgC h (wL h i k v) := ⟨fun _ _ _ => rfl, wl_ne (fun z => q z.symm)⟩
theorem AgM.l {h : Mm} {i k : Nat} {v : Int64} (q : i ≠ 266) : AgM h (wL h i k v) := ⟨fun _ _ _ => rfl, wl_ne (fun z => q z.symm)⟩
theorem BedR.cg {H : Nat} {be : Nat → Nat} {hb ht hv hu hf w hb' ht' hv' hu' hf' w' : Nat → Int32} (q : BedR H be hb ht hv hu hf w) (hH : H ≤ 6) (e1 : ∀ k, k < 4 → hb' k = hb k) (e2 : ∀ k, k < 6 → ht' k = ht k) (e3 : ∀ k, k < 6 → hv' k = hv k) (e4 : ∀ k, k < 6 → hu' k = hu k) (e5 : ∀ k, 4 ≤ k → k ≤ 12 → hf' k = hf k) (e6 : ∀ k, k < 30 → w' k = w k) : BedR H be hb' ht' hv' hu' hf' w' := by
  obtain ⟨q1, q2, q3, q4, q5, q6, q7, q8⟩ := q
  refine ⟨fun x hx => ?_, fun k hk => ?_, ?_, ?_, ?_, ?_, ?_, ?_⟩
  · rw [e2 x (by omega), e3 x (by omega), e4 x (by omega), e6 _ (by omega), e6 _ (by omega), e6 _ (by omega)]; exact q1 x hx
  · rw [e1 k hk, e6 _ (by omega)]; exact q2 k hk
  · rw [e5 _ (by omega) (by omega), e6 _ (by omega)]; exact q3
  · rw [e5 _ (by omega) (by omega), e6 _ (by omega)]; exact q4
  · rw [e5 _ (by omega) (by omega), e6 _ (by omega)]; exact q5
  · rw [e5 _ (by omega) (by omega), e5 _ (by omega) (by omega), e5 _ (by omega) (by omega), e6 _ (by omega), e6 _ (by omega), e6 _ (by omega)]; exact q6
  · rw [e5 _ (by omega) (by omega), e6 _ (by omega)]; exact q7
  · rw [e5 _ (by omega) (by omega), e6 _ (by omega)]; exact q8
theorem LogR.cg {E : Nat} {rows w rows' w' : Nat → Int32} (q : LogR E rows w) (e1 : ∀ k, k < 300 → rows' k = rows k) (e2 : ∀ k, k < 211 → w' k = w k) : LogR E rows' w' := by
  obtain ⟨q1, q2⟩ := q
  refine ⟨by rw [e2 _ (by omega)]; exact q1, fun i c hi hc => ?_⟩
  rw [e2 _ (by omega), e1 _ (by omega)]; exact q2 i c hi hc
theorem StateR.cg {H E a : Nat} {h h' : Mm} {rows w rows' w' : Nat → Int32} (q : StateR H E h a rows w) (hH : H ≤ 6) (e0 : ∀ i, i < 5 → ∀ k, (i = 0 → 4 ≤ k) → h'.1 (a + i) k = h.1 (a + i) k) (e1 : ∀ k, k < 300 → rows' k = rows k) (e2 : ∀ k, k < 211 → w' k = w k) : StateR H E h' a rows' w' := by
  obtain ⟨be, q1, q2, q3, q4⟩ := q
  exact ⟨be, q1.cg hH (fun k _ => e0 1 (by omega) k (by omega)) (fun k _ => e0 2 (by omega) k (by omega)) (fun k _ => e0 3 (by omega) k (by omega)) (fun k _ => e0 4 (by omega) k (by omega)) (fun k h4 _ => e0 0 (by omega) k (fun _ => h4)) (fun k hk => e2 k (by omega)), q2, by rw [← q3]; exact e0 0 (by omega) 10 (by omega), q4.cg e1 e2⟩
theorem LawC.cg {n nl : Nat} {hd : Int32} {f : Nat → F6} {h h' : Mm} (q : LawC n nl hd f h) (e1 : h'.1 16 5 = h.1 16 5) (e2 : h'.1 16 6 = h.1 16 6) (e3 : ∀ i, 18 ≤ i → i ≤ 22 → h'.1 i = h.1 i) (e4 : h'.2 25 = h.2 25) : LawC n nl hd f h' := by
  obtain ⟨q1, q2, q3⟩ := q
  refine ⟨by rw [e1, e2]; exact q1, fun j hj => ?_, by rw [e4]; exact q3⟩
  have z := q1.1
  rw [e3 (18 + j) (by omega) (by omega), e3 22 (by omega) (by omega)]; exact q2 j hj
theorem LawM.cg {n nl : Nat} {hd : Int32} {f : Nat → F6} {g g' : Mm} (q : LawM n nl hd f g) (e1 : g'.1 251 7 = g.1 251 7) (e2 : g'.1 251 34 = g.1 251 34) (e3 : g'.1 253 = g.1 253) (e4 : g'.1 254 = g.1 254) (e5 : g'.2 266 = g.2 266) (e6 : g'.1 267 = g.1 267) : LawM n nl hd f g' := by
  obtain ⟨q1, q2, q3⟩ := q
  exact ⟨by rw [e1, e2]; exact q1, by rw [e3, e4]; exact q2, by rw [e5, e6]; exact q3⟩
theorem kpC_i {i : Nat} (q : ∀ k, kpC i k = true) {h h' : Mm} (z : AgC h h') : h'.1 i = h.1 i := funext fun k => z.1 i k (q k)
theorem kpM_i {i : Nat} (q : ∀ k, kpM i k = true) {h h' : Mm} (z : AgM h h') : h'.1 i = h.1 i := funext fun k => z.1 i k (q k)
theorem kp_bed {i k : Nat} (h1 : (27 ≤ i ∧ i ≤ 31) ∨ (39 ≤ i ∧ i ≤ 245)) : kpC i k = true := by
  unfold kpC
  rcases h1 with ⟨a, b⟩ | ⟨a, b⟩
  · simp [a, b]
  · simp [a, b]
theorem R.cg {n : Nat} {h g h' g' : Mm} (q : R n h g) (zc : AgC h h') (zm : AgM g g') : R n h' g' := by
  obtain ⟨B, H, nm, A, nx, E, nw, sn, s, tp, nl, hd, f, hL, hP, hI, hW, hS, hT, hC, hM, hu⟩ := q
  have hH : H ≤ 6 := hL.2.1.2.1
  refine ⟨B, H, nm, A, nx, E, nw, sn, s, tp, nl, hd, f, ?_, ?_, ?_, ?_, ?_, ?_, ?_, ?_, ?_⟩
  · rw [kpC_i (i := 14) (fun k => rfl) zc, kpC_i (i := 15) (fun k => rfl) zc, kpM_i (i := 256) (fun k => rfl) zm, kpM_i (i := 258) (fun k => rfl) zm, kpM_i (i := 260) (fun k => rfl) zm]
    obtain ⟨q1, q2⟩ := hL
    exact ⟨by rw [zm.1 251 26 rfl, zm.1 251 27 rfl]; exact q1, q2⟩
  · obtain ⟨q1, q2, q3, q4⟩ := hP
    refine ⟨by rw [zc.1 37 5 rfl, zc.1 37 6 rfl, zm.1 251 39 rfl]; exact q1, q2, q3.cg hH (fun i hi k _ => zc.1 _ _ (kp_bed (by omega))) (fun k _ => zc.1 39 k rfl) (fun k _ => zm.1 264 k rfl), fun j hj => (q4 j hj).cg hH (fun i hi k _ => zc.1 _ _ (kp_bed (by unfold ringId; omega))) (fun k _ => zc.1 39 k rfl) (fun k _ => zm.1 268 _ rfl)⟩
  · obtain ⟨q1, q2⟩ := hI
    refine ⟨by rw [zc.1 37 4 rfl, zm.1 251 50 rfl]; exact q1, ?_⟩
    rw [zc.1 37 4 rfl]
    rcases q2 with q2 | ⟨q2, E2, q3⟩
    · exact Or.inl q2
    · exact Or.inr ⟨q2, E2, q3.cg hH (fun i hi k _ => zc.1 _ _ (kp_bed (by omega))) (fun k _ => zc.1 45 k rfl) (fun k _ => zm.1 272 k rfl)⟩
  · rw [kpC_i (i := 11) (fun k => rfl) zc, kpC_i (i := 12) (fun k => rfl) zc, kpM_i (i := 262) (fun k => rfl) zm, kpM_i (i := 263) (fun k => rfl) zm]
    obtain ⟨q1, q2⟩ := hW
    exact ⟨by rw [zc.1 9 5 rfl, zm.1 251 30 rfl]; exact q1, q2⟩
  · rw [kpC_i (i := 250) (fun k => rfl) zc, kpM_i (i := 270) (fun k => rfl) zm]
    obtain ⟨q1, q2⟩ := hS
    exact ⟨by rw [zc.1 249 4 rfl, zm.1 251 47 rfl]; exact q1, q2⟩
  · rw [kpC_i (i := 2) (fun k => rfl) zc, kpM_i (i := 252) (fun k => rfl) zm]
    obtain ⟨q1, q2⟩ := hT
    exact ⟨by rw [zc.1 1 1 rfl, zm.1 251 6 rfl]; exact q1, q2⟩
  · exact hC.cg (zc.1 16 5 rfl) (zc.1 16 6 rfl) (fun i h1 h2 => funext fun k => zc.1 i k (by unfold kpC; simp [h1, h2])) zc.2
  · exact hM.cg (zm.1 251 7 rfl) (zm.1 251 34 rfl) (kpM_i (fun k => rfl) zm) (kpM_i (fun k => rfl) zm) zm.2 (kpM_i (fun k => rfl) zm)
  · rw [zc.1 0 12 rfl, zm.1 251 35 rfl]; exact hu
theorem R.thr {n : Nat} {h g : Mm} (q : R n h g) (v : Int32) : R n h (wI g 251 0 v) := q.cg AgC.rf (AgM.w rfl)
/-! each part is left as it was, where its places are -/
theorem LandR.ag {B H : Nat} {nm : Nat → Nat} {h g h' g' : Mm} (q : LandR B H nm (h.1 14) (h.1 15) (g.1 251) (g.1 256) (g.1 258) (g.1 260)) (e1 : h'.1 14 = h.1 14) (e2 : h'.1 15 = h.1 15) (e3 : g'.1 251 26 = g.1 251 26) (e4 : g'.1 251 27 = g.1 251 27) (e5 : g'.1 256 = g.1 256) (e6 : g'.1 258 = g.1 258) (e7 : g'.1 260 = g.1 260) : LandR B H nm (h'.1 14) (h'.1 15) (g'.1 251) (g'.1 256) (g'.1 258) (g'.1 260) := by
  obtain ⟨q1, q2⟩ := q
  rw [e1, e2, e5, e6, e7]
  exact ⟨by rw [e3, e4]; exact q1, q2⟩
theorem StateR.ag {H E a : Nat} {h h' : Mm} {rows w rows' w' : Nat → Int32} (q : StateR H E h a rows w) (e0 : ∀ i, a ≤ i → i ≤ a + 4 → h'.1 i = h.1 i) (e1 : rows' = rows) (e2 : w' = w) : StateR H E h' a rows' w' := by
  obtain ⟨be, q1, q2, q3, q4⟩ := q
  rw [e1, e2]
  refine ⟨be, ?_, q2, ?_, q4⟩
  · rw [e0 (a + 1) (by omega) (by omega), e0 (a + 2) (by omega) (by omega), e0 (a + 3) (by omega) (by omega), e0 (a + 4) (by omega) (by omega), e0 a (by omega) (by omega)]; exact q1
  · rw [e0 a (by omega) (by omega)]; exact q3
theorem PastR.ag {H A nx : Nat} {E : Nat → Nat} {h g h' g' : Mm} (q : PastR H A nx E h g) (e1 : ∀ i, 27 ≤ i → i ≤ 31 → h'.1 i = h.1 i) (e2 : ∀ i, 46 ≤ i → i ≤ 245 → h'.1 i = h.1 i) (e3 : h'.1 39 = h.1 39) (e4 : h'.1 37 5 = h.1 37 5) (e5 : h'.1 37 6 = h.1 37 6) (e6 : g'.1 251 39 = g.1 251 39) (e7 : g'.1 264 = g.1 264) (e8 : g'.1 268 = g.1 268) : PastR H A nx E h' g' := by
  obtain ⟨q1, q2, q3, q4⟩ := q
  refine ⟨by rw [e4, e5, e6]; exact q1, q2, q3.ag e1 e3 e7, fun j hj => (q4 j hj).ag (fun i h1 h2 => e2 i ?_ ?_) e3 (by rw [e8])⟩
  · unfold ringId at h1; omega
  · unfold ringId at h2; omega
theorem ImgR.ag {H : Nat} {h g h' g' : Mm} (q : ImgR H h g) (e1 : ∀ i, 40 ≤ i → i ≤ 45 → h'.1 i = h.1 i) (e2 : h'.1 37 4 = h.1 37 4) (e3 : g'.1 251 50 = g.1 251 50) (e4 : g'.1 272 = g.1 272) : ImgR H h' g' := by
  obtain ⟨q1, q2⟩ := q
  refine ⟨by rw [e2, e3]; exact q1, ?_⟩
  rw [e2]
  rcases q2 with q2 | ⟨q2, E2, q3⟩
  · exact Or.inl q2
  · exact Or.inr ⟨q2, E2, q3.ag (fun i h1 h2 => e1 i h1 (by omega)) (e1 45 (by decide) (by decide)) e4⟩
theorem WeekR.ag {nw : Nat} {h g h' g' : Mm} (q : WeekR nw (h.1 9) (h.1 11) (h.1 12) (g.1 251) (g.1 262) (g.1 263)) (e1 : h'.1 9 5 = h.1 9 5) (e2 : h'.1 11 = h.1 11) (e3 : h'.1 12 = h.1 12) (e4 : g'.1 251 30 = g.1 251 30) (e5 : g'.1 262 = g.1 262) (e6 : g'.1 263 = g.1 263) : WeekR nw (h'.1 9) (h'.1 11) (h'.1 12) (g'.1 251) (g'.1 262) (g'.1 263) := by
  obtain ⟨q1, q2⟩ := q
  rw [e2, e3, e5, e6]
  exact ⟨by rw [e1, e4]; exact q1, q2⟩
theorem WatchR.ag {B H : Nat} {nm : Nat → Nat} {sn : Nat} {h g h' g' : Mm} (q : WatchR B H nm sn (h.1 249) (h.1 250) (g.1 251) (g.1 270)) (e1 : h'.1 249 4 = h.1 249 4) (e2 : h'.1 250 = h.1 250) (e3 : g'.1 251 47 = g.1 251 47) (e4 : g'.1 270 = g.1 270) : WatchR B H nm sn (h'.1 249) (h'.1 250) (g'.1 251) (g'.1 270) := by
  obtain ⟨q1, q2⟩ := q
  rw [e2, e4]
  exact ⟨by rw [e1, e3]; exact q1, q2⟩
theorem TapeR.ag {s : Nat} {tp : Nat → Nat} {h g h' g' : Mm} (q : TapeR s tp (h.1 1) (h.1 2) (g.1 251) (g.1 252)) (e1 : h'.1 1 1 = h.1 1 1) (e2 : h'.1 2 = h.1 2) (e3 : g'.1 251 6 = g.1 251 6) (e4 : g'.1 252 = g.1 252) : TapeR s tp (h'.1 1) (h'.1 2) (g'.1 251) (g'.1 252) := by
  obtain ⟨q1, q2⟩ := q
  rw [e2, e4]
  exact ⟨by rw [e1, e3]; exact q1, q2⟩
