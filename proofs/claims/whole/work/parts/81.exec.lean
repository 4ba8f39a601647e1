/-! the orders of a LAW, run -/
def L6 (a b c d e t : Int32) (i : Nat) : Int32 := if i = 0 then a else if i = 1 then b else if i = 2 then c else if i = 3 then d else if i = 4 then e else t
def lc (h : Mm) : Nat → Int32 := L6 (h.1 23 0) (h.1 23 1) (h.1 23 2) (h.1 23 3) (h.1 23 4) (h.1 23 5)
def lm (g : Mm) : Nat → Int32 := L6 (g.1 255 99) (g.1 255 118) (g.1 255 98) (g.1 255 112) (g.1 255 110) (g.1 255 116)
theorem lc_i {h : Mm} {i : Nat} (hi : i < 6) : lc h i = h.1 23 i := by
  obtain rfl | rfl | rfl | rfl | rfl | rfl : i = 0 ∨ i = 1 ∨ i = 2 ∨ i = 3 ∨ i = 4 ∨ i = 5 := by omega
  all_goals rfl
def Lb (L : Nat → Int32) : Prop := ∀ i, i < 6 → lbd (L i)
def At (w : Nat → Int32) : Nat → List Int32 → Prop
  | _, [] => True
  | i, o :: c => w i = o ∧ At w (i + 1) c
theorem At_app {w : Nat → Int32} : ∀ (c1 c2 : List Int32) (i : Nat), At w i (c1 ++ c2) ↔ At w i c1 ∧ At w (i + c1.length) c2
  | [], c2, i => ⟨fun h => ⟨trivial, h⟩, fun h => h.2⟩
  | o :: c1, c2, i => by
    show (w i = o ∧ At w (i + 1) (c1 ++ c2)) ↔ (w i = o ∧ At w (i + 1) c1) ∧ At w (i + (c1.length + 1)) c2
    rw [At_app c1 c2 (i + 1), show i + (c1.length + 1) = i + 1 + c1.length by omega]
    exact ⟨fun h => ⟨⟨h.1, h.2.1⟩, h.2.2⟩, fun h => ⟨h.1.1, h.1.2, h.2⟩⟩
theorem At_cg {w w' : Nat → Int32} : ∀ (c : List Int32) (i : Nat), (∀ j, i ≤ j → j < i + c.length → w' j = w j) → At w i c → At w' i c
  | [], _, _, _ => trivial
  | o :: c, i, e, h => ⟨by rw [e i (by omega) (by rw [List.length_cons]; omega)]; exact h.1, At_cg c (i + 1) (fun j h1 h2 => e j (by omega) (by rw [List.length_cons]; omega)) h.2⟩
theorem c_push {t : Nat} {v : Int32} {h : Mm} (e : h.1 16 7 = zN t) (ht : t < 64) : X4_push v h = some ((), wI (wI h 24 t v) 16 7 (zN (t + 1))) := by
  unfold X4_push
  rw [e, if_neg (show ¬ zN t < 0 from zN_neg0 (by omega)), if_neg (show ¬ (64 : Int32) ≤ zN t by rw [zN_lit, zN_le (by decide) (by omega)]; omega), if_pos (show inB (zN t) (aln 24) by rw [al_24, zN_inB (by omega)]; exact ht), zN_ix (by omega), w_ne (by decide), e, sN1]
theorem c_pop {t : Nat} {h : Mm} (e : h.1 16 7 = zN (t + 1)) (ht : t < 64) : X4_pop h = some (h.1 24 t, wI h 16 7 (zN t)) := by
  unfold X4_pop
  have e1 : zN (t + 1) - 1 = zN t := by rw [show (1 : Int32) = zN 1 from rfl, zN_sub (by omega)]; rfl
  rw [e, if_neg (show ¬ zN (t + 1) < 1 by rw [zN_lit, zN_lt (by omega) (by decide)]; omega), if_pos (show zN (t + 1) ≤ 64 from (zN_le (b := 64) (by omega) (by decide)).mpr (by omega)), e1, w_eq, u_eq, if_pos (show inB (zN t) (aln 24) by rw [al_24, zN_inB (by omega)]; exact ht), zN_ix (by omega), w_ne (by decide)]
theorem FrW.rf {h : Mm} : FrW h h := ⟨fun _ _ _ => rfl, fun _ _ => rfl, rfl⟩
theorem FrW.tr {a b c : Mm} (p : FrW a b) (q : FrW b c) : FrW a c := ⟨fun i h1 h2 => (q.1 i h1 h2).trans (p.1 i h1 h2), fun k hk => (q.2.1 k hk).trans (p.2.1 k hk), q.2.2.trans p.2.2⟩
theorem FrW.lcc {h h' : Mm} (q : FrW h h') : lc h' = lc h := by
  have e : h'.1 23 = h.1 23 := q.1 23 (by decide) (by decide)
  unfold lc; rw [e]
/-- these orders put one number on the stack -/
def CR (c : List Int32) (m : Nat) (v : (Nat → Int32) → Int32) : Prop :=
  ∀ (n row e i t f : Nat) (h : Mm), 18 ≤ row → row ≤ 21 → At (h.1 row) i c → i + c.length ≤ e → e ≤ 240 → t + m ≤ 64 → h.1 16 7 = zN t → Lb (lc h) →
    ∃ h', X4_worthByLaw_55 n (f + c.length) row (zN e) (zN i) h = X4_worthByLaw_55 n f row (zN e) (zN (i + c.length)) h' ∧ h'.1 16 7 = zN (t + 1) ∧ h'.1 24 t = v (lc h) ∧ (∀ j, j < t → h'.1 24 j = h.1 24 j) ∧ FrW h h'
def Ex (c : List Int32) (m : Nat) (v : (Nat → Int32) → Int32) : Prop := CR c m v ∧ ∀ L, Lb L → lbd (v L)
theorem aln_row {row : Nat} (h1 : 18 ≤ row) (h2 : row ≤ 21) : aln row = 240 := by
  obtain rfl | rfl | rfl | rfl : row = 18 ∨ row = 19 ∨ row = 20 ∨ row = 21 := by omega
  · exact al_18
  · exact al_19
  · exact al_20
  · exact al_21
theorem i32_lt_lit {a b : Int} {x y : Int32} (hx : x = zI a) (hy : y = zI b) (h1 : -2147483648 ≤ a) (h2 : a < 2147483648) (h3 : -2147483648 ≤ b) (h4 : b < 2147483648) : x < y ↔ a < b := by rw [hx, hy]; exact zI_lt h1 h2 h3 h4
theorem CR.mono {c : List Int32} {m m' : Nat} {v : (Nat → Int32) → Int32} (q : CR c m v) (h : m ≤ m') : CR c m' v := fun n row e i t f h0 a1 a2 a3 a4 a5 a6 a7 a8 => q n row e i t f h0 a1 a2 a3 a4 a5 (by omega) a7 a8
theorem Ex.mono {c : List Int32} {m m' : Nat} {v : (Nat → Int32) → Int32} (q : Ex c m v) (h : m ≤ m') : Ex c m' v := ⟨q.1.mono h, q.2⟩
theorem row_ne {row : Nat} (h1 : 18 ≤ row) (h2 : row ≤ 21) : row ≠ 16 ∧ row ≠ 24 := by omega
theorem num_f {k : Nat} (hk : k ≤ 100000) : ¬ zN k = -17 ∧ (-100 : Int32) < zN k := by
  have e1 : (-17 : Int32).toInt = -17 := by decide
  have e2 : (-100 : Int32).toInt = -100 := by decide
  refine ⟨fun z => ?_, ?_⟩
  · have := congrArg Int32.toInt z
    rw [zN_ti (by omega), e1] at this
    omega
  · rw [Int32.lt_iff_toInt_lt, zN_ti (by omega), e2]; omega
theorem CR_num {k : Nat} (hk : k ≤ 100000) : CR [zN k] 1 (fun _ => zN k) := by
  intro n row e i t f h a1 a2 a3 a4 a5 a6 a7 a8
  have ao : h.1 row i = zN k := a3.1
  have a4' : i + 1 ≤ e := a4
  show ∃ h', X4_worthByLaw_55 n (f + 1) row (zN e) (zN i) h = X4_worthByLaw_55 n f row (zN e) (zN (i + 1)) h' ∧ _
  rw [X4_worthByLaw_55]
  unfold X4_worthByLaw_221
  rw [if_neg (show ¬ zN e ≤ zN i by rw [zN_le (by omega) (by omega)]; omega), if_pos (show inB (zN i) (aln row) by rw [aln_row a1 a2, zN_inB (by omega)]; omega), zN_ix (by omega), ao, if_neg (num_f hk).1, if_pos (num_f hk).2, if_neg (show ¬ zN k < 0 from zN_neg0 (by omega)), c_push a7 (by omega), bd_some, sN1]
  refine ⟨_, rfl, by rw [w_eq, u_eq], by rw [w_ne (by decide), w_eq, u_eq], fun j hj => by rw [w_ne (by decide), w_eq, u_ne (by omega)], fun q h1 h2 => by rw [w_ne h1, w_ne h2], fun q hq => by rw [w_eq, u_ne hq, w_ne (by decide)], rfl⟩
theorem ti_lit17 : (-17 : Int32).toInt = -17 := by decide
theorem ti_lit100 : (-100 : Int32).toInt = -100 := by decide
theorem ti_lit7 : (-7 : Int32).toInt = -7 := by decide
theorem CR_let {k : Nat} (hk : k < 6) : CR [(-1 : Int32) - zN k] 1 (fun L => L k) := by
  intro n row e i t f h a1 a2 a3 a4 a5 a6 a7 a8
  have ao : h.1 row i = (-1 : Int32) - zN k := a3.1
  have a4' : i + 1 ≤ e := a4
  have facts : ∀ k, k < 6 → ¬ ((-1 : Int32) - zN k = -17) ∧ (-100 : Int32) < (-1 : Int32) - zN k ∧ ((-1 : Int32) - zN k < 0) ∧ ¬ ((-1 : Int32) - zN k ≤ -7) ∧ (-1 : Int32) - ((-1 : Int32) - zN k) = zN k := by decide
  obtain ⟨f1, f2, f3, f4, f5⟩ := facts k hk
  show ∃ h', X4_worthByLaw_55 n (f + 1) row (zN e) (zN i) h = X4_worthByLaw_55 n f row (zN e) (zN (i + 1)) h' ∧ _
  rw [X4_worthByLaw_55]
  unfold X4_worthByLaw_221
  rw [if_neg (show ¬ zN e ≤ zN i by rw [zN_le (by omega) (by omega)]; omega), if_pos (show inB (zN i) (aln row) by rw [aln_row a1 a2, zN_inB (by omega)]; omega), zN_ix (by omega), ao, if_neg f1, if_pos f2, if_pos f3, if_neg f4, f5, at_23 hk, bp_some, c_push a7 (by omega), bd_some, sN1]
  refine ⟨_, rfl, by rw [w_eq, u_eq], by rw [w_ne (by decide), w_eq, u_eq]; exact (lc_i hk).symm, fun j hj => by rw [w_ne (by decide), w_eq, u_ne (by omega)], fun q h1 h2 => by rw [w_ne h1, w_ne h2], fun q hq => by rw [w_eq, u_ne hq, w_ne (by decide)], rfl⟩
/-- what an order with two numbers makes -/
def BinO (o : Int32) (w : Int32 → Int32 → Int32) : Prop := ∀ (l r : Int32) (h : Mm), lbd l → lbd r → (o < -10 → ∃ b, X4_compare o l r h = some b ∧ w l r = if b = true then 1 else 0) ∧ (¬ o < -10 → X4_reckon o l r h = some (w l r))
theorem CR_bin {c1 c2 : List Int32} {m1 m2 : Nat} {v1 v2 : (Nat → Int32) → Int32} {o : Int32} {w : Int32 → Int32 → Int32} (q1 : Ex c1 m1 v1) (q2 : Ex c2 m2 v2) (hm2 : 1 ≤ m2) (ho : ¬ o = -17 ∧ (-100 : Int32) < o ∧ o < 0 ∧ o ≤ -7 ∧ ¬ o = -16) (hw : BinO o w) : CR (c1 ++ (c2 ++ [o])) (max m1 (m2 + 1)) (fun L => w (v1 L) (v2 L)) := by
  intro n row e i t f h a1 a2 a3 a4 a5 a6 a7 a8
  obtain ⟨b1, b2⟩ := (At_app c1 (c2 ++ [o]) i).mp a3
  obtain ⟨b3, b4⟩ := (At_app c2 [o] (i + c1.length)).mp b2
  have len : (c1 ++ (c2 ++ [o])).length = c1.length + (c2.length + 1) := by rw [List.length_append, List.length_append]; rfl
  rw [len] at a4 ⊢
  obtain ⟨h1, r1, r2, r3, r4, r5⟩ := q1.1 n row e i t (f + 1 + c2.length) h a1 a2 b1 (by omega) a5 (by omega) a7 a8
  have row1 : h1.1 row = h.1 row := r5.1 row (by omega) (by omega)
  obtain ⟨h2, s1, s2, s3, s4, s5⟩ := q2.1 n row e (i + c1.length) (t + 1) (f + 1) h1 a1 a2 (by rw [row1]; exact b3) (by omega) a5 (by omega) r2 (by rw [r5.lcc]; exact a8)
  have row2 : h2.1 row = h.1 row := by rw [s5.1 row (by omega) (by omega), row1]
  have ao : h2.1 row (i + c1.length + c2.length) = o := by rw [row2]; exact b4.1
  obtain ⟨o1, o2, o3, o4, o5⟩ := ho
  have e1 : X4_worthByLaw_55 n (f + (c1.length + (c2.length + 1))) row (zN e) (zN i) h = X4_worthByLaw_55 n (f + 1) row (zN e) (zN (i + c1.length + c2.length)) h2 := by
    rw [show f + (c1.length + (c2.length + 1)) = f + 1 + c2.length + c1.length by omega, r1, s1]
  have sr : h2.1 24 (t + 1) = v2 (lc h) := by rw [s3, r5.lcc]
  have sl : h2.1 24 t = v1 (lc h) := by rw [s4 t (by omega), r3]
  have nw : ∀ x : Int32, X4_worthByLaw_218 n (X4_worthByLaw_55 n f) row (zN e) (zN (i + c1.length + c2.length)) x (wI (wI h2 16 7 (zN (t + 1))) 16 7 (zN t)) = X4_worthByLaw_55 n f row (zN e) (zN (i + (c1.length + (c2.length + 1)))) (wI (wI (wI h2 16 7 (zN t)) 24 t x) 16 7 (zN (t + 1))) := fun x => by
    unfold X4_worthByLaw_218 X4_worthByLaw_221
    rw [wI_wI, c_push (t := t) (by rw [w_eq, u_eq]) (by omega), bd_some, sN1, show i + c1.length + c2.length + 1 = i + (c1.length + (c2.length + 1)) by omega]
  have hb := hw (v1 (lc h)) (v2 (lc h)) (wI (wI h2 16 7 (zN (t + 1))) 16 7 (zN t)) (q1.2 _ a8) (q2.2 _ a8)
  refine ⟨wI (wI (wI h2 16 7 (zN t)) 24 t (w (v1 (lc h)) (v2 (lc h)))) 16 7 (zN (t + 1)), ?_, by rw [w_eq, u_eq], by rw [w_ne (by decide), w_eq, u_eq], fun j hj => by rw [w_ne (by decide), w_eq, u_ne (by omega), w_ne (by decide), s4 j (by omega), r4 j hj], (r5.tr s5).tr ⟨fun q k1 k2 => by rw [w_ne k1, w_ne k2, w_ne k1], fun q hq => by rw [w_eq, u_ne hq, w_ne (by decide), w_eq, u_ne hq], rfl⟩⟩
  rw [e1, X4_worthByLaw_55]
  rw [if_neg (show ¬ zN e ≤ zN (i + c1.length + c2.length) by rw [zN_le (by omega) (by omega)]; omega), if_pos (show inB (zN (i + c1.length + c2.length)) (aln row) by rw [aln_row a1 a2, zN_inB (by omega)]; omega), zN_ix (by omega), ao, if_neg o1, if_pos o2, if_pos o3, if_pos o4, if_neg o5, c_pop (t := t + 1) s2 (by omega), bd_some, c_pop (t := t) (by rw [w_eq, u_eq]) (by omega), bd_some, w_ne (by decide : (24 : Nat) ≠ 16), sr, sl]
  by_cases z : o < -10
  · obtain ⟨b, x1, x2⟩ := hb.1 z
    rw [if_pos z, x1, bp_some, nw, nw, x2]
    cases b with
    | true => rw [if_pos rfl, if_pos rfl]
    | false => rw [if_neg (show ¬ (false = true) by decide), if_neg (show ¬ (false = true) by decide)]
  · rw [if_neg z, hb.2 z, bp_some, nw]
theorem CR_not {c : List Int32} {m : Nat} {v : (Nat → Int32) → Int32} (q : CR c m v) (hm : 1 ≤ m) : CR (c ++ [-16]) m (fun L => 1 - v L) := by
  intro n row e i t f h a1 a2 a3 a4 a5 a6 a7 a8
  obtain ⟨b1, b2⟩ := (At_app c [-16] i).mp a3
  have len : (c ++ [(-16 : Int32)]).length = c.length + 1 := by rw [List.length_append]; rfl
  rw [len] at a4 ⊢
  obtain ⟨h1, r1, r2, r3, r4, r5⟩ := q n row e i t (f + 1) h a1 a2 b1 (by omega) a5 (by omega) a7 a8
  have ao : h1.1 row (i + c.length) = -16 := by rw [r5.1 row (by omega) (by omega)]; exact b2.1
  refine ⟨wI (wI (wI h1 16 7 (zN t)) 24 t (1 - v (lc h))) 16 7 (zN (t + 1)), ?_, by rw [w_eq, u_eq], by rw [w_ne (by decide), w_eq, u_eq], fun j hj => by rw [w_ne (by decide), w_eq, u_ne (by omega), w_ne (by decide), r4 j hj], r5.tr ⟨fun q k1 k2 => by rw [w_ne k1, w_ne k2, w_ne k1], fun q hq => by rw [w_eq, u_ne hq, w_ne (by decide), w_eq, u_ne hq], rfl⟩⟩
  rw [show f + (c.length + 1) = f + 1 + c.length by omega, r1, X4_worthByLaw_55]
  unfold X4_worthByLaw_221
  rw [if_neg (show ¬ zN e ≤ zN (i + c.length) by rw [zN_le (by omega) (by omega)]; omega), if_pos (show inB (zN (i + c.length)) (aln row) by rw [aln_row a1 a2, zN_inB (by omega)]; omega), zN_ix (by omega), ao, if_neg (show ¬ (-16 : Int32) = -17 by decide), if_pos (show (-100 : Int32) < -16 by decide), if_pos (show (-16 : Int32) < 0 by decide), if_pos (show (-16 : Int32) ≤ -7 by decide), if_pos rfl, c_pop (t := t) r2 (by omega), bd_some, r3, c_push (t := t) (by rw [w_eq, u_eq]) (by omega), bd_some, sN1, Nat.add_assoc]
/-! what the signs make -/
def rk (x : Int64) : Int32 := zI (max (-1000000) (min 1000000 x.toInt))
theorem rk_bd (x : Int64) : lbd (rk x) := by unfold rk lbd; rw [zI_ti (by omega) (by omega)]; omega
theorem t64_32 (x : Int64) : x.toInt32 = zI x.toInt := by
  apply Int32.toInt_inj.mp
  rw [Int64.toInt_toInt32]
  show _ = (Int32.ofInt x.toInt).toInt
  rw [Int32.toInt_ofInt]
theorem ti_m : (1000000 : Int64).toInt = 1000000 := by decide
theorem ti_nm : (-1000000 : Int64).toInt = -1000000 := by decide
theorem c_rk (x : Int64) (h : Mm) : X4_reckon_58 x h = some (rk x) := by
  unfold X4_reckon_58 rk
  have e1 : (lg_cmp x 1000000 ≤ 0) ↔ x.toInt ≤ 1000000 := by
    have w := lg_cmp_gt x (1000000 : Int64)
    rw [Int64.lt_iff_toInt_lt, ti_m] at w
    rw [← Int32.not_lt, w]; omega
  have e2 : (0 ≤ lg_cmp x (-1000000)) ↔ -1000000 ≤ x.toInt := by
    have w := lg_cmp_lt x (-1000000 : Int64)
    rw [Int64.lt_iff_toInt_lt, ti_nm] at w
    rw [← Int32.not_lt, w]; omega
  by_cases a : x.toInt ≤ 1000000
  · rw [if_pos (e1.mpr a)]
    by_cases b : -1000000 ≤ x.toInt
    · rw [if_pos (e2.mpr b), t64_32, show max (-1000000) (min 1000000 x.toInt) = x.toInt by omega]
    · rw [if_neg (fun z => b (e2.mp z)), show max (-1000000) (min 1000000 x.toInt) = -1000000 by omega]; rfl
  · rw [if_neg (fun z => a (e1.mp z)), show max (-1000000) (min 1000000 x.toInt) = 1000000 by omega]; rfl
theorem m_rk (x : Int64) (h : Mm) : X12_within x h = some (rk x) := by
  unfold X12_within J9_min_f86c9 J9_max_f86c9 rk
  have e1 := lg_cmp_gt (1000000 : Int64) x
  rw [Int64.lt_iff_toInt_lt, ti_m] at e1
  by_cases a : x.toInt < 1000000
  · rw [if_pos (e1.mpr a), bp_some]
    have e2 := lg_cmp_lt (-1000000 : Int64) x
    rw [Int64.lt_iff_toInt_lt, ti_nm] at e2
    by_cases b : -1000000 < x.toInt
    · rw [if_pos (e2.mpr b), bp_some, t64_32, show max (-1000000) (min 1000000 x.toInt) = x.toInt by omega]
    · rw [if_neg (fun z => b (e2.mp z)), bp_some, t64_32, ti_nm, show max (-1000000) (min 1000000 x.toInt) = -1000000 by omega]
  · rw [if_neg (fun z => a (e1.mp z)), bp_some]
    have e2 := lg_cmp_lt (-1000000 : Int64) (1000000 : Int64)
    rw [Int64.lt_iff_toInt_lt, ti_nm, ti_m] at e2
    rw [if_pos (e2.mpr (by decide)), bp_some, t64_32, ti_m, show max (-1000000) (min 1000000 x.toInt) = 1000000 by omega]
def opA (l r : Int32) : Int32 := rk (l.toInt64 + r.toInt64)
def opS (l r : Int32) : Int32 := rk (l.toInt64 - r.toInt64)
def opM (l r : Int32) : Int32 := rk (l.toInt64 * r.toInt64)
def opD (l r : Int32) : Int32 := if r = 0 then rk 0 else rk (l.toInt64 / r.toInt64)
theorem bo_A : BinO (-7) opA := fun l r h _ _ => ⟨fun z => absurd z (by decide), fun _ => by unfold X4_reckon; rw [if_pos rfl, c_rk]; rfl⟩
theorem bo_S : BinO (-8) opS := fun l r h _ _ => ⟨fun z => absurd z (by decide), fun _ => by unfold X4_reckon; rw [if_neg (by decide), if_pos rfl, c_rk]; rfl⟩
theorem bo_M : BinO (-9) opM := fun l r h _ _ => ⟨fun z => absurd z (by decide), fun _ => by unfold X4_reckon; rw [if_neg (by decide), if_neg (by decide), if_pos rfl, c_rk]; rfl⟩
theorem bo_D : BinO (-10) opD := fun l r h hl _ => ⟨fun z => absurd z (by decide), fun _ => by
  unfold X4_reckon X4_reckon_57 opD
  rw [if_neg (show ¬ (-10 : Int32) = -7 by decide), if_neg (show ¬ (-10 : Int32) = -8 by decide), if_neg (show ¬ (-10 : Int32) = -9 by decide)]
  by_cases z : r = 0
  · rw [if_pos z, if_pos z, c_rk]
  · rw [if_neg z, if_neg z, if_pos z, c_rk, Int32.toInt64_div_of_ne_left l r (fun e => by
      have e2 := congrArg Int32.toInt e
      have e3 : (Int32.minValue).toInt = -2147483648 := by decide
      rw [e3] at e2
      have := hl.1; omega)]⟩
def b01 (b : Bool) : Int32 := if b = true then 1 else 0
def opE (l r : Int32) : Int32 := b01 (decide (l = r))
def opL (l r : Int32) : Int32 := b01 (decide (l < r))
def opG (l r : Int32) : Int32 := b01 (decide (r < l))
def opN (l r : Int32) : Int32 := b01 (decide (l ≠ 0 ∧ r ≠ 0))
def opO (l r : Int32) : Int32 := b01 (decide (l ≠ 0 ∨ r ≠ 0))
theorem bo_E : BinO (-11) opE := fun l r h _ _ => ⟨fun _ => ⟨decide (l = r), by
  unfold X4_compare
  rw [if_neg (by decide), if_neg (by decide), if_neg (by decide), if_pos rfl]
  by_cases z : l = r
  · rw [if_pos z, decide_eq_true z]
  · rw [if_neg z, decide_eq_false z], rfl⟩, fun z => absurd (show (-11 : Int32) < -10 by decide) z⟩
theorem bo_L : BinO (-12) opL := fun l r h _ _ => ⟨fun _ => ⟨decide (l < r), by
  unfold X4_compare
  rw [if_neg (by decide), if_neg (by decide), if_pos rfl]
  by_cases z : l < r
  · rw [if_neg (Int32.not_le.mpr z), decide_eq_true z]
  · rw [if_pos (Int32.not_lt.mp z), decide_eq_false z], rfl⟩, fun z => absurd (show (-12 : Int32) < -10 by decide) z⟩
theorem bo_G : BinO (-13) opG := fun l r h _ _ => ⟨fun _ => ⟨decide (r < l), by
  unfold X4_compare
  rw [if_neg (by decide), if_pos rfl]
  by_cases z : r < l
  · rw [if_neg (Int32.not_le.mpr z), decide_eq_true z]
  · rw [if_pos (Int32.not_lt.mp z), decide_eq_false z], rfl⟩, fun z => absurd (show (-13 : Int32) < -10 by decide) z⟩
theorem bo_N : BinO (-14) opN := fun l r h _ _ => ⟨fun _ => ⟨decide (l ≠ 0 ∧ r ≠ 0), by
  unfold X4_compare
  rw [if_pos rfl]
  by_cases z : l = 0
  · rw [if_pos z, decide_eq_false (fun w => w.1 z)]
  · rw [if_neg z]
    by_cases y : r = 0
    · rw [if_pos y, decide_eq_false (fun w => w.2 y)]
    · rw [if_neg y, decide_eq_true ⟨z, y⟩], rfl⟩, fun z => absurd (show (-14 : Int32) < -10 by decide) z⟩
theorem bo_O : BinO (-15) opO := fun l r h _ _ => ⟨fun _ => ⟨decide (l ≠ 0 ∨ r ≠ 0), by
  unfold X4_compare X4_compare_87
  rw [if_neg (by decide), if_neg (by decide), if_neg (by decide), if_neg (by decide)]
  by_cases z : l = 0
  · rw [if_pos z]
    by_cases y : r = 0
    · rw [if_pos y, decide_eq_false (fun w => w.elim (fun x => x z) (fun x => x y))]
    · rw [if_neg y, decide_eq_true (Or.inr y)]
  · rw [if_neg z, decide_eq_true (Or.inl z)], rfl⟩, fun z => absurd (show (-15 : Int32) < -10 by decide) z⟩
theorem b01_bd (b : Bool) : lbd (b01 b) := by cases b <;> (unfold lbd; decide)
