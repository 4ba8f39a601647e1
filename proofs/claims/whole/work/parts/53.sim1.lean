/-! simple answers -/
theorem ifout {x : Int32} {m : Nat} {α : Type} {a b : α} (hx : x < zN 0 ∨ zN m < x) : (if x < zN 0 then a else if x ≤ zN m then b else a) = a := by
  rcases hx with q | q
  · rw [if_pos q]
  · by_cases c : x < zN 0
    · rw [if_pos c]
    · rw [if_neg c, if_neg (Int32.not_le.mpr q)]
theorem ifout' {x : Int32} {m : Nat} {α : Type} {a b : α} (hx : x < zN 0 ∨ zN m < x) : (if x < zN 0 then a else if zN m < x then a else b) = a := by
  rcases hx with q | q
  · rw [if_pos q]
  · by_cases c : x < zN 0
    · rw [if_pos c]
    · rw [if_neg c, if_pos q]
theorem ifin {k m : Nat} {α : Type} {a b : α} (hk : k ≤ m) (hm : m < 2147483648) : (if zN k < zN 0 then a else if zN k ≤ zN m then b else a) = b := by
  rw [if_neg (zN_neg0 (by omega)), if_pos ((zN_le (by omega) hm).mpr hk)]
theorem ifin' {k m : Nat} {α : Type} {a b : α} (hk : k ≤ m) (hm : m < 2147483648) : (if zN k < zN 0 then a else if zN m < zN k then a else b) = b := by
  rw [if_neg (zN_neg0 (by omega)), if_neg (by rw [zN_lt hm (by omega)]; omega)]
theorem c_isKind_y {k : Nat} {h : Mm} (hk : k < 4) : X11_isKind (zN k) h = some true := by
  unfold X11_isKind
  simp only [zN_lit, zN_add, zN_mul, bp_some, bd_some, w_eq, w_2, wl_1, u_eq, wr_eq, wr_2, Nat.reduceAdd, Nat.reduceMul, Nat.reduceSub]
  rw [if_neg (zN_neg0 (by omega)), if_neg (by rw [zN_le (by decide) (by omega)]; omega)]
theorem c_isKind_n {x : Int32} {h : Mm} (hx : x < zN 0 ∨ zN 3 < x) : X11_isKind x h = some false := by
  unfold X11_isKind
  simp only [zN_lit, zN_add, zN_mul, bp_some, bd_some, w_eq, w_2, wl_1, u_eq, wr_eq, wr_2, Nat.reduceAdd, Nat.reduceMul, Nat.reduceSub]
  rcases i32_cases x with c | ⟨k, hk, rfl⟩
  · rw [if_pos c]
  · rw [if_neg (zN_neg0 hk), if_pos]
    rcases hx with q | q
    · exact absurd q (zN_neg0 hk)
    · rw [zN_lt (by decide) hk] at q
      rw [zN_le (by decide) hk]; omega
theorem sim_rule (n : Nat) : Sim_rule n (R n) := by
  intro x1 h g hR
  have hR0 := hR.thr 0
  obtain ⟨B, H, nm, A, nx, E, nw, sn, s, tp, nl, hd, f, hL, ⟨-, -, ⟨be, hB, -, -, -⟩, -⟩, -⟩ := id hR0
  unfold X11_rule X12_rule
  generalize wI g 251 0 (0 : Int32) = g0 at *
  obtain ⟨-, -, b3, -⟩ := hB
  have z := hL.2.1.2.1
  simp (disch := omega) only [c_stands hL, hL.1.2.2.2, c_enough hL, c_loses hL, zN_lit, zN_add, zN_mul, bp_some, bd_some, w_eq, w_2, wl_1, u_eq, wr_eq, wr_2, Nat.reduceAdd, Nat.reduceMul, Nat.reduceSub, zN_eq, b3.1]
  by_cases hH : H = 0
  · subst hH
    exact ⟨_, _, rfl, rfl, hR0⟩
  · rw [decide_eq_true (show 0 < H by omega), if_pos rfl, if_neg hH]
    rcases what x1 2 (by decide) with ⟨k, hk, rfl⟩ | ⟨hx, hx2⟩
    · rw [m_in (m := 2) (L := 0) (U := 2) (by decide) ⟨k, hk, rfl⟩ rfl rfl]
      obtain rfl | rfl | rfl : k = 0 ∨ k = 1 ∨ k = 2 := by omega
      · exact ⟨_, _, rfl, by simp (disch := omega) only [zN_lit, zN_add, zN_mul, bp_some, bd_some, w_eq, w_2, wl_1, u_eq, wr_eq, wr_2, Nat.reduceAdd, Nat.reduceMul, Nat.reduceSub, al_2, al_5, al_6, al_8, al_10, al_11, al_12, al_14, al_15, al_18, al_19, al_20, al_21, al_22, al_23, al_24, al_25, al_28, al_29, al_30, al_31, al_33, al_34, al_35, al_36, al_39, al_41, al_42, al_43, al_44, al_45, al_247, al_248, al_250, al_252, al_253, al_254, al_255, al_256, al_257, al_258, al_259, al_260, al_261, al_262, al_263, al_264, al_265, al_266, al_267, al_268, al_269, al_270, al_271, al_272, al_273, al_1001, al_1002, al_1003, al_1004, al_1005, al_1006, al_1007, zN_inB, zN_ix, b3.2.1]; rfl, hR0⟩
      · have e := (hL.2.2.1 1 (by decide)).2
        exact ⟨_, _, rfl, by simp (disch := omega) only [zN_lit, zN_add, zN_mul, bp_some, bd_some, w_eq, w_2, wl_1, u_eq, wr_eq, wr_2, Nat.reduceAdd, Nat.reduceMul, Nat.reduceSub, al_2, al_5, al_6, al_8, al_10, al_11, al_12, al_14, al_15, al_18, al_19, al_20, al_21, al_22, al_23, al_24, al_25, al_28, al_29, al_30, al_31, al_33, al_34, al_35, al_36, al_39, al_41, al_42, al_43, al_44, al_45, al_247, al_248, al_250, al_252, al_253, al_254, al_255, al_256, al_257, al_258, al_259, al_260, al_261, al_262, al_263, al_264, al_265, al_266, al_267, al_268, al_269, al_270, al_271, al_272, al_273, al_1001, al_1002, al_1003, al_1004, al_1005, al_1006, al_1007, zN_inB, zN_ix, e]; rfl, hR0⟩
      · have e := (hL.2.2.1 2 (by decide)).2
        exact ⟨_, _, rfl, by simp (disch := omega) only [zN_lit, zN_add, zN_mul, bp_some, bd_some, w_eq, w_2, wl_1, u_eq, wr_eq, wr_2, Nat.reduceAdd, Nat.reduceMul, Nat.reduceSub, al_2, al_5, al_6, al_8, al_10, al_11, al_12, al_14, al_15, al_18, al_19, al_20, al_21, al_22, al_23, al_24, al_25, al_28, al_29, al_30, al_31, al_33, al_34, al_35, al_36, al_39, al_41, al_42, al_43, al_44, al_45, al_247, al_248, al_250, al_252, al_253, al_254, al_255, al_256, al_257, al_258, al_259, al_260, al_261, al_262, al_263, al_264, al_265, al_266, al_267, al_268, al_269, al_270, al_271, al_272, al_273, al_1001, al_1002, al_1003, al_1004, al_1005, al_1006, al_1007, zN_inB, zN_ix, e]; rfl, hR0⟩
    · rw [m_out (m := 2) (L := 0) (U := 2) hx rfl rfl, ifout hx]
      exact ⟨_, _, rfl, rfl, hR0⟩
theorem sim_bored (n : Nat) : Sim_bored n (R n) := by
  intro x1 h g hR
  have hR0 := hR.thr 0
  obtain ⟨B, H, nm, A, nx, E, nw, sn, s, tp, nl, hd, f, hL, ⟨-, -, ⟨be, hB, -, -, -⟩, -⟩, -⟩ := id hR0
  unfold X11_bored X12_bored
  generalize wI g 251 0 (0 : Int32) = g0 at *
  obtain ⟨-, b2, -⟩ := hB
  have z := hL.2.1.2.1
  simp (disch := omega) only [c_stands hL, hL.1.2.2.2, zN_lit, zN_add, zN_mul, bp_some, bd_some, w_eq, w_2, wl_1, u_eq, wr_eq, wr_2, Nat.reduceAdd, Nat.reduceMul, Nat.reduceSub, zN_le]
  by_cases hH : H = 0
  · subst hH
    exact ⟨_, _, rfl, rfl, hR0⟩
  · rw [decide_eq_true (show 0 < H by omega), if_pos rfl, if_neg (show ¬ H ≤ 0 by omega)]
    rcases what x1 3 (by decide) with ⟨k, hk, rfl⟩ | ⟨hx, hx2⟩
    · rw [m_in (m := 3) (L := 0) (U := 3) (by decide) ⟨k, hk, rfl⟩ rfl rfl]
      obtain ⟨e1, e2, -⟩ := b2 k (by omega)
      simp (disch := omega) only [zN_lit, zN_add, zN_mul, bp_some, bd_some, w_eq, w_2, wl_1, u_eq, wr_eq, wr_2, Nat.reduceAdd, Nat.reduceMul, Nat.reduceSub, al_2, al_5, al_6, al_8, al_10, al_11, al_12, al_14, al_15, al_18, al_19, al_20, al_21, al_22, al_23, al_24, al_25, al_28, al_29, al_30, al_31, al_33, al_34, al_35, al_36, al_39, al_41, al_42, al_43, al_44, al_45, al_247, al_248, al_250, al_252, al_253, al_254, al_255, al_256, al_257, al_258, al_259, al_260, al_261, al_262, al_263, al_264, al_265, al_266, al_267, al_268, al_269, al_270, al_271, al_272, al_273, al_1001, al_1002, al_1003, al_1004, al_1005, al_1006, al_1007, zN_inB, zN_ix, e2, e1, at_28, c_isKind_y, if_true]
      rw [if_pos (by omega)]
      exact ⟨_, _, rfl, rfl, hR0⟩
    · rw [m_out (m := 3) (L := 0) (U := 3) hx rfl rfl]
      rw [c_isKind_n hx]
      exact ⟨_, _, rfl, rfl, hR0⟩
theorem sim_tome (n : Nat) : Sim_tome n (R n) := by
  intro x1 x2 h g hR
  have hR0 := hR.thr 0
  obtain ⟨B, H, nm, A, nx, E, nw, sn, s, tp, nl, hd, f, hL, ⟨-, -, ⟨be, hB, -, -, -⟩, -⟩, -⟩ := id hR0
  unfold X11_tome X12_tome
  generalize wI g 251 0 (0 : Int32) = g0 at *
  obtain ⟨-, -, -, -, -, ⟨-, -, b9⟩, -⟩ := hB
  have z := hL.2.1.1
  rcases idx x1 B with ⟨b, hb, rfl⟩ | hx
  · simp only [c_hasBook_y hL hb, m_isBook_y hL hb, bp_some, if_true]
    rcases what x2 3 (by decide) with ⟨k, hk, rfl⟩ | ⟨hx, hx2⟩
    · rw [m_in (m := 3) (L := 0) (U := 3) (by decide) ⟨k, hk, rfl⟩ rfl rfl]
      simp only [c_pages hL hb, c_calming hL hb, c_kind hL hb, zN_lit, zN_add, zN_mul, bp_some, bd_some, w_eq, w_2, wl_1, u_eq, wr_eq, wr_2, Nat.reduceAdd, Nat.reduceMul, Nat.reduceSub, al_2, al_5, al_6, al_8, al_10, al_11, al_12, al_14, al_15, al_18, al_19, al_20, al_21, al_22, al_23, al_24, al_25, al_28, al_29, al_30, al_31, al_33, al_34, al_35, al_36, al_39, al_41, al_42, al_43, al_44, al_45, al_247, al_248, al_250, al_252, al_253, al_254, al_255, al_256, al_257, al_258, al_259, al_260, al_261, al_262, al_263, al_264, al_265, al_266, al_267, al_268, al_269, al_270, al_271, al_272, al_273, al_1001, al_1002, al_1003, al_1004, al_1005, al_1006, al_1007]
      obtain rfl | rfl | rfl | rfl : k = 0 ∨ k = 1 ∨ k = 2 ∨ k = 3 := by omega
      · have e := (hL.2.2.2.1 (3 * b) (by omega)).2
        simp (disch := omega) only [zN_eq, zN_inB, zN_ix, Nat.add_zero, e, if_true]
        rw [if_neg (by decide), if_pos (by omega)]
        exact ⟨_, _, rfl, rfl, hR0⟩
      · have e := (hL.2.2.2.1 (3 * b + 1) (by omega)).2
        simp (disch := omega) only [zN_eq, zN_inB, zN_ix, e, if_true]
        rw [if_neg (by decide), if_neg (by decide), if_pos (by omega)]
        exact ⟨_, _, rfl, rfl, hR0⟩
      · have e := (hL.2.2.2.1 (3 * b + 2) (by omega)).2
        simp (disch := omega) only [zN_eq, zN_inB, zN_ix, e, if_true]
        rw [if_neg (by decide), if_neg (by decide), if_neg (by decide), if_pos (by omega)]
        exact ⟨_, _, rfl, rfl, hR0⟩
      · simp (disch := omega) only [zN_eq, zN_inB, zN_ix, if_true, X0_wasRead, b9, zN_lit, zN_add, zN_mul, bp_some, bd_some, w_eq, w_2, wl_1, u_eq, wr_eq, wr_2, Nat.reduceAdd, Nat.reduceMul, Nat.reduceSub]
        rw [if_neg (by decide), if_neg (by decide), if_neg (by decide)]
        rcases and1 (g0.1 264 24 >>> (zN b &&& zN 31)) with q | q
        · simp only [q]; exact ⟨_, _, rfl, rfl, hR0⟩
        · simp only [q]; exact ⟨_, _, rfl, rfl, hR0⟩
    · rw [m_out (m := 3) (L := 0) (U := 3) hx rfl rfl]
      have q0 := hx2 0 (by decide); have q1 := hx2 1 (by decide); have q2 := hx2 2 (by decide); have q3 := hx2 3 (by decide)
      simp only [zN_lit, zN_add, zN_mul, bp_some, bd_some, w_eq, w_2, wl_1, u_eq, wr_eq, wr_2, Nat.reduceAdd, Nat.reduceMul, Nat.reduceSub, if_neg q0, if_neg q1, if_neg q2, if_neg q3]
      exact ⟨_, _, rfl, rfl, hR0⟩
  · simp only [c_hasBook_n hL hx, m_isBook_n hL hx, bp_some]
    exact ⟨_, _, rfl, rfl, hR0⟩
theorem sim_left (n : Nat) : Sim_left n (R n) := by
  intro x1 h g hR
  have hR0 := hR.thr 0
  obtain ⟨B, H, nm, A, nx, E, nw, sn, s, tp, nl, hd, f, hL, ⟨-, -, ⟨be, hB, -, -, -⟩, -⟩, -⟩ := id hR0
  unfold X11_left X12_left X9_leftOf
  generalize wI g 251 0 (0 : Int32) = g0 at *
  obtain ⟨b1, -⟩ := hB
  have z := hL.2.1.2.1
  rcases idx x1 H with ⟨b, hb, rfl⟩ | hx
  · obtain ⟨⟨e1, -, -⟩, ⟨e2, -, -⟩, -⟩ := b1 b hb
    simp (disch := omega) only [c_hasHouse_y hL hb, m_isHouse_y hL hb, c_strength hL hb, m_strength hL hb, zN_lit, zN_add, zN_mul, bp_some, bd_some, w_eq, w_2, wl_1, u_eq, wr_eq, wr_2, Nat.reduceAdd, Nat.reduceMul, Nat.reduceSub, al_2, al_5, al_6, al_8, al_10, al_11, al_12, al_14, al_15, al_18, al_19, al_20, al_21, al_22, al_23, al_24, al_25, al_28, al_29, al_30, al_31, al_33, al_34, al_35, al_36, al_39, al_41, al_42, al_43, al_44, al_45, al_247, al_248, al_250, al_252, al_253, al_254, al_255, al_256, al_257, al_258, al_259, al_260, al_261, al_262, al_263, al_264, al_265, al_266, al_267, al_268, al_269, al_270, al_271, al_272, al_273, al_1001, al_1002, al_1003, al_1004, al_1005, al_1006, al_1007, at_29, e1, zN_inB, zN_ix, Nat.add_zero, e2, if_true]
    rw [if_pos (by omega)]
    exact ⟨_, _, rfl, rfl, hR0⟩
  · simp only [c_hasHouse_n hL hx, m_isHouse_n hL hx, bp_some]
    exact ⟨_, _, rfl, rfl, hR0⟩
theorem sim_house (n : Nat) : Sim_house (R n) := by
  intro x1 x2 h g hR
  obtain ⟨B, H, nm, A, nx, E, nw, sn, s, tp, nl, hd, f, hL, ⟨-, -, ⟨be, hB, -, -, -⟩, -⟩, -⟩ := id hR
  obtain ⟨b1, -⟩ := hB
  have z := hL.2.1.2.1
  by_cases ok : (∃ b, b < H ∧ x1 = zN b) ∧ ∃ k, k ≤ 4 ∧ x2 = zN k
  · left
    obtain ⟨⟨b, hb, rfl⟩, k, hk, rfl⟩ := ok
    obtain ⟨⟨e1, e2, e3⟩, ⟨f1, f2, f3⟩, -⟩ := b1 b hb
    have e0 := (hL.2.2.2.2.1 (3 * b) (by omega)).2
    have e9 := (hL.2.2.2.2.1 (3 * b + 1) (by omega)).2
    have key : ∀ v : Int32, X11_house (zN b) (zN k) h = some v → X12_house_26 (zN b) (zN k) false (wL g 273 0 v.toInt64) = some (v, wI (wL g 273 0 v.toInt64) 251 0 (zN 0)) → ∃ (v : Int32) (g2 : Mm), X11_house (zN b) (zN k) h = some v ∧ X12_house (zN b) (zN k) (wL g 273 0 v.toInt64) = some (v, g2) ∧ g2.1 251 0 = 0 ∧ g2.2 273 0 = v.toInt64 ∧ R n h g2 := by
      intro v q1 q2
      refine ⟨v, wI (wL g 273 0 v.toInt64) 251 0 (zN 0), q1, ?_, rfl, rfl, hR.cg AgC.rf (AgM.tr (AgM.l (by decide)) (AgM.w rfl))⟩
      unfold X12_house
      rw [m_isHouse_y (h := h) (g := wL g 273 0 v.toInt64) hL hb, bp_some, if_pos rfl, m_in (m := 4) (L := 0) (U := 4) (by decide) ⟨k, hk, rfl⟩ rfl rfl, bp_some, if_pos rfl]
      exact q2
    have hh : X11_house (zN b) (zN k) h = (if zN k = 0 then some (zN (nm (21 + 3 * b))) else if zN k = 1 then some (zN (nm (21 + (3 * b + 1)))) else if zN k = 2 then some (zN (be (3 * b + 1))) else if zN k = 3 then some (zN (be (3 * b))) else some (zN (be (3 * b + 2)))) := by
      unfold X11_house
      simp only [zN_lit]
      rw [c_hasHouse_y hL hb, bp_some, if_pos rfl, if_neg (zN_neg0 (by omega)), if_pos ((zN_le (by omega) (by decide)).mpr hk), c_children hL hb, c_strength hL hb, at_29 (by omega), at_30 (by omega), at_31 (by omega), e1, e2, e3]
      rfl
    obtain rfl | rfl | rfl | rfl | rfl : k = 0 ∨ k = 1 ∨ k = 2 ∨ k = 3 ∨ k = 4 := by omega
    · refine key _ hh ?_
      unfold X12_house_26
      simp (disch := omega) only [zN_lit, zN_add, zN_mul, bp_some, bd_some, w_eq, w_2, wl_1, u_eq, wr_eq, wr_2, Nat.reduceAdd, Nat.reduceMul, Nat.reduceSub, al_2, al_5, al_6, al_8, al_10, al_11, al_12, al_14, al_15, al_18, al_19, al_20, al_21, al_22, al_23, al_24, al_25, al_28, al_29, al_30, al_31, al_33, al_34, al_35, al_36, al_39, al_41, al_42, al_43, al_44, al_45, al_247, al_248, al_250, al_252, al_253, al_254, al_255, al_256, al_257, al_258, al_259, al_260, al_261, al_262, al_263, al_264, al_265, al_266, al_267, al_268, al_269, al_270, al_271, al_272, al_273, al_1001, al_1002, al_1003, al_1004, al_1005, al_1006, al_1007, b2i_f, zN_inB, zN_ix, w_ne, e0]
      rw [if_pos (by decide), if_pos trivial, if_pos (by omega)]
    · refine key _ hh ?_
      unfold X12_house_26 X12_strength
      simp (disch := omega) only [zN_lit, zN_add, zN_mul, bp_some, bd_some, w_eq, w_2, wl_1, u_eq, wr_eq, wr_2, Nat.reduceAdd, Nat.reduceMul, Nat.reduceSub, al_2, al_5, al_6, al_8, al_10, al_11, al_12, al_14, al_15, al_18, al_19, al_20, al_21, al_22, al_23, al_24, al_25, al_28, al_29, al_30, al_31, al_33, al_34, al_35, al_36, al_39, al_41, al_42, al_43, al_44, al_45, al_247, al_248, al_250, al_252, al_253, al_254, al_255, al_256, al_257, al_258, al_259, al_260, al_261, al_262, al_263, al_264, al_265, al_266, al_267, al_268, al_269, al_270, al_271, al_272, al_273, al_1001, al_1002, al_1003, al_1004, al_1005, al_1006, al_1007, b2i_f, zN_inB, zN_ix, w_ne, e9]
      rw [if_pos (by decide), if_neg (by decide), if_pos trivial, if_pos (by omega)]; rfl
    · refine key _ hh ?_
      unfold X12_house_26
      simp (disch := omega) only [zN_lit, zN_add, zN_mul, bp_some, bd_some, w_eq, w_2, wl_1, u_eq, wr_eq, wr_2, Nat.reduceAdd, Nat.reduceMul, Nat.reduceSub, al_2, al_5, al_6, al_8, al_10, al_11, al_12, al_14, al_15, al_18, al_19, al_20, al_21, al_22, al_23, al_24, al_25, al_28, al_29, al_30, al_31, al_33, al_34, al_35, al_36, al_39, al_41, al_42, al_43, al_44, al_45, al_247, al_248, al_250, al_252, al_253, al_254, al_255, al_256, al_257, al_258, al_259, al_260, al_261, al_262, al_263, al_264, al_265, al_266, al_267, al_268, al_269, al_270, al_271, al_272, al_273, al_1001, al_1002, al_1003, al_1004, al_1005, al_1006, al_1007, b2i_f, zN_inB, zN_ix, w_ne, f2]
      rw [if_pos (by decide), if_neg (by decide), if_neg (by decide), if_pos trivial, if_pos (by omega)]
    · refine key _ hh ?_
      unfold X12_house_26
      simp (disch := omega) only [zN_lit, zN_add, zN_mul, bp_some, bd_some, w_eq, w_2, wl_1, u_eq, wr_eq, wr_2, Nat.reduceAdd, Nat.reduceMul, Nat.reduceSub, al_2, al_5, al_6, al_8, al_10, al_11, al_12, al_14, al_15, al_18, al_19, al_20, al_21, al_22, al_23, al_24, al_25, al_28, al_29, al_30, al_31, al_33, al_34, al_35, al_36, al_39, al_41, al_42, al_43, al_44, al_45, al_247, al_248, al_250, al_252, al_253, al_254, al_255, al_256, al_257, al_258, al_259, al_260, al_261, al_262, al_263, al_264, al_265, al_266, al_267, al_268, al_269, al_270, al_271, al_272, al_273, al_1001, al_1002, al_1003, al_1004, al_1005, al_1006, al_1007, b2i_f, zN_inB, zN_ix, w_ne, Nat.add_zero, f1]
      rw [if_pos (by decide), if_neg (by decide), if_neg (by decide), if_neg (by decide), if_pos trivial, if_pos (by omega)]
    · refine key _ hh ?_
      unfold X12_house_26
      simp (disch := omega) only [zN_lit, zN_add, zN_mul, bp_some, bd_some, w_eq, w_2, wl_1, u_eq, wr_eq, wr_2, Nat.reduceAdd, Nat.reduceMul, Nat.reduceSub, al_2, al_5, al_6, al_8, al_10, al_11, al_12, al_14, al_15, al_18, al_19, al_20, al_21, al_22, al_23, al_24, al_25, al_28, al_29, al_30, al_31, al_33, al_34, al_35, al_36, al_39, al_41, al_42, al_43, al_44, al_45, al_247, al_248, al_250, al_252, al_253, al_254, al_255, al_256, al_257, al_258, al_259, al_260, al_261, al_262, al_263, al_264, al_265, al_266, al_267, al_268, al_269, al_270, al_271, al_272, al_273, al_1001, al_1002, al_1003, al_1004, al_1005, al_1006, al_1007, b2i_f, zN_inB, zN_ix, w_ne, f3]
      rw [if_pos (by decide), if_neg (by decide), if_neg (by decide), if_neg (by decide), if_neg (by decide), if_pos (by omega)]
  · right
    have hg : R n h (wI g 251 0 (zN 1)) := hR.thr _
    have m26 : X12_house_26 x1 x2 true g = some (0, wI g 251 0 (zN 1)) := by
      unfold X12_house_26
      simp only [zN_lit, zN_add, zN_mul, bp_some, bd_some, w_eq, w_2, wl_1, u_eq, wr_eq, wr_2, Nat.reduceAdd, Nat.reduceMul, Nat.reduceSub, b2i_t]
      rw [if_neg (by decide)]
    rcases idx x1 H with ⟨b, hb, rfl⟩ | hx
    · refine ⟨true, 0, wI g 251 0 (zN 1), c_hasHouse_y hL hb, Or.inr ?_, ?_, rfl, hg⟩
      · rcases what x2 4 (by decide) with ⟨k, hk, rfl⟩ | ⟨q, -⟩
        · exact absurd ⟨⟨b, hb, rfl⟩, k, hk, rfl⟩ ok
        · exact q
      · unfold X12_house
        simp only [m_isHouse_y hL hb, bp_some, if_true]
        rcases what x2 4 (by decide) with ⟨k, hk, rfl⟩ | ⟨q, -⟩
        · exact absurd ⟨⟨b, hb, rfl⟩, k, hk, rfl⟩ ok
        · rw [m_out (m := 4) (L := 0) (U := 4) q rfl rfl]
          exact m26
    · refine ⟨false, 0, wI g 251 0 (zN 1), c_hasHouse_n hL hx, Or.inl rfl, ?_, rfl, hg⟩
      unfold X12_house
      simp only [m_isHouse_n hL hx, bp_some]
      exact m26
theorem quiet_loop {n B H : Nat} {nm : Nat → Nat} {h g : Mm} (hL : LandR B H nm (h.1 14) (h.1 15) (g.1 251) (g.1 256) (g.1 258) (g.1 260)) : ∀ (d f f' k c : Nat), k + d = 61 → d < f → d < f' → c ≤ 99 → ∃ r, X6_nightsToQuiet_10 n f (zN c) (zN k) h = some r ∧ X12_quiet_24 n f' (zN c) (zN k) g = some (r, g) := by
  intro d
  induction d with
  | zero =>
    intro f f' k c hk hf hf' hc
    obtain ⟨f, rfl⟩ : ∃ m, f = m + 1 := ⟨f - 1, by omega⟩
    obtain ⟨f', rfl⟩ : ∃ m, f' = m + 1 := ⟨f' - 1, by omega⟩
    unfold X6_nightsToQuiet_10 X12_quiet_24
    simp (disch := omega) only [zN_lit, zN_add, zN_mul, bp_some, bd_some, w_eq, w_2, wl_1, u_eq, wr_eq, wr_2, Nat.reduceAdd, Nat.reduceMul, Nat.reduceSub, zN_lt]
    rw [if_pos (by omega), if_pos (by omega)]
    exact ⟨_, rfl, rfl⟩
  | succ d ih =>
    intro f f' k c hk hf hf' hc
    obtain ⟨f, rfl⟩ : ∃ m, f = m + 1 := ⟨f - 1, by omega⟩
    obtain ⟨f', rfl⟩ : ∃ m, f' = m + 1 := ⟨f' - 1, by omega⟩
    unfold X6_nightsToQuiet_10 X12_quiet_24
    simp (disch := omega) only [zN_lit, zN_add, zN_mul, bp_some, bd_some, w_eq, w_2, wl_1, u_eq, wr_eq, wr_2, Nat.reduceAdd, Nat.reduceMul, Nat.reduceSub, zN_lt, zN_eq, c_behind hL hc, m_behind hL hc, if_neg (show ¬ 60 < k by omega)]
    by_cases q : c = 0
    · simp only [if_pos q]; exact ⟨_, rfl, rfl⟩
    · simp only [if_neg q]
      exact ih f f' (k + 1) (ncalm nm c) (by omega) (by omega) (by omega) (ncalm_le hc)
theorem sim_quiet (n : Nat) (hn : 20000 ≤ n) : Sim_quiet n (R n) := by
  intro h g hR
  have hR0 := hR.thr 0
  obtain ⟨B, H, nm, A, nx, E, nw, sn, s, tp, nl, hd, f, hL, ⟨-, -, ⟨be, hB, -, -, -⟩, -⟩, -⟩ := id hR0
  unfold X11_quiet X12_quiet X6_nightsToQuiet
  generalize wI g 251 0 (0 : Int32) = g0 at *
  obtain ⟨-, -, b3, -⟩ := hB
  have z := hL.2.1.2.1
  simp (disch := omega) only [c_stands hL, hL.1.2.2.2, zN_lit, zN_add, zN_mul, bp_some, bd_some, w_eq, w_2, wl_1, u_eq, wr_eq, wr_2, Nat.reduceAdd, Nat.reduceMul, Nat.reduceSub, al_2, al_5, al_6, al_8, al_10, al_11, al_12, al_14, al_15, al_18, al_19, al_20, al_21, al_22, al_23, al_24, al_25, al_28, al_29, al_30, al_31, al_33, al_34, al_35, al_36, al_39, al_41, al_42, al_43, al_44, al_45, al_247, al_248, al_250, al_252, al_253, al_254, al_255, al_256, al_257, al_258, al_259, al_260, al_261, al_262, al_263, al_264, al_265, al_266, al_267, al_268, al_269, al_270, al_271, al_272, al_273, al_1001, al_1002, al_1003, al_1004, al_1005, al_1006, al_1007, zN_eq, zN_inB, zN_ix, b3.1, b3.2.1]
  by_cases hH : H = 0
  · subst hH
    exact ⟨_, _, rfl, rfl, hR0⟩
  · rw [decide_eq_true (show 0 < H by omega), if_pos rfl, if_neg hH]
    obtain ⟨r, e1, e2⟩ := quiet_loop (n := n) hL 61 n n 0 (be 22) (by omega) (by omega) (by omega) b3.2.2
    rw [e1, if_pos (by decide), e2]
    exact ⟨_, _, rfl, rfl, hR0⟩
theorem odds_loop {n B H b : Nat} {nm : Nat → Nat} {h g : Mm} (hL : LandR B H nm (h.1 14) (h.1 15) (g.1 251) (g.1 256) (g.1 258) (g.1 260)) (hb : b < H) (c : Int32) : ∀ (d f f' k : Nat) (p : Int32), k + d = 10 → d < f → d < f' → ∃ r, X11_odds_30 n f (zN b) c p (zN k) h = some r ∧ X12_odds_34 n f' (zN b) c p (zN k) g = some (r, g) := by
  have z := hL.2.1.2.1
  have z2 := (hL.2.2.2.2.2.2.2 b hb).1
  have e0 := (hL.2.2.2.2.1 (3 * b) (by omega)).2
  intro d
  induction d with
  | zero =>
    intro f f' k p hk hf hf'
    obtain ⟨f, rfl⟩ : ∃ m, f = m + 1 := ⟨f - 1, by omega⟩
    obtain ⟨f', rfl⟩ : ∃ m, f' = m + 1 := ⟨f' - 1, by omega⟩
    unfold X11_odds_30 X12_odds_34
    simp (disch := omega) only [zN_lit, zN_add, zN_mul, bp_some, bd_some, w_eq, w_2, wl_1, u_eq, wr_eq, wr_2, Nat.reduceAdd, Nat.reduceMul, Nat.reduceSub, al_2, al_5, al_6, al_8, al_10, al_11, al_12, al_14, al_15, al_18, al_19, al_20, al_21, al_22, al_23, al_24, al_25, al_28, al_29, al_30, al_31, al_33, al_34, al_35, al_36, al_39, al_41, al_42, al_43, al_44, al_45, al_247, al_248, al_250, al_252, al_253, al_254, al_255, al_256, al_257, al_258, al_259, al_260, al_261, al_262, al_263, al_264, al_265, al_266, al_267, al_268, al_269, al_270, al_271, al_272, al_273, al_1001, al_1002, al_1003, al_1004, al_1005, al_1006, al_1007, zN_le, c_children hL hb, zN_inB, zN_ix, e0]
    rw [if_pos (by omega), if_pos (by omega), if_pos (by omega)]
    exact ⟨_, rfl, rfl⟩
  | succ d ih =>
    intro f f' k p hk hf hf'
    obtain ⟨f, rfl⟩ : ∃ m, f = m + 1 := ⟨f - 1, by omega⟩
    obtain ⟨f', rfl⟩ : ∃ m, f' = m + 1 := ⟨f' - 1, by omega⟩
    unfold X11_odds_30 X12_odds_34
    simp (disch := omega) only [zN_lit, zN_add, zN_mul, bp_some, bd_some, w_eq, w_2, wl_1, u_eq, wr_eq, wr_2, Nat.reduceAdd, Nat.reduceMul, Nat.reduceSub, al_2, al_5, al_6, al_8, al_10, al_11, al_12, al_14, al_15, al_18, al_19, al_20, al_21, al_22, al_23, al_24, al_25, al_28, al_29, al_30, al_31, al_33, al_34, al_35, al_36, al_39, al_41, al_42, al_43, al_44, al_45, al_247, al_248, al_250, al_252, al_253, al_254, al_255, al_256, al_257, al_258, al_259, al_260, al_261, al_262, al_263, al_264, al_265, al_266, al_267, al_268, al_269, al_270, al_271, al_272, al_273, al_1001, al_1002, al_1003, al_1004, al_1005, al_1006, al_1007, zN_le, c_children hL hb, zN_inB, zN_ix, e0]
    rw [if_pos (show 3 * b < 18 by omega)]
    by_cases q : nm (21 + 3 * b) ≤ k
    · rw [if_pos q, if_pos q]; exact ⟨_, rfl, rfl⟩
    · rw [if_neg q, if_neg q]
      exact ih f f' (k + 1) _ (by omega) (by omega) (by omega)
theorem sim_odds (n : Nat) (hn : 20000 ≤ n) : Sim_odds n (R n) := by
  intro x1 x2 h g hR
  have hR0 := hR.thr 0
  obtain ⟨B, H, nm, A, nx, E, nw, sn, s, tp, nl, hd, f, hL, -⟩ := id hR0
  unfold X11_odds X12_odds
  generalize wI g 251 0 (0 : Int32) = g0 at *
  rcases idx x1 H with ⟨b, hb, rfl⟩ | hx
  · simp only [c_hasHouse_y hL hb, m_isHouse_y hL hb, bp_some, if_true]
    rcases what x2 100 (by decide) with ⟨k, hk, rfl⟩ | ⟨hx, hx2⟩
    · rw [m_in (m := 100) (L := 0) (U := 100) (by decide) ⟨k, hk, rfl⟩ rfl rfl]
      simp only [zN_lit, zN_add, zN_mul, bp_some, bd_some, w_eq, w_2, wl_1, u_eq, wr_eq, wr_2, Nat.reduceAdd, Nat.reduceMul, Nat.reduceSub, if_true, ifin hk (by decide)]
      obtain ⟨r, e1, e2⟩ := odds_loop (n := n) hL hb (zN k) 10 n n 0 (zN 1000000) (by omega) (by omega) (by omega)
      rw [e1, e2]
      exact ⟨_, _, rfl, rfl, hR0⟩
    · rw [m_out (m := 100) (L := 0) (U := 100) hx rfl rfl]
      simp only [zN_lit, zN_add, zN_mul, bp_some, bd_some, w_eq, w_2, wl_1, u_eq, wr_eq, wr_2, Nat.reduceAdd, Nat.reduceMul, Nat.reduceSub, ifout hx]
      exact ⟨_, _, rfl, rfl, hR0⟩
  · simp only [c_hasHouse_n hL hx, m_isHouse_n hL hx, bp_some]
    exact ⟨_, _, rfl, rfl, hR0⟩
theorem sim_hush (n : Nat) : Sim_hush n (R n) := by
  intro x1 h g hR
  have hR0 := hR.thr 0
  obtain ⟨B, H, nm, A, nx, E, nw, sn, s, tp, nl, hd, f, hL, hP, hI, hW, hS, hT, hC, hM, hu⟩ := id hR0
  unfold X11_hush X12_hush
  generalize wI g 251 0 (0 : Int32) = g0 at *
  rcases what x1 9 (by decide) with ⟨k, hk, rfl⟩ | ⟨hx, hx2⟩
  · rw [m_in (m := 9) (L := 0) (U := 9) (by decide) ⟨k, hk, rfl⟩ rfl rfl]
    simp only [zN_lit, zN_add, zN_mul, bp_some, bd_some, w_eq, w_2, wl_1, u_eq, wr_eq, wr_2, Nat.reduceAdd, Nat.reduceMul, Nat.reduceSub, if_true, ifin' hk (by decide), hu]
    by_cases c : zN k = g0.1 251 35
    · simp only [if_pos c]; exact ⟨_, _, _, rfl, rfl, hR0⟩
    · simp only [if_neg c]
      exact ⟨_, _, _, rfl, rfl, B, H, nm, A, nx, E, nw, sn, s, tp, nl, hd, f, hL.ag (by simp (disch := omega) only [w_ne, w_eq, u_ne, wl_1, w_2, wl_ne, wr_ne, wr_2]) (by simp (disch := omega) only [w_ne, w_eq, u_ne, wl_1, w_2, wl_ne, wr_ne, wr_2]) (by simp (disch := omega) only [w_ne, w_eq, u_ne, wl_1, w_2, wl_ne, wr_ne, wr_2]) (by simp (disch := omega) only [w_ne, w_eq, u_ne, wl_1, w_2, wl_ne, wr_ne, wr_2]) (by simp (disch := omega) only [w_ne, w_eq, u_ne, wl_1, w_2, wl_ne, wr_ne, wr_2]) (by simp (disch := omega) only [w_ne, w_eq, u_ne, wl_1, w_2, wl_ne, wr_ne, wr_2]) (by simp (disch := omega) only [w_ne, w_eq, u_ne, wl_1, w_2, wl_ne, wr_ne, wr_2]), hP.ag (fun i _ _ => by simp (disch := omega) only [w_ne, w_eq, u_ne, wl_1, w_2, wl_ne, wr_ne, wr_2]) (fun i _ _ => by simp (disch := omega) only [w_ne, w_eq, u_ne, wl_1, w_2, wl_ne, wr_ne, wr_2]) (by simp (disch := omega) only [w_ne, w_eq, u_ne, wl_1, w_2, wl_ne, wr_ne, wr_2]) (by simp (disch := omega) only [w_ne, w_eq, u_ne, wl_1, w_2, wl_ne, wr_ne, wr_2]) (by simp (disch := omega) only [w_ne, w_eq, u_ne, wl_1, w_2, wl_ne, wr_ne, wr_2]) (by simp (disch := omega) only [w_ne, w_eq, u_ne, wl_1, w_2, wl_ne, wr_ne, wr_2]) (by simp (disch := omega) only [w_ne, w_eq, u_ne, wl_1, w_2, wl_ne, wr_ne, wr_2]) (by simp (disch := omega) only [w_ne, w_eq, u_ne, wl_1, w_2, wl_ne, wr_ne, wr_2]), hI.ag (fun i _ _ => by simp (disch := omega) only [w_ne, w_eq, u_ne, wl_1, w_2, wl_ne, wr_ne, wr_2]) (by simp (disch := omega) only [w_ne, w_eq, u_ne, wl_1, w_2, wl_ne, wr_ne, wr_2]) (by simp (disch := omega) only [w_ne, w_eq, u_ne, wl_1, w_2, wl_ne, wr_ne, wr_2]) (by simp (disch := omega) only [w_ne, w_eq, u_ne, wl_1, w_2, wl_ne, wr_ne, wr_2]), hW.ag (by simp (disch := omega) only [w_ne, w_eq, u_ne, wl_1, w_2, wl_ne, wr_ne, wr_2]) (by simp (disch := omega) only [w_ne, w_eq, u_ne, wl_1, w_2, wl_ne, wr_ne, wr_2]) (by simp (disch := omega) only [w_ne, w_eq, u_ne, wl_1, w_2, wl_ne, wr_ne, wr_2]) (by simp (disch := omega) only [w_ne, w_eq, u_ne, wl_1, w_2, wl_ne, wr_ne, wr_2]) (by simp (disch := omega) only [w_ne, w_eq, u_ne, wl_1, w_2, wl_ne, wr_ne, wr_2]) (by simp (disch := omega) only [w_ne, w_eq, u_ne, wl_1, w_2, wl_ne, wr_ne, wr_2]), hS.ag (by simp (disch := omega) only [w_ne, w_eq, u_ne, wl_1, w_2, wl_ne, wr_ne, wr_2]) (by simp (disch := omega) only [w_ne, w_eq, u_ne, wl_1, w_2, wl_ne, wr_ne, wr_2]) (by simp (disch := omega) only [w_ne, w_eq, u_ne, wl_1, w_2, wl_ne, wr_ne, wr_2]) (by simp (disch := omega) only [w_ne, w_eq, u_ne, wl_1, w_2, wl_ne, wr_ne, wr_2]), hT.ag (by simp (disch := omega) only [w_ne, w_eq, u_ne, wl_1, w_2, wl_ne, wr_ne, wr_2]) (by simp (disch := omega) only [w_ne, w_eq, u_ne, wl_1, w_2, wl_ne, wr_ne, wr_2]) (by simp (disch := omega) only [w_ne, w_eq, u_ne, wl_1, w_2, wl_ne, wr_ne, wr_2]) (by simp (disch := omega) only [w_ne, w_eq, u_ne, wl_1, w_2, wl_ne, wr_ne, wr_2]), hC.cg (by simp (disch := omega) only [w_ne, w_eq, u_ne, wl_1, w_2, wl_ne, wr_ne, wr_2]) (by simp (disch := omega) only [w_ne, w_eq, u_ne, wl_1, w_2, wl_ne, wr_ne, wr_2]) (fun i _ _ => by simp (disch := omega) only [w_ne, w_eq, u_ne, wl_1, w_2, wl_ne, wr_ne, wr_2]) (by simp (disch := omega) only [w_ne, w_eq, u_ne, wl_1, w_2, wl_ne, wr_ne, wr_2]), hM.cg (by simp (disch := omega) only [w_ne, w_eq, u_ne, wl_1, w_2, wl_ne, wr_ne, wr_2]) (by simp (disch := omega) only [w_ne, w_eq, u_ne, wl_1, w_2, wl_ne, wr_ne, wr_2]) (by simp (disch := omega) only [w_ne, w_eq, u_ne, wl_1, w_2, wl_ne, wr_ne, wr_2]) (by simp (disch := omega) only [w_ne, w_eq, u_ne, wl_1, w_2, wl_ne, wr_ne, wr_2]) (by simp (disch := omega) only [w_ne, w_eq, u_ne, wl_1, w_2, wl_ne, wr_ne, wr_2]) (by simp (disch := omega) only [w_ne, w_eq, u_ne, wl_1, w_2, wl_ne, wr_ne, wr_2]), by rw [w_eq, u_eq, w_eq, u_eq]⟩
  · rw [m_out (m := 9) (L := 0) (U := 9) hx rfl rfl]
    simp only [zN_lit, zN_add, zN_mul, bp_some, bd_some, w_eq, w_2, wl_1, u_eq, wr_eq, wr_2, Nat.reduceAdd, Nat.reduceMul, Nat.reduceSub, ifout' hx]
    exact ⟨_, _, _, rfl, rfl, hR0⟩
theorem sim_law (n : Nat) : Sim_law n (R n) := by
  intro x1 h g hR
  have hR0 := hR.thr 0
  obtain ⟨B, H, nm, A, nx, E, nw, sn, s, tp, nl, hd, f, hL, hP, hI, hW, hS, hT, hC, hM, hu⟩ := id hR0
  unfold X11_law X4_hold X12_law X12_law_28
  generalize wI g 251 0 (0 : Int32) = g0 at *
  have z := hC.1.1
  have go : ∀ x : Int32, (x = -1 ∨ ∃ j, j < nl ∧ x = zN j) → R n (wI h 16 6 x) (wI g0 251 34 x) := fun x hx =>
    ⟨B, H, nm, A, nx, E, nw, sn, s, tp, nl, x, f, hL.ag (by simp (disch := omega) only [w_ne, w_eq, u_ne, wl_1, w_2, wl_ne, wr_ne, wr_2]) (by simp (disch := omega) only [w_ne, w_eq, u_ne, wl_1, w_2, wl_ne, wr_ne, wr_2]) (by simp (disch := omega) only [w_ne, w_eq, u_ne, wl_1, w_2, wl_ne, wr_ne, wr_2]) (by simp (disch := omega) only [w_ne, w_eq, u_ne, wl_1, w_2, wl_ne, wr_ne, wr_2]) (by simp (disch := omega) only [w_ne, w_eq, u_ne, wl_1, w_2, wl_ne, wr_ne, wr_2]) (by simp (disch := omega) only [w_ne, w_eq, u_ne, wl_1, w_2, wl_ne, wr_ne, wr_2]) (by simp (disch := omega) only [w_ne, w_eq, u_ne, wl_1, w_2, wl_ne, wr_ne, wr_2]), hP.ag (fun i _ _ => by simp (disch := omega) only [w_ne, w_eq, u_ne, wl_1, w_2, wl_ne, wr_ne, wr_2]) (fun i _ _ => by simp (disch := omega) only [w_ne, w_eq, u_ne, wl_1, w_2, wl_ne, wr_ne, wr_2]) (by simp (disch := omega) only [w_ne, w_eq, u_ne, wl_1, w_2, wl_ne, wr_ne, wr_2]) (by simp (disch := omega) only [w_ne, w_eq, u_ne, wl_1, w_2, wl_ne, wr_ne, wr_2]) (by simp (disch := omega) only [w_ne, w_eq, u_ne, wl_1, w_2, wl_ne, wr_ne, wr_2]) (by simp (disch := omega) only [w_ne, w_eq, u_ne, wl_1, w_2, wl_ne, wr_ne, wr_2]) (by simp (disch := omega) only [w_ne, w_eq, u_ne, wl_1, w_2, wl_ne, wr_ne, wr_2]) (by simp (disch := omega) only [w_ne, w_eq, u_ne, wl_1, w_2, wl_ne, wr_ne, wr_2]), hI.ag (fun i _ _ => by simp (disch := omega) only [w_ne, w_eq, u_ne, wl_1, w_2, wl_ne, wr_ne, wr_2]) (by simp (disch := omega) only [w_ne, w_eq, u_ne, wl_1, w_2, wl_ne, wr_ne, wr_2]) (by simp (disch := omega) only [w_ne, w_eq, u_ne, wl_1, w_2, wl_ne, wr_ne, wr_2]) (by simp (disch := omega) only [w_ne, w_eq, u_ne, wl_1, w_2, wl_ne, wr_ne, wr_2]), hW.ag (by simp (disch := omega) only [w_ne, w_eq, u_ne, wl_1, w_2, wl_ne, wr_ne, wr_2]) (by simp (disch := omega) only [w_ne, w_eq, u_ne, wl_1, w_2, wl_ne, wr_ne, wr_2]) (by simp (disch := omega) only [w_ne, w_eq, u_ne, wl_1, w_2, wl_ne, wr_ne, wr_2]) (by simp (disch := omega) only [w_ne, w_eq, u_ne, wl_1, w_2, wl_ne, wr_ne, wr_2]) (by simp (disch := omega) only [w_ne, w_eq, u_ne, wl_1, w_2, wl_ne, wr_ne, wr_2]) (by simp (disch := omega) only [w_ne, w_eq, u_ne, wl_1, w_2, wl_ne, wr_ne, wr_2]), hS.ag (by simp (disch := omega) only [w_ne, w_eq, u_ne, wl_1, w_2, wl_ne, wr_ne, wr_2]) (by simp (disch := omega) only [w_ne, w_eq, u_ne, wl_1, w_2, wl_ne, wr_ne, wr_2]) (by simp (disch := omega) only [w_ne, w_eq, u_ne, wl_1, w_2, wl_ne, wr_ne, wr_2]) (by simp (disch := omega) only [w_ne, w_eq, u_ne, wl_1, w_2, wl_ne, wr_ne, wr_2]), hT.ag (by simp (disch := omega) only [w_ne, w_eq, u_ne, wl_1, w_2, wl_ne, wr_ne, wr_2]) (by simp (disch := omega) only [w_ne, w_eq, u_ne, wl_1, w_2, wl_ne, wr_ne, wr_2]) (by simp (disch := omega) only [w_ne, w_eq, u_ne, wl_1, w_2, wl_ne, wr_ne, wr_2]) (by simp (disch := omega) only [w_ne, w_eq, u_ne, wl_1, w_2, wl_ne, wr_ne, wr_2]),
      ⟨⟨hC.1.1, (by rw [w_eq, u_ne (by decide)]; exact hC.1.2.1), (by rw [w_eq, u_eq]), hx⟩, fun j hj => (by rw [w_ne (by omega), w_ne (by decide)]; exact hC.2.1 j hj), hC.2.2⟩,
      ⟨⟨hM.1.1, (by rw [w_eq, u_ne (by decide)]; exact hM.1.2.1), (by rw [w_eq, u_eq]), hx⟩, fun j hj => (by rw [w_ne (by decide), w_ne (by decide)]; exact hM.2.1 j hj), (by rw [w_ne (by decide), w_2]; exact hM.2.2)⟩, (by simp (disch := omega) only [w_ne, w_eq, u_ne, wl_1, w_2, wl_ne, wr_ne, wr_2]; exact hu)⟩
  have e7 : g0.1 251 7 = zN nl := hM.1.2.1
  have e5 : h.1 16 5 = zN nl := hC.1.2.1
  rw [e7, e5]
  by_cases c : x1 = -1
  · subst c
    rw [if_neg (by decide), if_pos (by rw [Int32.lt_iff_toInt_lt, zN_ti (by omega)]; exact Int.lt_of_lt_of_le (by decide) (Int.natCast_nonneg _)), if_pos rfl]
    exact ⟨_, _, _, rfl, rfl, go _ (Or.inl rfl)⟩
  · rw [if_neg c]
    have em : (zN nl - 1).toInt64 = (zI ((nl : Int) - 1)).toInt64 := by rw [zN_lit, zN_subI]; rfl
    have ei : X12_isIn x1.toInt64 0 ((zN nl - 1).toInt64) g0 = some (decide (zN 0 ≤ x1 ∧ x1 ≤ zI ((nl : Int) - 1))) := by
      rw [em, show (0 : Int64) = (zN 0).toInt64 from rfl, m_isIn]
    rw [ei]
    rcases i32_cases x1 with q | ⟨k, hk, rfl⟩
    · rw [decide_eq_false (fun z => Int32.not_le.mpr q z.1), if_pos]
      · exact ⟨_, _, _, rfl, rfl, hR0⟩
      · rw [Int32.lt_iff_toInt_lt] at q ⊢
        have q2 : x1.toInt ≠ -1 := fun z => c (Int32.toInt_inj.mp z)
        have q3 : (zN 0).toInt = 0 := rfl
        have q4 : (-1 : Int32).toInt = -1 := rfl
        omega
    · rw [if_neg (by rw [Int32.lt_iff_toInt_lt, zN_ti hk]; have : (-1 : Int32).toInt = -1 := rfl; omega)]
      by_cases d : k < nl
      · rw [decide_eq_true ⟨(zN_le (by decide) hk).mpr (Nat.zero_le _), (by rw [← zI_N, zI_le (by omega) (by omega) (by omega) (by omega)]; omega)⟩, if_pos ((zN_lt hk (by omega)).mpr d)]
        exact ⟨_, _, _, rfl, rfl, go _ (Or.inr ⟨k, d, rfl⟩)⟩
      · rw [decide_eq_false (fun z => by have z2 := z.2; rw [← zI_N, zI_le (by omega) (by omega) (by omega) (by omega)] at z2; omega), if_neg (by rw [zN_lt hk (by omega)]; exact d)]
        exact ⟨_, _, _, rfl, rfl, hR0⟩
theorem sim_end (n : Nat) : Sim_end n (R n) := by
  intro x1 h g hR
  have hR0 := hR.thr 0
  obtain ⟨B, H, nm, A, nx, E, nw, sn, s, tp, nl, hd, f, hL, hP, hI, hW, hS, hT, hC, hM, hu⟩ := id hR0
  unfold X11_end X7_cutTo X12_end
  generalize wI g 251 0 (0 : Int32) = g0 at *
  obtain ⟨⟨t1, t2, t3⟩, t4⟩ := id hT
  rw [t2, t3]
  rcases i32_cases x1 with q | ⟨k, hk, rfl⟩
  · simp only [zN_lit, if_pos q]; exact ⟨_, _, _, rfl, rfl, hR0⟩
  · simp (disch := omega) only [zN_lit, if_neg (zN_neg0 hk), zN_le]
    by_cases c : k ≤ s
    · simp only [if_pos c]
      exact ⟨_, _, _, rfl, rfl, B, H, nm, A, nx, E, nw, sn, k, tp, nl, hd, f, hL.ag (by simp (disch := omega) only [w_ne, w_eq, u_ne, wl_1, w_2, wl_ne, wr_ne, wr_2]) (by simp (disch := omega) only [w_ne, w_eq, u_ne, wl_1, w_2, wl_ne, wr_ne, wr_2]) (by simp (disch := omega) only [w_ne, w_eq, u_ne, wl_1, w_2, wl_ne, wr_ne, wr_2]) (by simp (disch := omega) only [w_ne, w_eq, u_ne, wl_1, w_2, wl_ne, wr_ne, wr_2]) (by simp (disch := omega) only [w_ne, w_eq, u_ne, wl_1, w_2, wl_ne, wr_ne, wr_2]) (by simp (disch := omega) only [w_ne, w_eq, u_ne, wl_1, w_2, wl_ne, wr_ne, wr_2]) (by simp (disch := omega) only [w_ne, w_eq, u_ne, wl_1, w_2, wl_ne, wr_ne, wr_2]), hP.ag (fun i _ _ => by simp (disch := omega) only [w_ne, w_eq, u_ne, wl_1, w_2, wl_ne, wr_ne, wr_2]) (fun i _ _ => by simp (disch := omega) only [w_ne, w_eq, u_ne, wl_1, w_2, wl_ne, wr_ne, wr_2]) (by simp (disch := omega) only [w_ne, w_eq, u_ne, wl_1, w_2, wl_ne, wr_ne, wr_2]) (by simp (disch := omega) only [w_ne, w_eq, u_ne, wl_1, w_2, wl_ne, wr_ne, wr_2]) (by simp (disch := omega) only [w_ne, w_eq, u_ne, wl_1, w_2, wl_ne, wr_ne, wr_2]) (by simp (disch := omega) only [w_ne, w_eq, u_ne, wl_1, w_2, wl_ne, wr_ne, wr_2]) (by simp (disch := omega) only [w_ne, w_eq, u_ne, wl_1, w_2, wl_ne, wr_ne, wr_2]) (by simp (disch := omega) only [w_ne, w_eq, u_ne, wl_1, w_2, wl_ne, wr_ne, wr_2]), hI.ag (fun i _ _ => by simp (disch := omega) only [w_ne, w_eq, u_ne, wl_1, w_2, wl_ne, wr_ne, wr_2]) (by simp (disch := omega) only [w_ne, w_eq, u_ne, wl_1, w_2, wl_ne, wr_ne, wr_2]) (by simp (disch := omega) only [w_ne, w_eq, u_ne, wl_1, w_2, wl_ne, wr_ne, wr_2]) (by simp (disch := omega) only [w_ne, w_eq, u_ne, wl_1, w_2, wl_ne, wr_ne, wr_2]), hW.ag (by simp (disch := omega) only [w_ne, w_eq, u_ne, wl_1, w_2, wl_ne, wr_ne, wr_2]) (by simp (disch := omega) only [w_ne, w_eq, u_ne, wl_1, w_2, wl_ne, wr_ne, wr_2]) (by simp (disch := omega) only [w_ne, w_eq, u_ne, wl_1, w_2, wl_ne, wr_ne, wr_2]) (by simp (disch := omega) only [w_ne, w_eq, u_ne, wl_1, w_2, wl_ne, wr_ne, wr_2]) (by simp (disch := omega) only [w_ne, w_eq, u_ne, wl_1, w_2, wl_ne, wr_ne, wr_2]) (by simp (disch := omega) only [w_ne, w_eq, u_ne, wl_1, w_2, wl_ne, wr_ne, wr_2]), hS.ag (by simp (disch := omega) only [w_ne, w_eq, u_ne, wl_1, w_2, wl_ne, wr_ne, wr_2]) (by simp (disch := omega) only [w_ne, w_eq, u_ne, wl_1, w_2, wl_ne, wr_ne, wr_2]) (by simp (disch := omega) only [w_ne, w_eq, u_ne, wl_1, w_2, wl_ne, wr_ne, wr_2]) (by simp (disch := omega) only [w_ne, w_eq, u_ne, wl_1, w_2, wl_ne, wr_ne, wr_2]), ⟨⟨by omega, by rw [w_eq, u_eq], by rw [w_eq, u_eq]⟩, fun j hj => (by rw [w_ne (by decide), w_ne (by decide)]; exact t4 j (by omega))⟩, hC.cg (by simp (disch := omega) only [w_ne, w_eq, u_ne, wl_1, w_2, wl_ne, wr_ne, wr_2]) (by simp (disch := omega) only [w_ne, w_eq, u_ne, wl_1, w_2, wl_ne, wr_ne, wr_2]) (fun i _ _ => by simp (disch := omega) only [w_ne, w_eq, u_ne, wl_1, w_2, wl_ne, wr_ne, wr_2]) (by simp (disch := omega) only [w_ne, w_eq, u_ne, wl_1, w_2, wl_ne, wr_ne, wr_2]), hM.cg (by simp (disch := omega) only [w_ne, w_eq, u_ne, wl_1, w_2, wl_ne, wr_ne, wr_2]) (by simp (disch := omega) only [w_ne, w_eq, u_ne, wl_1, w_2, wl_ne, wr_ne, wr_2]) (by simp (disch := omega) only [w_ne, w_eq, u_ne, wl_1, w_2, wl_ne, wr_ne, wr_2]) (by simp (disch := omega) only [w_ne, w_eq, u_ne, wl_1, w_2, wl_ne, wr_ne, wr_2]) (by simp (disch := omega) only [w_ne, w_eq, u_ne, wl_1, w_2, wl_ne, wr_ne, wr_2]) (by simp (disch := omega) only [w_ne, w_eq, u_ne, wl_1, w_2, wl_ne, wr_ne, wr_2]), (by simp (disch := omega) only [w_ne, w_eq, u_ne, wl_1, w_2, wl_ne, wr_ne, wr_2]; exact hu)⟩
    · simp only [if_neg c]; exact ⟨_, _, _, rfl, rfl, hR0⟩
