/-! ACTS without a reading -/
def uN (f : Nat → Nat) (k v : Nat) : Nat → Nat := fun j => if j = k then v else f j
theorem uN_ne {f : Nat → Nat} {k v j : Nat} (q : j ≠ k) : uN f k v j = f j := by simp only [uN, if_neg q]
theorem uN_eq {f : Nat → Nat} {k v : Nat} : uN f k v k = v := by simp only [uN, if_true]
theorem PastR.now {H A nx : Nat} {E : Nat → Nat} {h g h' g' : Mm} (q : PastR H A nx E h g) (e2 : ∀ i, 46 ≤ i → i ≤ 245 → h'.1 i = h.1 i) (e3 : h'.1 39 = h.1 39) (e4 : h'.1 37 5 = h.1 37 5) (e5 : h'.1 37 6 = h.1 37 6) (e6 : g'.1 251 39 = g.1 251 39) (e8 : g'.1 268 = g.1 268) (st : StateR H (E A) h' 27 (h'.1 39) (g'.1 264)) : PastR H A nx E h' g' := by
  obtain ⟨q1, q2, q3, q4⟩ := q
  refine ⟨by rw [e4, e5, e6]; exact q1, q2, st, fun j hj => (q4 j hj).ag (fun i h1 h2 => e2 i ?_ ?_) e3 (by rw [e8])⟩
  · unfold ringId at h1; omega
  · unfold ringId at h2; omega
/-- R where the state was just kept -/
def RK (n : Nat) (h g : Mm) : Prop := ∃ (B H : Nat) (nm : Nat → Nat) (A nx : Nat) (E : Nat → Nat) (nw sn s : Nat) (tp : Nat → Nat) (nl : Nat) (hd : Int32) (f : Nat → F6),
  LandR B H nm (h.1 14) (h.1 15) (g.1 251) (g.1 256) (g.1 258) (g.1 260) ∧ PastR H A nx E h g ∧ ImgR H h g ∧ WeekR nw (h.1 9) (h.1 11) (h.1 12) (g.1 251) (g.1 262) (g.1 263) ∧
  WatchR B H nm sn (h.1 249) (h.1 250) (g.1 251) (g.1 270) ∧ TapeR s tp (h.1 1) (h.1 2) (g.1 251) (g.1 252) ∧ LawC n nl hd f h ∧ LawM n nl hd f g ∧ h.1 0 12 = g.1 251 35 ∧ 1 ≤ A ∧ E (A - 1) = E A
theorem RK.toR {n : Nat} {h g : Mm} (q : RK n h g) : R n h g := by
  obtain ⟨B, H, nm, A, nx, E, nw, sn, s, tp, nl, hd, f, hL, hP, hI, hW, hS, hT, hC, hM, hu, -⟩ := q
  exact ⟨B, H, nm, A, nx, E, nw, sn, s, tp, nl, hd, f, hL, hP, hI, hW, hS, hT, hC, hM, hu⟩
theorem R.keep {n : Nat} {h g : Mm} (hn : 20000 ≤ n) (hR : R n h g) : ∃ h1 g1, X5_keep 27 h = some ((), h1) ∧ X12_remember n g = some ((), g1) ∧ RK n h1 g1 ∧ (∀ i, i ≠ 37 → (i < 46 ∨ 245 < i) → h1.1 i = h.1 i) ∧ h1.2 = h.2 ∧ (∀ i, i ≠ 251 → i ≠ 268 → g1.1 i = g.1 i) ∧ (∀ j, j ≠ 39 → g1.1 251 j = g.1 251 j) ∧ g1.2 = g.2 := by
  obtain ⟨B, H, nm, A, nx, E, nw, sn, s, tp, nl, hd, f, hL, hP, hI, hW, hS, hT, hC, hM, hu⟩ := hR
  obtain ⟨h1, g1, A', nx', E', k1, k2, k3, ⟨k4, k5, k6⟩, c1, c2, c3, c4, c5, c6⟩ := keep_sim hn hL.2.1.2.1 hP
  exact ⟨h1, g1, k1, k2, ⟨B, H, nm, A', nx', E', nw, sn, s, tp, nl, hd, f, hL.ag (c1 _ (by decide) (by omega)) (c1 _ (by decide) (by omega)) (c5 _ (by decide)) (c5 _ (by decide)) (c4 _ (by decide) (by decide)) (c4 _ (by decide) (by decide)) (c4 _ (by decide) (by decide)), k3, hI.ag (fun i z1 z2 => c1 i (by omega) (by omega)) (c2 _ (by decide) (by decide)) (c5 _ (by decide)) (c4 _ (by decide) (by decide)),
    hW.ag (by rw [c1 9 (by decide) (by omega)]) (c1 _ (by decide) (by omega)) (c1 _ (by decide) (by omega)) (c5 _ (by decide)) (c4 _ (by decide) (by decide)) (c4 _ (by decide) (by decide)), hS.ag (by rw [c1 249 (by decide) (by omega)]) (c1 _ (by decide) (by omega)) (c5 _ (by decide)) (c4 _ (by decide) (by decide)), hT.ag (by rw [c1 1 (by decide) (by omega)]) (c1 _ (by decide) (by omega)) (c5 _ (by decide)) (c4 _ (by decide) (by decide)),
    hC.cg (by rw [c1 16 (by decide) (by omega)]) (by rw [c1 16 (by decide) (by omega)]) (fun i z1 z2 => c1 i (by omega) (by omega)) (by rw [c3]), hM.cg (c5 _ (by decide)) (c5 _ (by decide)) (c4 _ (by decide) (by decide)) (c4 _ (by decide) (by decide)) (by rw [c6]) (c4 _ (by decide) (by decide)), by rw [c1 0 (by decide) (by omega), c5 _ (by decide)]; exact hu, k4, k5⟩, c1, c3, c4, c5, c6⟩
theorem BedR.drink {H : Nat} {be : Nat → Nat} {hb ht hv hu hf w : Nat → Int32} (q : BedR H be hb ht hv hu hf w) (hH : H ≤ 6) (c : Nat) (hc : c ≤ 99) : BedR H (uN (uN be 22 c) 25 1) hb ht hv hu (upd (upd hf 4 (zN c)) 11 (zN 1)) (upd (upd w 22 (zN c)) 25 (zN 1)) := by
  obtain ⟨q1, q2, q3, q4, q5, q6, q7, q8⟩ := q
  refine ⟨fun x hx => ?_, fun k hk => ?_, ?_, ?_, ?_, ?_, ?_, ?_⟩
  · simp (disch := omega) only [uN_ne, u_ne]; exact q1 x hx
  · simp (disch := omega) only [uN_ne, u_ne]; exact q2 k hk
  · simp (disch := omega) only [uN_ne, uN_eq, u_ne, u_eq]; exact ⟨trivial, trivial, hc⟩
  · simp (disch := omega) only [uN_ne, uN_eq, u_ne, u_eq]; exact q4
  · simp (disch := omega) only [uN_ne, uN_eq, u_ne, u_eq]; exact q5
  · simp (disch := omega) only [uN_ne, uN_eq, u_ne, u_eq]; exact q6
  · simp (disch := omega) only [uN_ne, uN_eq, u_ne, u_eq]; decide
  · simp (disch := omega) only [uN_ne, uN_eq, u_ne, u_eq]; exact q8
theorem BedR.goes {H : Nat} {be : Nat → Nat} {hb ht hv hu hf w : Nat → Int32} (q : BedR H be hb ht hv hu hf w) (hH : H ≤ 6) (x0 : Nat) (h0 : x0 < H) : BedR H (uN (uN be 23 x0) 26 1) hb ht hv hu (upd (upd hf 5 (zN x0)) 12 (zN 1)) (upd (upd w 23 (zN x0)) 26 (zN 1)) := by
  obtain ⟨q1, q2, q3, q4, q5, q6, q7, q8⟩ := q
  refine ⟨fun x hx => ?_, fun k hk => ?_, ?_, ?_, ?_, ?_, ?_, ?_⟩
  · simp (disch := omega) only [uN_ne, u_ne]; exact q1 x hx
  · simp (disch := omega) only [uN_ne, u_ne]; exact q2 k hk
  · simp (disch := omega) only [uN_ne, uN_eq, u_ne, u_eq]; exact q3
  · simp (disch := omega) only [uN_ne, uN_eq, u_ne, u_eq]; exact ⟨trivial, trivial, Or.inl h0⟩
  · simp (disch := omega) only [uN_ne, uN_eq, u_ne, u_eq]; exact q5
  · simp (disch := omega) only [uN_ne, uN_eq, u_ne, u_eq]; exact q6
  · simp (disch := omega) only [uN_ne, uN_eq, u_ne, u_eq]; exact q7
  · simp (disch := omega) only [uN_ne, uN_eq, u_ne, u_eq]; decide
theorem BedR.voice {H : Nat} {be : Nat → Nat} {hb ht hv hu hf w : Nat → Int32} (q : BedR H be hb ht hv hu hf w) (hH : H ≤ 6) (x0 v : Nat) (h0 : x0 < H) (h9 : v ≤ 9) : BedR H (uN be (3 * x0 + 1) v) hb ht (upd hv x0 (zN v)) hu hf (upd w (3 * x0 + 1) (zN v)) := by
  obtain ⟨q1, q2, q3, q4, q5, q6, q7, q8⟩ := q
  refine ⟨fun x hx => ?_, fun k hk => ?_, ?_, ?_, ?_, ?_, ?_, ?_⟩
  · by_cases c : x = x0
    · subst c
      simp (disch := omega) only [uN_ne, uN_eq, u_ne, u_eq]
      have z := q1 x hx
      exact ⟨⟨z.1.1, trivial, z.1.2.2⟩, ⟨z.2.1.1, trivial, z.2.1.2.2⟩, z.2.2.1, h9, z.2.2.2.2⟩
    · simp (disch := omega) only [uN_ne, u_ne]; exact q1 x hx
  · simp (disch := omega) only [uN_ne, u_ne]; exact q2 k hk
  · simp (disch := omega) only [uN_ne, uN_eq, u_ne, u_eq]; exact q3
  · simp (disch := omega) only [uN_ne, uN_eq, u_ne, u_eq]; exact q4
  · simp (disch := omega) only [uN_ne, uN_eq, u_ne, u_eq]; exact q5
  · simp (disch := omega) only [uN_ne, uN_eq, u_ne, u_eq]; exact q6
  · simp (disch := omega) only [uN_ne, uN_eq, u_ne, u_eq]; exact q7
  · simp (disch := omega) only [uN_ne, uN_eq, u_ne, u_eq]; exact q8
theorem LogR.w {E : Nat} {rows w : Nat → Int32} (q : LogR E rows w) {k : Nat} {v : Int32} (hk : k < 30) : LogR E rows (upd w k v) := by
  obtain ⟨q1, q2⟩ := q
  exact ⟨by rw [u_ne (by omega)]; exact q1, fun i c h1 h2 => by rw [u_ne (by omega)]; exact q2 i c h1 h2⟩
/-- milk, as both give it -/
theorem drink_both {H : Nat} {be : Nat → Nat} {h g : Mm} {a r : Nat} (hB : BedR H be (h.1 (a + 1)) (h.1 (a + 2)) (h.1 (a + 3)) (h.1 (a + 4)) (h.1 a) (g.1 r)) (hH : H ≤ 6) (hr : aln r = 211) : ∃ c, c ≤ 99 ∧ X9_drink a h = some ((), wI (wI h a 4 (zN c)) a 11 (zN 1)) ∧ X12_drinks r g = some ((), wI (wI g r 22 (zN c)) r 25 (zN 1)) := by
  obtain ⟨-, -, q3, -⟩ := hB
  refine ⟨min 99 (be 22 + 3), by omega, ?_, ?_⟩
  · unfold X9_drink
    rw [q3.1]
    simp only [zN_lit, zN_add, zN_mul, bp_some, bd_some, w_eq, w_2, wl_1, u_eq, wr_eq, wr_2, Nat.reduceAdd, Nat.reduceMul, Nat.reduceSub]
    rw [c_heldN (by omega), bp_some]
  · unfold X12_drinks
    simp (disch := omega) only [zN_lit, zN_add, zN_mul, bp_some, bd_some, w_eq, w_2, wl_1, u_eq, wr_eq, wr_2, Nat.reduceAdd, Nat.reduceMul, Nat.reduceSub, hr, zN_inB, zN_ix, q3.2.1]
    rw [if_pos (by decide), m_heldN (by omega), bp_some, if_pos (by decide), if_pos (by decide)]
theorem sim_milk (n : Nat) (hn : 20000 ≤ n) : Sim_milk n (R n) := by
  intro h g hR
  have hR0 := hR.thr 0
  obtain ⟨B, H, nm, A, nx, E, nw, sn, s, tp, nl, hd, f, hL, ⟨-, -, ⟨be, hB, -, -, -⟩, -⟩, -⟩ := id hR0
  unfold X11_milk X9_canDrink X12_milk
  generalize wI g 251 0 (0 : Int32) = g0 at *
  obtain ⟨-, -, -, -, -, -, b7, -⟩ := hB
  have z := hL.2.1.2.1
  simp (disch := omega) only [c_stands hL, hL.1.2.2.2, zN_lit, zN_add, zN_mul, bp_some, bd_some, w_eq, w_2, wl_1, u_eq, wr_eq, wr_2, Nat.reduceAdd, Nat.reduceMul, Nat.reduceSub, al_2, al_5, al_6, al_8, al_10, al_11, al_12, al_14, al_15, al_18, al_19, al_20, al_21, al_22, al_23, al_24, al_25, al_28, al_29, al_30, al_31, al_33, al_34, al_35, al_36, al_39, al_41, al_42, al_43, al_44, al_45, al_247, al_248, al_250, al_252, al_253, al_254, al_255, al_256, al_257, al_258, al_259, al_260, al_261, al_262, al_263, al_264, al_265, al_266, al_267, al_268, al_269, al_270, al_271, al_272, al_273, al_1001, al_1002, al_1003, al_1004, al_1005, al_1006, al_1007, zN_eq, zN_inB, zN_ix, b7.1, b7.2.1]
  by_cases c : H = 0
  · subst c; exact ⟨_, _, _, rfl, rfl, hR0⟩
  · rw [decide_eq_true (show 0 < H by omega), if_pos rfl, if_neg c, if_pos (show 25 < 211 by decide)]
    obtain e | e : be 25 = 1 ∨ be 25 = 0 := by omega
    · simp only [e, if_true]; exact ⟨_, _, _, rfl, rfl, hR0⟩
    · rw [if_pos e, if_neg (show ¬ be 25 = 1 by omega), bp_some, if_pos rfl]
      obtain ⟨h1, g1, k1, k2, ⟨B, H, nm, A, nx, E, nw, sn, s, tp, nl, hd, f, hL, hP, hI, hW, hS, hT, hC, hM, hu, -⟩, -⟩ := hR0.keep hn
      rw [k1, k2, bd_some, bd_some]
      obtain ⟨be, hB, hn1, hn2, hlog⟩ := hP.2.2.1
      have hH := hL.2.1.2.1
      obtain ⟨v, hv, d1, d2⟩ := drink_both (a := 27) (r := 264) hB hH al_264
      rw [d1, d2, bd_some, bd_some, if_pos (show 22 < 211 by decide)]
      refine ⟨zN v, _, wI (wI g1 264 22 (zN v)) 264 25 (zN 1), rfl, ?_, B, H, nm, A, nx, E, nw, sn, s, tp, nl, hd, f, hL.ag (by simp (disch := omega) only [w_ne, w_eq, u_ne, wl_1, w_2, wl_ne, wr_ne, wr_2]) (by simp (disch := omega) only [w_ne, w_eq, u_ne, wl_1, w_2, wl_ne, wr_ne, wr_2]) (by simp (disch := omega) only [w_ne, w_eq, u_ne, wl_1, w_2, wl_ne, wr_ne, wr_2]) (by simp (disch := omega) only [w_ne, w_eq, u_ne, wl_1, w_2, wl_ne, wr_ne, wr_2]) (by simp (disch := omega) only [w_ne, w_eq, u_ne, wl_1, w_2, wl_ne, wr_ne, wr_2]) (by simp (disch := omega) only [w_ne, w_eq, u_ne, wl_1, w_2, wl_ne, wr_ne, wr_2]) (by simp (disch := omega) only [w_ne, w_eq, u_ne, wl_1, w_2, wl_ne, wr_ne, wr_2]), hP.now (fun i _ _ => by simp (disch := omega) only [w_ne, w_eq, u_ne, wl_1, w_2, wl_ne, wr_ne, wr_2]) (by simp (disch := omega) only [w_ne, w_eq, u_ne, wl_1, w_2, wl_ne, wr_ne, wr_2]) (by simp (disch := omega) only [w_ne, w_eq, u_ne, wl_1, w_2, wl_ne, wr_ne, wr_2]) (by simp (disch := omega) only [w_ne, w_eq, u_ne, wl_1, w_2, wl_ne, wr_ne, wr_2]) (by simp (disch := omega) only [w_ne, w_eq, u_ne, wl_1, w_2, wl_ne, wr_ne, wr_2]) (by simp (disch := omega) only [w_ne, w_eq, u_ne, wl_1, w_2, wl_ne, wr_ne, wr_2]) ⟨uN (uN be 22 v) 25 1, ?_, ?_, ?_, ?_⟩, hI.ag (fun i _ _ => by simp (disch := omega) only [w_ne, w_eq, u_ne, wl_1, w_2, wl_ne, wr_ne, wr_2]) (by simp (disch := omega) only [w_ne, w_eq, u_ne, wl_1, w_2, wl_ne, wr_ne, wr_2]) (by simp (disch := omega) only [w_ne, w_eq, u_ne, wl_1, w_2, wl_ne, wr_ne, wr_2]) (by simp (disch := omega) only [w_ne, w_eq, u_ne, wl_1, w_2, wl_ne, wr_ne, wr_2]), hW.ag (by simp (disch := omega) only [w_ne, w_eq, u_ne, wl_1, w_2, wl_ne, wr_ne, wr_2]) (by simp (disch := omega) only [w_ne, w_eq, u_ne, wl_1, w_2, wl_ne, wr_ne, wr_2]) (by simp (disch := omega) only [w_ne, w_eq, u_ne, wl_1, w_2, wl_ne, wr_ne, wr_2]) (by simp (disch := omega) only [w_ne, w_eq, u_ne, wl_1, w_2, wl_ne, wr_ne, wr_2]) (by simp (disch := omega) only [w_ne, w_eq, u_ne, wl_1, w_2, wl_ne, wr_ne, wr_2]) (by simp (disch := omega) only [w_ne, w_eq, u_ne, wl_1, w_2, wl_ne, wr_ne, wr_2]), hS.ag (by simp (disch := omega) only [w_ne, w_eq, u_ne, wl_1, w_2, wl_ne, wr_ne, wr_2]) (by simp (disch := omega) only [w_ne, w_eq, u_ne, wl_1, w_2, wl_ne, wr_ne, wr_2]) (by simp (disch := omega) only [w_ne, w_eq, u_ne, wl_1, w_2, wl_ne, wr_ne, wr_2]) (by simp (disch := omega) only [w_ne, w_eq, u_ne, wl_1, w_2, wl_ne, wr_ne, wr_2]), hT.ag (by simp (disch := omega) only [w_ne, w_eq, u_ne, wl_1, w_2, wl_ne, wr_ne, wr_2]) (by simp (disch := omega) only [w_ne, w_eq, u_ne, wl_1, w_2, wl_ne, wr_ne, wr_2]) (by simp (disch := omega) only [w_ne, w_eq, u_ne, wl_1, w_2, wl_ne, wr_ne, wr_2]) (by simp (disch := omega) only [w_ne, w_eq, u_ne, wl_1, w_2, wl_ne, wr_ne, wr_2]), hC.cg (by simp (disch := omega) only [w_ne, w_eq, u_ne, wl_1, w_2, wl_ne, wr_ne, wr_2]) (by simp (disch := omega) only [w_ne, w_eq, u_ne, wl_1, w_2, wl_ne, wr_ne, wr_2]) (fun i _ _ => by simp (disch := omega) only [w_ne, w_eq, u_ne, wl_1, w_2, wl_ne, wr_ne, wr_2]) (by simp (disch := omega) only [w_ne, w_eq, u_ne, wl_1, w_2, wl_ne, wr_ne, wr_2]), hM.cg (by simp (disch := omega) only [w_ne, w_eq, u_ne, wl_1, w_2, wl_ne, wr_ne, wr_2]) (by simp (disch := omega) only [w_ne, w_eq, u_ne, wl_1, w_2, wl_ne, wr_ne, wr_2]) (by simp (disch := omega) only [w_ne, w_eq, u_ne, wl_1, w_2, wl_ne, wr_ne, wr_2]) (by simp (disch := omega) only [w_ne, w_eq, u_ne, wl_1, w_2, wl_ne, wr_ne, wr_2]) (by simp (disch := omega) only [w_ne, w_eq, u_ne, wl_1, w_2, wl_ne, wr_ne, wr_2]) (by simp (disch := omega) only [w_ne, w_eq, u_ne, wl_1, w_2, wl_ne, wr_ne, wr_2]), (by simp (disch := omega) only [w_ne, w_eq, u_ne, wl_1, w_2, wl_ne, wr_ne, wr_2]; exact hu)⟩
      · simp (disch := omega) only [w_eq, u_ne, u_eq]
      · have z := hB.drink hH v hv
        simp (disch := omega) only [w_ne, w_eq]; exact z
      · simp (disch := omega) only [uN_ne]; exact hn1
      · simp (disch := omega) only [w_eq, u_ne]; exact hn2
      · simp (disch := omega) only [w_eq, w_ne]; exact (hlog.w (by decide)).w (by decide)
theorem sim_goes (n : Nat) (hn : 20000 ≤ n) : Sim_goes n (R n) := by
  intro x1 h g hR
  have hR0 := hR.thr 0
  obtain ⟨B, H, nm, A, nx, E, nw, sn, s, tp, nl, hd, f, hL, ⟨-, -, ⟨be, hB, -, -, -⟩, -⟩, -⟩ := id hR0
  unfold X11_goes X9_canGo X12_goes X12_canGo
  generalize wI g 251 0 (0 : Int32) = g0 at *
  obtain ⟨-, -, -, b4, -, -, -, b8⟩ := hB
  have z := hL.2.1.2.1
  rcases idx x1 H with ⟨x, hx, rfl⟩ | hx
  · simp (disch := omega) only [c_hasHouse_y hL hx, m_isHouse_y hL hx, zN_lit, zN_add, zN_mul, bp_some, bd_some, w_eq, w_2, wl_1, u_eq, wr_eq, wr_2, Nat.reduceAdd, Nat.reduceMul, Nat.reduceSub, al_2, al_5, al_6, al_8, al_10, al_11, al_12, al_14, al_15, al_18, al_19, al_20, al_21, al_22, al_23, al_24, al_25, al_28, al_29, al_30, al_31, al_33, al_34, al_35, al_36, al_39, al_41, al_42, al_43, al_44, al_45, al_247, al_248, al_250, al_252, al_253, al_254, al_255, al_256, al_257, al_258, al_259, al_260, al_261, al_262, al_263, al_264, al_265, al_266, al_267, al_268, al_269, al_270, al_271, al_272, al_273, al_1001, al_1002, al_1003, al_1004, al_1005, al_1006, al_1007, zN_eq, zN_inB, zN_ix, b4.1, b4.2.1, b8.1, b8.2.1, if_true, if_pos (show 23 < 211 by decide), if_pos (show 26 < 211 by decide)]
    by_cases c : x = be 23
    · simp only [if_pos c, if_pos c.symm]; exact ⟨_, _, _, rfl, rfl, hR0⟩
    · simp only [if_neg c, if_neg (show ¬ be 23 = x from fun q => c q.symm)]
      obtain e | e : be 26 = 1 ∨ be 26 = 0 := by omega
      · simp only [if_neg (show ¬ be 26 = 0 by omega)]; exact ⟨_, _, _, rfl, rfl, hR0⟩
      · simp only [if_pos e, bp_some, if_true]
        obtain ⟨h1, g1, k1, k2, ⟨B2, H2, nm2, A, nx, E, nw, sn, s, tp, nl, hd, f, hL2, hP, hI, hW, hS, hT, hC, hM, hu, -⟩, c1, -, -, c5, -⟩ := hR0.keep hn
        have eH : H2 = H := by
          have e1 := hL2.1.2.1
          rw [c1 14 (by decide) (by omega), hL.1.2.1, zN_eq (by omega) (by have := hL2.2.1.2.1; omega)] at e1
          exact e1.symm
        subst eH
        rw [k1, k2, bd_some, bd_some]
        obtain ⟨be, hB, hn1, hn2, hlog⟩ := hP.2.2.1
        have hL := hL2
        unfold X9_go
        rw [bd_some]
        refine ⟨zN x, wI (wI h1 27 5 (zN x)) 27 12 1, _, ?_, rfl, B2, H2, nm2, A, nx, E, nw, sn, s, tp, nl, hd, f, hL.ag (by simp (disch := omega) only [w_ne, w_eq, u_ne, wl_1, w_2, wl_ne, wr_ne, wr_2]) (by simp (disch := omega) only [w_ne, w_eq, u_ne, wl_1, w_2, wl_ne, wr_ne, wr_2]) (by simp (disch := omega) only [w_ne, w_eq, u_ne, wl_1, w_2, wl_ne, wr_ne, wr_2]) (by simp (disch := omega) only [w_ne, w_eq, u_ne, wl_1, w_2, wl_ne, wr_ne, wr_2]) (by simp (disch := omega) only [w_ne, w_eq, u_ne, wl_1, w_2, wl_ne, wr_ne, wr_2]) (by simp (disch := omega) only [w_ne, w_eq, u_ne, wl_1, w_2, wl_ne, wr_ne, wr_2]) (by simp (disch := omega) only [w_ne, w_eq, u_ne, wl_1, w_2, wl_ne, wr_ne, wr_2]), hP.now (fun i _ _ => by simp (disch := omega) only [w_ne, w_eq, u_ne, wl_1, w_2, wl_ne, wr_ne, wr_2]) (by simp (disch := omega) only [w_ne, w_eq, u_ne, wl_1, w_2, wl_ne, wr_ne, wr_2]) (by simp (disch := omega) only [w_ne, w_eq, u_ne, wl_1, w_2, wl_ne, wr_ne, wr_2]) (by simp (disch := omega) only [w_ne, w_eq, u_ne, wl_1, w_2, wl_ne, wr_ne, wr_2]) (by simp (disch := omega) only [w_ne, w_eq, u_ne, wl_1, w_2, wl_ne, wr_ne, wr_2]) (by simp (disch := omega) only [w_ne, w_eq, u_ne, wl_1, w_2, wl_ne, wr_ne, wr_2]) ⟨uN (uN be 23 x) 26 1, ?_, ?_, ?_, ?_⟩, hI.ag (fun i _ _ => by simp (disch := omega) only [w_ne, w_eq, u_ne, wl_1, w_2, wl_ne, wr_ne, wr_2]) (by simp (disch := omega) only [w_ne, w_eq, u_ne, wl_1, w_2, wl_ne, wr_ne, wr_2]) (by simp (disch := omega) only [w_ne, w_eq, u_ne, wl_1, w_2, wl_ne, wr_ne, wr_2]) (by simp (disch := omega) only [w_ne, w_eq, u_ne, wl_1, w_2, wl_ne, wr_ne, wr_2]), hW.ag (by simp (disch := omega) only [w_ne, w_eq, u_ne, wl_1, w_2, wl_ne, wr_ne, wr_2]) (by simp (disch := omega) only [w_ne, w_eq, u_ne, wl_1, w_2, wl_ne, wr_ne, wr_2]) (by simp (disch := omega) only [w_ne, w_eq, u_ne, wl_1, w_2, wl_ne, wr_ne, wr_2]) (by simp (disch := omega) only [w_ne, w_eq, u_ne, wl_1, w_2, wl_ne, wr_ne, wr_2]) (by simp (disch := omega) only [w_ne, w_eq, u_ne, wl_1, w_2, wl_ne, wr_ne, wr_2]) (by simp (disch := omega) only [w_ne, w_eq, u_ne, wl_1, w_2, wl_ne, wr_ne, wr_2]), hS.ag (by simp (disch := omega) only [w_ne, w_eq, u_ne, wl_1, w_2, wl_ne, wr_ne, wr_2]) (by simp (disch := omega) only [w_ne, w_eq, u_ne, wl_1, w_2, wl_ne, wr_ne, wr_2]) (by simp (disch := omega) only [w_ne, w_eq, u_ne, wl_1, w_2, wl_ne, wr_ne, wr_2]) (by simp (disch := omega) only [w_ne, w_eq, u_ne, wl_1, w_2, wl_ne, wr_ne, wr_2]), hT.ag (by simp (disch := omega) only [w_ne, w_eq, u_ne, wl_1, w_2, wl_ne, wr_ne, wr_2]) (by simp (disch := omega) only [w_ne, w_eq, u_ne, wl_1, w_2, wl_ne, wr_ne, wr_2]) (by simp (disch := omega) only [w_ne, w_eq, u_ne, wl_1, w_2, wl_ne, wr_ne, wr_2]) (by simp (disch := omega) only [w_ne, w_eq, u_ne, wl_1, w_2, wl_ne, wr_ne, wr_2]), hC.cg (by simp (disch := omega) only [w_ne, w_eq, u_ne, wl_1, w_2, wl_ne, wr_ne, wr_2]) (by simp (disch := omega) only [w_ne, w_eq, u_ne, wl_1, w_2, wl_ne, wr_ne, wr_2]) (fun i _ _ => by simp (disch := omega) only [w_ne, w_eq, u_ne, wl_1, w_2, wl_ne, wr_ne, wr_2]) (by simp (disch := omega) only [w_ne, w_eq, u_ne, wl_1, w_2, wl_ne, wr_ne, wr_2]), hM.cg (by simp (disch := omega) only [w_ne, w_eq, u_ne, wl_1, w_2, wl_ne, wr_ne, wr_2]) (by simp (disch := omega) only [w_ne, w_eq, u_ne, wl_1, w_2, wl_ne, wr_ne, wr_2]) (by simp (disch := omega) only [w_ne, w_eq, u_ne, wl_1, w_2, wl_ne, wr_ne, wr_2]) (by simp (disch := omega) only [w_ne, w_eq, u_ne, wl_1, w_2, wl_ne, wr_ne, wr_2]) (by simp (disch := omega) only [w_ne, w_eq, u_ne, wl_1, w_2, wl_ne, wr_ne, wr_2]) (by simp (disch := omega) only [w_ne, w_eq, u_ne, wl_1, w_2, wl_ne, wr_ne, wr_2]), (by simp (disch := omega) only [w_ne, w_eq, u_ne, wl_1, w_2, wl_ne, wr_ne, wr_2]; exact hu)⟩
        · simp (disch := omega) only [w_eq, u_ne, u_eq, zN_lit]
        · have z := hB.goes hL.2.1.2.1 x hx
          simp (disch := omega) only [w_ne, w_eq, zN_lit]; exact z
        · simp (disch := omega) only [uN_ne]; exact hn1
        · simp (disch := omega) only [w_eq, u_ne]; exact hn2
        · simp (disch := omega) only [w_eq, w_ne]; exact (hlog.w (by decide)).w (by decide)
  · simp only [c_hasHouse_n hL hx, m_isHouse_n hL hx, bp_some]
    exact ⟨_, _, _, rfl, rfl, hR0⟩
theorem sim_voice (n : Nat) (hn : 20000 ≤ n) : Sim_voice n (R n) := by
  intro x1 x2 h g hR
  have hR0 := hR.thr 0
  obtain ⟨B, H, nm, A, nx, E, nw, sn, s, tp, nl, hd, f, hL, ⟨-, -, ⟨be, hB, -, -, -⟩, -⟩, -⟩ := id hR0
  unfold X11_voice X12_voice
  generalize wI g 251 0 (0 : Int32) = g0 at *
  obtain ⟨b1, -⟩ := hB
  have z := hL.2.1.2.1
  rcases idx x1 H with ⟨x, hx, rfl⟩ | hx
  · obtain ⟨⟨-, e1, -⟩, ⟨-, e2, -⟩, -, z9, -⟩ := b1 x hx
    simp only [c_hasHouse_y hL hx, m_isHouse_y hL hx, bp_some, if_true]
    rcases what x2 9 (by decide) with ⟨v, hv, rfl⟩ | ⟨hx, hx2⟩
    · rw [m_in (m := 9) (L := 0) (U := 9) (by decide) ⟨v, hv, rfl⟩ rfl rfl]
      simp (disch := omega) only [zN_lit, zN_add, zN_mul, bp_some, bd_some, w_eq, w_2, wl_1, u_eq, wr_eq, wr_2, Nat.reduceAdd, Nat.reduceMul, Nat.reduceSub, al_2, al_5, al_6, al_8, al_10, al_11, al_12, al_14, al_15, al_18, al_19, al_20, al_21, al_22, al_23, al_24, al_25, al_28, al_29, al_30, al_31, al_33, al_34, al_35, al_36, al_39, al_41, al_42, al_43, al_44, al_45, al_247, al_248, al_250, al_252, al_253, al_254, al_255, al_256, al_257, al_258, al_259, al_260, al_261, al_262, al_263, al_264, al_265, al_266, al_267, al_268, al_269, al_270, al_271, al_272, al_273, al_1001, al_1002, al_1003, al_1004, al_1005, al_1006, al_1007, ifin' hv (by decide), at_30, e1, zN_eq, zN_inB, zN_ix, e2, if_true, if_pos (show 3 * x + 1 < 211 by omega)]
      by_cases c : be (3 * x + 1) = v
      · simp only [if_pos c]; exact ⟨_, _, _, rfl, rfl, hR0⟩
      · simp only [if_neg c]
        obtain ⟨h1, g1, k1, k2, ⟨B2, H2, nm2, A, nx, E, nw, sn, s, tp, nl, hd, f, hL2, hP, hI, hW, hS, hT, hC, hM, hu, -⟩, c1, -, c4, -⟩ := hR0.keep hn
        have eH : H2 = H := by
          have e1 := hL2.1.2.1
          rw [c1 14 (by decide) (by omega), hL.1.2.1, zN_eq (by omega) (by have := hL2.2.1.2.1; omega)] at e1
          exact e1.symm
        subst eH
        have hL := hL2
        have f1 : h1.1 30 x = zN (be (3 * x + 1)) := by rw [c1 30 (by decide) (by omega)]; exact e1
        have f2 : g1.1 264 (3 * x + 1) = zN (be (3 * x + 1)) := by rw [c4 264 (by decide) (by decide)]; exact e2
        simp (disch := omega) only [k1, k2, bd_some, bp_some, at_30, pu_30, f1, f2]
        obtain ⟨be2, hB, hn1, hn2, hlog⟩ := hP.2.2.1
        refine ⟨_, _, _, rfl, rfl, B2, H2, nm2, A, nx, E, nw, sn, s, tp, nl, hd, f, hL.ag (by simp (disch := omega) only [w_ne, w_eq, u_ne, wl_1, w_2, wl_ne, wr_ne, wr_2]) (by simp (disch := omega) only [w_ne, w_eq, u_ne, wl_1, w_2, wl_ne, wr_ne, wr_2]) (by simp (disch := omega) only [w_ne, w_eq, u_ne, wl_1, w_2, wl_ne, wr_ne, wr_2]) (by simp (disch := omega) only [w_ne, w_eq, u_ne, wl_1, w_2, wl_ne, wr_ne, wr_2]) (by simp (disch := omega) only [w_ne, w_eq, u_ne, wl_1, w_2, wl_ne, wr_ne, wr_2]) (by simp (disch := omega) only [w_ne, w_eq, u_ne, wl_1, w_2, wl_ne, wr_ne, wr_2]) (by simp (disch := omega) only [w_ne, w_eq, u_ne, wl_1, w_2, wl_ne, wr_ne, wr_2]), hP.now (fun i _ _ => by simp (disch := omega) only [w_ne, w_eq, u_ne, wl_1, w_2, wl_ne, wr_ne, wr_2]) (by simp (disch := omega) only [w_ne, w_eq, u_ne, wl_1, w_2, wl_ne, wr_ne, wr_2]) (by simp (disch := omega) only [w_ne, w_eq, u_ne, wl_1, w_2, wl_ne, wr_ne, wr_2]) (by simp (disch := omega) only [w_ne, w_eq, u_ne, wl_1, w_2, wl_ne, wr_ne, wr_2]) (by simp (disch := omega) only [w_ne, w_eq, u_ne, wl_1, w_2, wl_ne, wr_ne, wr_2]) (by simp (disch := omega) only [w_ne, w_eq, u_ne, wl_1, w_2, wl_ne, wr_ne, wr_2]) ⟨uN be2 (3 * x + 1) v, ?_, ?_, ?_, ?_⟩, hI.ag (fun i _ _ => by simp (disch := omega) only [w_ne, w_eq, u_ne, wl_1, w_2, wl_ne, wr_ne, wr_2]) (by simp (disch := omega) only [w_ne, w_eq, u_ne, wl_1, w_2, wl_ne, wr_ne, wr_2]) (by simp (disch := omega) only [w_ne, w_eq, u_ne, wl_1, w_2, wl_ne, wr_ne, wr_2]) (by simp (disch := omega) only [w_ne, w_eq, u_ne, wl_1, w_2, wl_ne, wr_ne, wr_2]), hW.ag (by simp (disch := omega) only [w_ne, w_eq, u_ne, wl_1, w_2, wl_ne, wr_ne, wr_2]) (by simp (disch := omega) only [w_ne, w_eq, u_ne, wl_1, w_2, wl_ne, wr_ne, wr_2]) (by simp (disch := omega) only [w_ne, w_eq, u_ne, wl_1, w_2, wl_ne, wr_ne, wr_2]) (by simp (disch := omega) only [w_ne, w_eq, u_ne, wl_1, w_2, wl_ne, wr_ne, wr_2]) (by simp (disch := omega) only [w_ne, w_eq, u_ne, wl_1, w_2, wl_ne, wr_ne, wr_2]) (by simp (disch := omega) only [w_ne, w_eq, u_ne, wl_1, w_2, wl_ne, wr_ne, wr_2]), hS.ag (by simp (disch := omega) only [w_ne, w_eq, u_ne, wl_1, w_2, wl_ne, wr_ne, wr_2]) (by simp (disch := omega) only [w_ne, w_eq, u_ne, wl_1, w_2, wl_ne, wr_ne, wr_2]) (by simp (disch := omega) only [w_ne, w_eq, u_ne, wl_1, w_2, wl_ne, wr_ne, wr_2]) (by simp (disch := omega) only [w_ne, w_eq, u_ne, wl_1, w_2, wl_ne, wr_ne, wr_2]), hT.ag (by simp (disch := omega) only [w_ne, w_eq, u_ne, wl_1, w_2, wl_ne, wr_ne, wr_2]) (by simp (disch := omega) only [w_ne, w_eq, u_ne, wl_1, w_2, wl_ne, wr_ne, wr_2]) (by simp (disch := omega) only [w_ne, w_eq, u_ne, wl_1, w_2, wl_ne, wr_ne, wr_2]) (by simp (disch := omega) only [w_ne, w_eq, u_ne, wl_1, w_2, wl_ne, wr_ne, wr_2]), hC.cg (by simp (disch := omega) only [w_ne, w_eq, u_ne, wl_1, w_2, wl_ne, wr_ne, wr_2]) (by simp (disch := omega) only [w_ne, w_eq, u_ne, wl_1, w_2, wl_ne, wr_ne, wr_2]) (fun i _ _ => by simp (disch := omega) only [w_ne, w_eq, u_ne, wl_1, w_2, wl_ne, wr_ne, wr_2]) (by simp (disch := omega) only [w_ne, w_eq, u_ne, wl_1, w_2, wl_ne, wr_ne, wr_2]), hM.cg (by simp (disch := omega) only [w_ne, w_eq, u_ne, wl_1, w_2, wl_ne, wr_ne, wr_2]) (by simp (disch := omega) only [w_ne, w_eq, u_ne, wl_1, w_2, wl_ne, wr_ne, wr_2]) (by simp (disch := omega) only [w_ne, w_eq, u_ne, wl_1, w_2, wl_ne, wr_ne, wr_2]) (by simp (disch := omega) only [w_ne, w_eq, u_ne, wl_1, w_2, wl_ne, wr_ne, wr_2]) (by simp (disch := omega) only [w_ne, w_eq, u_ne, wl_1, w_2, wl_ne, wr_ne, wr_2]) (by simp (disch := omega) only [w_ne, w_eq, u_ne, wl_1, w_2, wl_ne, wr_ne, wr_2]), (by simp (disch := omega) only [w_ne, w_eq, u_ne, wl_1, w_2, wl_ne, wr_ne, wr_2]; exact hu)⟩
        · have z := hB.voice hL.2.1.2.1 x v hx hv
          simp (disch := omega) only [w_ne, w_eq]; exact z
        · simp (disch := omega) only [uN_ne]; exact hn1
        · simp (disch := omega) only [w_ne]; exact hn2
        · simp (disch := omega) only [w_eq, w_ne]; exact hlog.w (by omega)
    · rw [m_out (m := 9) (L := 0) (U := 9) hx rfl rfl]
      simp only [zN_lit, ifout' hx]
      exact ⟨_, _, _, rfl, rfl, hR0⟩
  · simp only [c_hasHouse_n hL hx, m_isHouse_n hL hx, bp_some]
    exact ⟨_, _, _, rfl, rfl, hR0⟩
