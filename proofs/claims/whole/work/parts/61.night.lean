/-! night, logged -/
theorem c_note {x c sl E : Nat} {h : Mm} (e : h.1 27 10 = zN E) (hE : E < 2000000) : ∃ h', X5_note 27 (zN x) (zN c) (zN sl) h = some ((), h') ∧ (∀ i, i ≠ 27 → i ≠ 39 → h'.1 i = h.1 i) ∧ (∀ k, k ≠ 10 → h'.1 27 k = h.1 27 k) ∧ h'.1 27 10 = zN (E + 1) ∧ h'.2 = h.2 ∧
    (∀ k, k < 300 → k / 3 ≠ E % 100 → h'.1 39 k = h.1 39 k) ∧ (h'.1 39 (3 * (E % 100)) = zN x ∧ h'.1 39 (3 * (E % 100) + 1) = zN c ∧ h'.1 39 (3 * (E % 100) + 2) = zN sl) := by
  unfold X5_note
  have hm : E % 100 < 100 := Nat.mod_lt _ (by decide)
  rw [e]
  simp (disch := omega) only [zN_lit, c_floorMod, bp_some, zN_mul, zN_add, pu_39, bd_some, w_ne, e]
  generalize E % 100 = m at *
  refine ⟨_, rfl, fun i i1 i2 => ?_, fun k hk => ?_, ?_, rfl, fun k h1 h2 => ?_, ?_, ?_, ?_⟩
  · simp (disch := omega) only [w_ne]
  · simp (disch := omega) only [w_ne, w_eq, u_ne]
  · simp (disch := omega) only [w_ne, w_eq, u_eq]
  · simp (disch := omega) only [w_ne, w_eq, u_ne]
  · simp (disch := omega) only [w_ne, w_eq]; rw [u_ne (by omega), u_ne (by omega), show 3 * m = m * 3 by omega, u_eq]
  · simp (disch := omega) only [w_ne, w_eq]; rw [u_ne (by omega), show 3 * m = m * 3 by omega, u_eq]
  · simp (disch := omega) only [w_ne, w_eq]; rw [show 3 * m = m * 3 by omega, u_eq]
theorem night_now {n B H : Nat} {nm : Nat → Nat} {A nx : Nat} {E : Nat → Nat} {nw sn s : Nat} {tp : Nat → Nat} {nl : Nat} {hd : Int32} {f : Nat → F6} {h g : Mm} (hn : 20000 ≤ n) (q : RW n B H nm A nx E nw sn s tp nl hd f h g) (hA : 1 ≤ A) (hE : E (A - 1) = E A) (h0 : 0 < H) (h9 : E A < 9999) :
    ∃ h' g' r, X11_passLoggedNight n h = some (r, h') ∧ X12_goNight n 264 g = some (r, g') ∧ RW n B H nm A nx (uN E A (E A + 1)) nw sn s tp nl hd f h' g' ∧ (∀ i, (i < 27 ∨ 31 < i) → i ≠ 39 → h'.1 i = h.1 i) ∧ h'.2 = h.2 ∧ (∀ i, i ≠ 264 → g'.1 i = g.1 i) ∧ g'.2 = g.2 := by
  obtain ⟨hL, ⟨⟨p1, p2, p3, p4, p5⟩, pE, ⟨be, hB, hn1, hn2, hlog⟩, pS⟩, hI, hW, hS, hT, hC, hM, hu⟩ := q
  have hH := hL.2.1.2.1
  obtain ⟨h1, g', c1, m1, b1, f1, f2, f3, f4, f5, m7, m8⟩ := pass_bed (a := 27) (r := 264) hL hn (by decide) (by decide) al_28 al_29 al_31 al_264 (by decide) hB h0 (by omega) hlog.1 (by omega)
  obtain ⟨h', k1, k2, k3, k4, k5, k6, k7⟩ := c_note (x := be 23) (c := be 22) (sl := slN nm (be 22) (be 23)) (h := h1) (E := E A) (by rw [f3]; exact hn2) (by omega)
  have hc : ∀ i, (i < 27 ∨ 31 < i) → i ≠ 39 → h'.1 i = h.1 i := fun i i1 i2 => by rw [k2 i (by omega) i2, f1 i (by omega)]
  have r1 : h1.1 39 = h.1 39 := f1 39 (by omega)
  refine ⟨h', g', zN (slN nm (be 22) (be 23)), ?_, m1, ⟨?_, ⟨⟨p1, p2, ?_, ?_, ?_⟩, fun i j h1 h2 => ?_, ⟨nbe nm H be, ?_, ?_, ?_, ?_⟩, fun j hj => ?_⟩, ?_, ?_, ?_, ?_, ?_, ?_, ?_⟩, hc, by rw [k5, f2], f4, f5⟩
  · unfold X11_passLoggedNight
    rw [c1, bd_some, hB.2.2.2.1.1, hB.2.2.1.1, k1, bd_some]
  · exact hL.ag (hc 14 (by omega) (by omega)) (hc 15 (by omega) (by omega)) (by rw [f4 251 (by decide)]) (by rw [f4 251 (by decide)]) (f4 256 (by decide)) (f4 258 (by decide)) (f4 260 (by decide))
  · rw [hc 37 (by omega) (by omega)]; exact p3
  · rw [f4 251 (by decide)]; exact p4
  · rw [hc 37 (by omega) (by omega)]; exact p5
  · by_cases d : j = A
    · subst d
      rw [uN_eq]
      by_cases d2 : i = j
      · subst d2; rw [uN_eq]; omega
      · rw [uN_ne d2]
        have z := pE i (j - 1) (by omega) (by omega)
        omega
    · rw [uN_ne d, uN_ne (by omega)]; exact pE i j h1 h2
  · have e27 : ∀ i, 28 ≤ i → i ≤ 31 → h'.1 i = h1.1 i := fun i i1 i2 => k2 i (by omega) (by omega)
    have z := b1.cg hH (fun k _ => by rw [e27 28 (by decide) (by decide)] : ∀ k, k < 4 → h'.1 28 k = h1.1 28 k) (fun k _ => by rw [e27 29 (by decide) (by decide)] : ∀ k, k < 6 → h'.1 29 k = h1.1 29 k) (fun k _ => by rw [e27 30 (by decide) (by decide)] : ∀ k, k < 6 → h'.1 30 k = h1.1 30 k) (fun k _ => by rw [e27 31 (by decide) (by decide)] : ∀ k, k < 6 → h'.1 31 k = h1.1 31 k) (hf' := upd (h'.1 27) 10 (h1.1 27 10)) (fun k _ _ => by
      by_cases d : k = 10
      · subst d; rw [u_eq]
      · rw [u_ne d, k3 k d]) (fun k _ => rfl : ∀ k, k < 30 → g'.1 264 k = g'.1 264 k)
    obtain ⟨t1, t2, t3, t4, t5, t6, t7, t8⟩ := z
    simp (disch := omega) only [u_ne] at t3 t4 t5 t6 t7 t8
    exact ⟨t1, t2, t3, t4, t5, t6, t7, t8⟩
  · rw [uN_eq, ← hn1]; rfl
  · rw [uN_eq]; exact k4
  · rw [uN_eq]
    exact hlog.step (x := be 23) (c := be 22) (sl := slN nm (be 22) (be 23)) (fun k h1 h2 => by rw [k6 k h1 h2, r1]) k7 m7 m8
  · rw [uN_ne (by omega)]
    obtain ⟨be2, t1, t2, t3, t4⟩ := pS j hj
    have id1 : 46 ≤ ringId nx A j ∧ ringId nx A j + 4 ≤ 245 := by unfold ringId; omega
    have e1 : ∀ i, 46 ≤ i → h'.1 i = h.1 i := fun i hi => hc i (by omega) (by omega)
    refine ⟨be2, ?_, t2, ?_, ?_⟩
    · rw [e1 _ (by omega), e1 _ (by omega), e1 _ (by omega), e1 _ (by omega), e1 _ (by omega), f4 268 (by decide)]; exact t1
    · rw [e1 _ (by omega)]; exact t3
    · rw [f4 268 (by decide)]
      have z := pE j (A - 1) (by omega) (by omega)
      exact t4.old (E := E A) (by omega) (by omega) (fun k h1 h2 => by rw [k6 k h1 h2, r1])
  · exact hI.ag (fun i h1 h2 => hc i (by omega) (by omega)) (by rw [hc 37 (by omega) (by omega)]) (by rw [f4 251 (by decide)]) (f4 272 (by decide))
  · exact hW.ag (by rw [hc 9 (by omega) (by omega)]) (hc 11 (by omega) (by omega)) (hc 12 (by omega) (by omega)) (by rw [f4 251 (by decide)]) (f4 262 (by decide)) (f4 263 (by decide))
  · exact hS.ag (by rw [hc 249 (by omega) (by omega)]) (hc 250 (by omega) (by omega)) (by rw [f4 251 (by decide)]) (f4 270 (by decide))
  · exact hT.ag (by rw [hc 1 (by omega) (by omega)]) (hc 2 (by omega) (by omega)) (by rw [f4 251 (by decide)]) (f4 252 (by decide))
  · exact hC.cg (by rw [hc 16 (by omega) (by omega)]) (by rw [hc 16 (by omega) (by omega)]) (fun i h1 h2 => hc i (by omega) (by omega)) (by rw [k5, f2])
  · exact hM.cg (by rw [f4 251 (by decide)]) (by rw [f4 251 (by decide)]) (f4 253 (by decide)) (f4 254 (by decide)) (by rw [f5]) (f4 267 (by decide))
  · rw [hc 0 (by omega) (by omega), f4 251 (by decide)]; exact hu
theorem R.keepW {n B H : Nat} {nm : Nat → Nat} {A nx : Nat} {E : Nat → Nat} {nw sn s : Nat} {tp : Nat → Nat} {nl : Nat} {hd : Int32} {f : Nat → F6} {h g : Mm} (hn : 20000 ≤ n) (q : RW n B H nm A nx E nw sn s tp nl hd f h g) : ∃ h1 g1 A' nx' E', X5_keep 27 h = some ((), h1) ∧ X12_remember n g = some ((), g1) ∧ RW n B H nm A' nx' E' nw sn s tp nl hd f h1 g1 ∧ (1 ≤ A' ∧ E' (A' - 1) = E' A' ∧ E' A' = E A) ∧ (∀ i, i ≠ 37 → (i < 46 ∨ 245 < i) → h1.1 i = h.1 i) ∧ h1.2 = h.2 ∧ (∀ i, i ≠ 251 → i ≠ 268 → g1.1 i = g.1 i) ∧ (∀ j, j ≠ 39 → g1.1 251 j = g.1 251 j) ∧ g1.2 = g.2 := by
  obtain ⟨hL, hP, hI, hW, hS, hT, hC, hM, hu⟩ := q
  obtain ⟨h1, g1, A', nx', E', k1, k2, k3, ⟨k4, k5, k6⟩, c1, c2, c3, c4, c5, c6⟩ := keep_sim hn hL.2.1.2.1 hP
  exact ⟨h1, g1, A', nx', E', k1, k2, ⟨hL.ag (c1 _ (by decide) (by omega)) (c1 _ (by decide) (by omega)) (c5 _ (by decide)) (c5 _ (by decide)) (c4 _ (by decide) (by decide)) (c4 _ (by decide) (by decide)) (c4 _ (by decide) (by decide)), k3, hI.ag (fun i z1 z2 => c1 i (by omega) (by omega)) (c2 _ (by decide) (by decide)) (c5 _ (by decide)) (c4 _ (by decide) (by decide)),
    hW.ag (by rw [c1 9 (by decide) (by omega)]) (c1 _ (by decide) (by omega)) (c1 _ (by decide) (by omega)) (c5 _ (by decide)) (c4 _ (by decide) (by decide)) (c4 _ (by decide) (by decide)), hS.ag (by rw [c1 249 (by decide) (by omega)]) (c1 _ (by decide) (by omega)) (c5 _ (by decide)) (c4 _ (by decide) (by decide)), hT.ag (by rw [c1 1 (by decide) (by omega)]) (c1 _ (by decide) (by omega)) (c5 _ (by decide)) (c4 _ (by decide) (by decide)),
    hC.cg (by rw [c1 16 (by decide) (by omega)]) (by rw [c1 16 (by decide) (by omega)]) (fun i z1 z2 => c1 i (by omega) (by omega)) (by rw [c3]), hM.cg (c5 _ (by decide)) (c5 _ (by decide)) (c4 _ (by decide) (by decide)) (c4 _ (by decide) (by decide)) (by rw [c6]) (c4 _ (by decide) (by decide)), by rw [c1 0 (by decide) (by omega), c5 _ (by decide)]; exact hu⟩, ⟨k4, k5, k6⟩, c1, c3, c4, c5, c6⟩
theorem RW.r {n B H : Nat} {nm : Nat → Nat} {A nx : Nat} {E : Nat → Nat} {nw sn s : Nat} {tp : Nat → Nat} {nl : Nat} {hd : Int32} {f : Nat → F6} {h g : Mm} (q : RW n B H nm A nx E nw sn s tp nl hd f h g) : R n h g := ⟨B, H, nm, A, nx, E, nw, sn, s, tp, nl, hd, f, q⟩
theorem sim_night (n : Nat) (hn : 20000 ≤ n) : Sim_night n (R n) := by
  intro h g hR
  have hR0 := hR.thr 0
  obtain ⟨B, H, nm, A, nx, E, nw, sn, s, tp, nl, hd, f, hR1⟩ := id hR0
  have hQ : RW n B H nm A nx E nw sn s tp nl hd f h (wI g 251 0 0) := hR1
  obtain ⟨hL, ⟨-, -, ⟨be, hB, hn1, -, -⟩, -⟩, -⟩ := id hR1
  unfold X11_night X9_canPass X12_night
  generalize wI g 251 0 (0 : Int32) = g0 at *
  obtain ⟨-, -, -, -, b5, -, -, -⟩ := hB
  have z := hL.2.1.2.1
  simp (disch := omega) only [c_stands hL, hL.1.2.2.2, zN_lit, zN_add, zN_mul, bp_some, bd_some, w_eq, w_2, wl_1, u_eq, wr_eq, wr_2, Nat.reduceAdd, Nat.reduceMul, Nat.reduceSub, al_2, al_5, al_6, al_8, al_10, al_11, al_12, al_14, al_15, al_18, al_19, al_20, al_21, al_22, al_23, al_24, al_25, al_28, al_29, al_30, al_31, al_33, al_34, al_35, al_36, al_39, al_41, al_42, al_43, al_44, al_45, al_247, al_248, al_250, al_252, al_253, al_254, al_255, al_256, al_257, al_258, al_259, al_260, al_261, al_262, al_263, al_264, al_265, al_266, al_267, al_268, al_269, al_270, al_271, al_272, al_273, al_1001, al_1002, al_1003, al_1004, al_1005, al_1006, al_1007, zN_eq, zN_le, zN_inB, zN_ix, b5.1, b5.2.1]
  by_cases c : H = 0
  · subst c; exact ⟨_, _, _, rfl, rfl, hR0⟩
  · rw [decide_eq_true (show 0 < H by omega), if_pos rfl, if_neg c, if_pos (show 29 < 211 by decide)]
    by_cases d : 9999 ≤ be 29
    · rw [if_pos d, if_pos (by omega)]; exact ⟨_, _, _, rfl, rfl, hR0⟩
    · rw [if_neg d, if_neg (by omega), bp_some, if_pos rfl]
      obtain ⟨h1, g1, A', nx', E', k1, k2, k3, ⟨k4, k5, k6⟩, -⟩ := R.keepW hn hQ
      obtain ⟨h2, g2, r, e1, e2, e3, -⟩ := night_now hn k3 k4 k5 (by omega) (by omega)
      rw [k1, k2, bd_some, bd_some, e1, e2]
      exact ⟨r, h2, g2, rfl, rfl, e3.r⟩
