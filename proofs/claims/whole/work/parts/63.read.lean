/-! a reading, in both -/
theorem c_mbored {b : Nat} {h : Mm} (hb : b ≤ 9) : X9_moreBored (zN b) h = some (zN (min 9 (b + 1))) := by
  unfold X9_moreBored
  simp (disch := omega) only [zN_lit, zN_add, j_min, bp_some, zN_lt]
  by_cases c : 9 < b + 1
  · rw [if_pos c, Nat.min_eq_left (by omega)]
  · rw [if_neg c, Nat.min_eq_right (by omega)]
theorem c_doRead42 {n a B H x kd b t m fa : Nat} {nm : Nat → Nat} {c : Int32} {h g : Mm} (hL : LandR B H nm (h.1 14) (h.1 15) (g.1 251) (g.1 256) (g.1 258) (g.1 260)) (ha : 27 ≤ a) (hb : a < 900) (a1 : aln (a + 1) = 4) (a2 : aln (a + 2) = 6) (hx : x < B) (hf : fa < 6) (hkd : kd = nm (3 + (3 * x + 2))) (h9 : b ≤ 9) (e5 : h.1 a 5 = zN fa) (et : h.1 (a + 2) fa = zN t) (eb : h.1 (a + 1) kd = zN b) :
    X9_doRead_42 n a (zN x) (zN m) c h = some ((), wI (wI (wI (wI h a 4 c) (a + 2) fa (zN (t + m))) (a + 1) kd (zN (min 9 (b + 1)))) a 9 (h.1 a 9 ||| ((1 : Int32) <<< (zN x &&& 31)))) := by
  have kk := (hL.2.2.2.2.2.2.1 x hx).2.2.2
  unfold X9_doRead_42 X9_bore
  rw [w_eq, u_ne (by decide : (5 : Nat) ≠ 4), e5, atN a2 (by decide) (by omega) hf, bp_some, w_ne (by omega : a + 2 ≠ a), et, zN_add, puN a2 (by decide) hf, bd_some,
    c_kind (g := g) (hL.cc (by simp (disch := omega) only [w_ne]) (by simp (disch := omega) only [w_ne])) hx, bp_some, ← hkd, atN a1 (by decide) (by omega) (by omega), bp_some, w_ne (by omega : a + 1 ≠ a + 2), w_ne (by omega : a + 1 ≠ a), eb, c_mbored h9, bp_some, puN a1 (by decide) (by omega), bd_some, bd_some]
  simp (disch := omega) only [w_ne, w_eq, u_ne]
theorem c_doRead {n nl a B H x v b nn t m c fa p : Nat} {nm : Nat → Nat} {hd : Int32} {f : Nat → F6} {sk : Bool} {h g : Mm} (hn : 20000 ≤ n) (hL : LandR B H nm (h.1 14) (h.1 15) (g.1 251) (g.1 256) (g.1 258) (g.1 260)) (hC : LawC n nl hd f h) (ha : 27 ≤ a) (hb : a < 900) (a1 : aln (a + 1) = 4) (a2 : aln (a + 2) = 6) (a3 : aln (a + 3) = 6) (hx : x < B) (hf : fa < 6) (h2 : v ≤ 9) (h3 : b ≤ 9) (h5 : nn < 16384) (hm : m ≤ 9) (h6 : t + m ≤ 60) (hc : c ≤ 99) (hp : p = if sk then m + 1 else m)
    (e4 : h.1 a 4 = zN c) (e5 : h.1 a 5 = zN fa) (e6 : h.1 a 6 = zN nn) (ev : h.1 (a + 3) fa = zN v) (et : h.1 (a + 2) fa = zN t) (eb : h.1 (a + 1) (nm (3 + (3 * x + 2))) = zN b) :
    ∃ h', X9_doRead n a (zN x) (zN p) sk h = some ((), wI (wI (wI (wI h' a 4 (zN (fin sk (pgs (wr6 hd f (nm (3 + (3 * x + 1))) v b nn t) c m)))) (a + 2) fa (zN (t + m))) (a + 1) (nm (3 + (3 * x + 2))) (zN (min 9 (b + 1)))) a 9 (h.1 a 9 ||| ((1 : Int32) <<< (zN x &&& 31)))) ∧ LawC n nl hd f h' ∧ QC h h' := by
  have kk := (hL.2.2.2.2.2.2.1 x hx).2.2.2
  obtain ⟨h1, s1, s2, s3⟩ := c_calmBehind (x := x) (v := v) (b := b) (nn := nn) (t := t) (m := m) (c := c) hn hL hC hx h2 h3 h5 hm h6 hc
  have c9 := pgs_le (W := wr6 hd f (nm (3 + (3 * x + 1))) v b nn t) hc m
  have now : X9_calmNow n a (zN x) (zN m) h = some (zN (pgs (wr6 hd f (nm (3 + (3 * x + 1))) v b nn t) c m), h1) := by
    unfold X9_calmNow
    rw [c_kind hL hx, bp_some, atN a1 (by decide) (by omega) (by omega), bp_some, e5, atN a3 (by decide) (by omega) hf, bp_some, atN a2 (by decide) (by omega) hf, bp_some, e4, e6, ev, et, eb, s1, bd_some]
  have qa : ∀ i, 27 ≤ i → h1.1 i = h.1 i := fun i hi => s3.1 i (by omega) (by omega) (by omega)
  have fin42 := fun c => c_doRead42 (n := n) (m := m) (c := c) (QC.land hL s3) ha hb a1 a2 hx hf rfl h3 (by rw [qa a ha]; exact e5) (by rw [qa _ (by omega)]; exact et) (by rw [qa _ (by omega)]; exact eb)
  refine ⟨h1, ?_, s2, s3⟩
  rw [← qa a ha]
  unfold X9_doRead
  cases sk with
  | true =>
    have e0 : zN p - (1 : Int32) = zN m := by rw [show (1 : Int32) = zN 1 from rfl, hp, zN_sub (by simp)]; rfl
    rw [if_pos rfl, e0]
    unfold X9_doRead_12
    rw [now, bd_some, if_pos rfl, c_skip c9, bp_some]
    exact fin42 _
  | false =>
    rw [if_neg (by decide), show p = m from hp]
    unfold X9_doRead_12
    rw [now, bd_some, if_neg (by decide)]
    exact fin42 _
theorem read_bed {n nl a r B H x m p : Nat} {nm be : Nat → Nat} {hd : Int32} {f : Nat → F6} {sk : Bool} {h g : Mm} (hn : 20000 ≤ n) (hL : LandR B H nm (h.1 14) (h.1 15) (g.1 251) (g.1 256) (g.1 258) (g.1 260)) (hC : LawC n nl hd f h) (hM : LawM n nl hd f g) (ha : 27 ≤ a) (hb : a < 900) (a1 : aln (a + 1) = 4) (a2 : aln (a + 2) = 6) (a3 : aln (a + 3) = 6) (hr : aln r = 211) (hr2 : r = 264 ∨ r = 265)
    (hB : BedR H be (h.1 (a + 1)) (h.1 (a + 2)) (h.1 (a + 3)) (h.1 (a + 4)) (h.1 a) (g.1 r)) (hx : x < B) (hm : m ≤ 9) (h6 : be (3 * be 23) + m ≤ 40) (hp : p = if sk then m + 1 else m) :
    ∃ h' g' be', X9_doRead n a (zN x) (zN p) sk h = some ((), h') ∧ X12_reads n r (zN x) (zN p) sk g = some ((), g') ∧ LawC n nl hd f h' ∧ LawM n nl hd f g' ∧ BedR H be' (h'.1 (a + 1)) (h'.1 (a + 2)) (h'.1 (a + 3)) (h'.1 (a + 4)) (h'.1 a) (g'.1 r) ∧
      (be' 29 = be 29 ∧ be' 22 = fin sk (pgs (wr6 hd f (nm (3 + (3 * x + 1))) (be (3 * be 23 + 1)) (be (18 + nm (3 + (3 * x + 2)))) (be 29) (be (3 * be 23))) (be 22) m)) ∧
      (∀ i, i ≠ 16 → i ≠ 23 → i ≠ 24 → (i < a ∨ a + 2 < i) → h'.1 i = h.1 i) ∧ (∀ k, k ≠ 7 → h'.1 16 k = h.1 16 k) ∧ h'.1 a 10 = h.1 a 10 ∧ (∀ i, i ≠ 25 → h'.2 i = h.2 i) ∧ QMr r g g' ∧ (∀ j, 30 ≤ j → g'.1 r j = g.1 r j) := by
  have hH := hL.2.1.2.1
  have kk := (hL.2.2.2.2.2.2.1 x hx).2.2.2
  have hB' := hL.2.1.2.2
  obtain ⟨q1, q2, q3, q4, q5, q6, q7, q8⟩ := hB
  have hf : be 23 < H := by omega
  obtain ⟨⟨t1, t2, t3⟩, ⟨u1, u2, u3⟩, v1, v2, v3⟩ := q1 _ hf
  obtain ⟨b1, b2, b3⟩ := q2 (nm (3 + (3 * x + 2))) (by omega)
  obtain ⟨h1, s1, s2, s3⟩ := c_doRead (sk := sk) hn hL hC ha hb a1 a2 a3 hx (by omega) v2 b3 (by omega) hm (by omega) q3.2.2 hp q3.1 q4.1 q5.1 t2 t1 b1
  obtain ⟨g', r1, r2, r3, r4, r5, r6, r7, r8⟩ := m_reads (sk := sk) hn hr hr2 hx (by omega) v2 b3 (by omega) hm (by omega) q3.2.2 hp hL hM q4.2.1 q3.2.1 u2 b2 q5.2.1 u1
  have qa : ∀ i, 27 ≤ i → h1.1 i = h.1 i := fun i hi => s3.1 i (by omega) (by omega) (by omega)
  have c9 := fin_le (sk := sk) (pgs_le (W := wr6 hd f (nm (3 + (3 * x + 1))) (be (3 * be 23 + 1)) (be (18 + nm (3 + (3 * x + 2)))) (be 29) (be (3 * be 23))) q3.2.2 m)
  generalize fin sk (pgs (wr6 hd f (nm (3 + (3 * x + 1))) (be (3 * be 23 + 1)) (be (18 + nm (3 + (3 * x + 2)))) (be 29) (be (3 * be 23))) (be 22) m) = cf at *
  generalize nm (3 + (3 * x + 2)) = kd at *
  refine ⟨_, g', uN (uN (uN be 22 cf) (3 * be 23) (be (3 * be 23) + m)) (18 + kd) (min 9 (be (18 + kd) + 1)), s1, r1, ?_, r2, ⟨fun y hy => ?_, fun k hk => ?_, ?_, ?_, ?_, ?_, ?_, ?_⟩, ⟨?_, ?_⟩, fun i i1 i2 i3 i4 => ?_, fun k hk => ?_, ?_, fun i hi => ?_, r3, fun j hj => r8 j (by omega) (by omega) (by omega) (by omega)⟩
  · exact s2.cg (by simp (disch := omega) only [w_ne]) (by simp (disch := omega) only [w_ne]) (fun i i1 i2 => by simp (disch := omega) only [w_ne]) rfl
  · obtain ⟨⟨p1, p2, p3⟩, ⟨p4, p5, p6⟩, p7, p8, p9⟩ := q1 y hy
    by_cases d : y = be 23
    · subst d
      simp (disch := omega) only [w_ne, w_eq, uN_ne, uN_eq, u_eq, qa, r5, r8]
      exact ⟨⟨trivial, p2, p3⟩, ⟨trivial, p5, p6⟩, h6, p8, p9⟩
    · simp (disch := omega) only [w_ne, w_eq, uN_ne, u_ne, qa, r8]
      exact ⟨⟨p1, p2, p3⟩, ⟨p4, p5, p6⟩, p7, p8, p9⟩
  · obtain ⟨p1, p2, p3⟩ := q2 k hk
    by_cases d : k = kd
    · subst d
      simp (disch := omega) only [w_ne, w_eq, uN_ne, uN_eq, u_eq, qa, r6]
      exact ⟨trivial, trivial, by omega⟩
    · simp (disch := omega) only [w_ne, w_eq, uN_ne, u_ne, qa, r8]
      exact ⟨p1, p2, p3⟩
  · simp (disch := omega) only [w_ne, w_eq, uN_ne, uN_eq, u_ne, u_eq, r4]; exact ⟨trivial, trivial, c9⟩
  · simp (disch := omega) only [w_ne, w_eq, uN_ne, u_ne, qa, r8]; exact q4
  · simp (disch := omega) only [w_ne, w_eq, uN_ne, u_ne, qa, r8]; exact q5
  · simp (disch := omega) only [w_ne, w_eq, u_ne, u_eq, qa, r8, r7]; exact ⟨q6.1, q6.2.1, by rw [q6.2.2]⟩
  · simp (disch := omega) only [w_ne, w_eq, uN_ne, u_ne, qa, r8]; exact q7
  · simp (disch := omega) only [w_ne, w_eq, uN_ne, u_ne, qa, r8]; exact q8
  · simp (disch := omega) only [uN_ne]
  · simp (disch := omega) only [uN_ne, uN_eq]
  · simp (disch := omega) only [w_ne]; exact s3.1 i i1 i2 i3
  · simp (disch := omega) only [w_ne]; exact s3.2.1 k hk
  · simp (disch := omega) only [w_ne, w_eq, u_ne, qa]
  · exact s3.2.2 i hi
