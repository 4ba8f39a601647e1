theorem m_tx0 {n : Nat} {g : Mm} : X12_text n (zN 0) g = X12_text_43 n (zN 0) (wI g 251 0 0) := by
  unfold X12_text X12_text_30
  rw [m_in02, bp_some, decide_eq_true (show zN 0 ≤ zN 0 ∧ zN 0 ≤ zN 2 by decide), if_pos rfl, if_neg (show ¬ zN 0 = 1 by decide), if_neg (show ¬ zN 0 = 2 by decide)]
theorem txt_land {n B H : Nat} {nm : Nat → Nat} {A nx : Nat} {E : Nat → Nat} {nw sn s : Nat} {tp : Nat → Nat} {nl : Nat} {hd : Int32} {f : Nat → F6} {h g : Mm} (hn : 20000 ≤ n) (hQ : RW n B H nm A nx E nw sn s tp nl hd f h g) : ∃ r h2 g2, X11_text n (zN 0) h = some (r, h2) ∧ X12_text_43 n (zN 0) g = some (r, g2) ∧ R n h2 g2 := by
  have hQ0 : RW n B H nm A nx E nw sn s tp nl hd f h (wI g 251 0 0) := hQ.pr AgC.rf (AgM.w rfl).pr
  have ht := hQ0.2.2.2.2.2.1
  have t1 := ht.1.1
  have em : X12_text_43 n (zN 0) g = bd (X12_fault n (zN 0) g) (fun r38 h40 => (if r38 = (-1 : Int32) then X12_text_223 n n (0 : Int32) (wI (wI (wI h40 251 6 (0 : Int32)) 251 26 ((wI h40 251 6 (0 : Int32)).1 251 28)) 251 27 ((wI (wI h40 251 6 (0 : Int32)) 251 26 ((wI h40 251 6 (0 : Int32)).1 251 28)).1 251 29)) else some (-1, h40))) := by
    unfold X12_text_43
    congr 1
  rw [em, m_fl0]
  rcases ent_land hn ht with ⟨h', g', Q, u1, u2, u3, u4, u5, u6, u7⟩ | ⟨h', g', cnt, mm, u1, u2, u3, u4, u5, dr, k1, k2⟩
  · exact ⟨-1, h', g', c_txf (by omega) (c_r0 u2), by rw [u3, bd_some, bd_some, u5, if_neg (zN_nm1 (by omega))], (hQ0.pr u6 u7).r⟩
  · have hQ' := hQ0.pr u4 u5
    obtain ⟨hL', hP', hI', hW', hS', hT', hC', hM', hu'⟩ := id hQ'
    obtain ⟨p1, p2, p3⟩ := dr.1 1 (by omega)
    obtain ⟨q1, q2, q3⟩ := dr.1 2 (by omega)
    have p3 : cnt 1 ≤ 6 := p3
    have q3 : cnt 2 ≤ 6 := q3
    have p2 : g'.1 251 28 = zN (cnt 1) := p2
    have q2 : g'.1 251 29 = zN (cnt 2) := q2
    obtain ⟨h3, a1, a2, a3, a4, a5, a6, a7, a8, ⟨a9, a10, a11, a12⟩, a13⟩ := c_move (n := n) hn q1
    have eg : wI (wI (wI g' 251 6 (0 : Int32)) 251 26 ((wI g' 251 6 (0 : Int32)).1 251 28)) 251 27 ((wI (wI g' 251 6 (0 : Int32)) 251 26 ((wI g' 251 6 (0 : Int32)).1 251 28)).1 251 29) = wI (wI (wI g' 251 6 0) 251 26 (zN (cnt 1))) 251 27 (zN (cnt 2)) := by
      rw [w_eq, u_ne (by decide), p2, w_eq, u_ne (by decide), w_eq, u_ne (by decide), q2]
    obtain ⟨g3, b1, b2, b3, ⟨b4, b5, b6⟩, b7, b8, b9, b10, b11, b12, b13⟩ := m_move (n := n) (g := wI (wI (wI g' 251 6 0) 251 26 (zN (cnt 1))) 251 27 (zN (cnt 2))) hn q3 (by rw [w_eq, u_eq])
    have ek : X11_text n (zN 0) h = some (zN (cnt 2), wI h3 1 1 0) := by
      unfold X11_text
      rw [if_neg (show ¬ zN 0 < 0 by decide), if_neg (show ¬ (2 : Int32) < zN 0 by decide), c_r0 u1, bd_some, if_pos rfl, if_pos (show zN 0 = 0 from rfl), a1, bd_some]
      refine c_cut (by omega) t1 ?_
      rw [a2 1 (by decide) (by decide) (by decide) (by decide) (by decide)]; exact hT'.1.2.1
    refine ⟨zN (cnt 2), wI h3 1 1 0, g3, ek, by rw [u2, bd_some, bd_some, u3, if_pos rfl, eg]; exact b1, ?_⟩
    -- the numbers told
    have N0 : ∀ k, k < 3 → h'.1 6 k = zN (mm k) ∧ g'.1 257 k = zN (mm k) ∧ loK 0 k ≤ mm k ∧ mm k ≤ hiK 0 k := fun k hk => by
      have z := dr.2 0 0 k (by omega) (by unfold rwK; rw [if_pos rfl]; omega) hk
      rw [show ofK 0 + 3 * 0 + k = k by show 0 + 3 * 0 + k = k; omega, show 3 * 0 + k = k by omega] at z
      exact z
    have N1 : ∀ b j, b < cnt 1 → j < 3 → h'.1 6 (3 + (3 * b + j)) = zN (mm (3 + (3 * b + j))) ∧ g'.1 259 (3 * b + j) = zN (mm (3 + (3 * b + j))) ∧ loK 1 j ≤ mm (3 + (3 * b + j)) ∧ mm (3 + (3 * b + j)) ≤ hiK 1 j := fun b j hb hj => by
      have z := dr.2 1 b j (by omega) (by unfold rwK; rw [if_neg (by decide)]; exact hb) hj
      rw [show ofK 1 + 3 * b + j = 3 + (3 * b + j) by show 3 + 3 * b + j = _; omega] at z
      exact z
    have N2 : ∀ b j, b < cnt 2 → j < 3 → h'.1 6 (21 + (3 * b + j)) = zN (mm (21 + (3 * b + j))) ∧ g'.1 261 (3 * b + j) = zN (mm (21 + (3 * b + j))) ∧ loK 2 j ≤ mm (21 + (3 * b + j)) ∧ mm (21 + (3 * b + j)) ≤ hiK 2 j := fun b j hb hj => by
      have z := dr.2 2 b j (by omega) (by unfold rwK; rw [if_neg (by decide)]; exact hb) hj
      rw [show ofK 2 + 3 * b + j = 21 + (3 * b + j) by show 21 + 3 * b + j = _; omega] at z
      exact z
    have G257 : ∀ i, i ≠ 251 → (wI (wI (wI g' 251 6 0) 251 26 (zN (cnt 1))) 251 27 (zN (cnt 2))).1 i = g'.1 i := fun i hi => by rw [w_ne hi, w_ne hi, w_ne hi]
    have G251 : ∀ k, k ≠ 6 → k ≠ 26 → k ≠ 27 → (wI (wI (wI g' 251 6 0) 251 26 (zN (cnt 1))) 251 27 (zN (cnt 2))).1 251 k = g'.1 251 k := fun k y1 y2 y3 => by rw [w_eq, u_ne y3, w_eq, u_ne y2, w_eq, u_ne y1]
    have c2 : ∀ i, i ≠ 1 ∧ i ≠ 14 ∧ i ≠ 15 ∧ i ≠ 37 ∧ i ≠ 249 ∧ (i < 27 ∨ 31 < i) → (wI h3 1 1 0).1 i = h'.1 i := fun i z => by rw [w_ne z.1, a2 i z.2.1 z.2.2.1 z.2.2.2.1 z.2.2.2.2.1 z.2.2.2.2.2]
    have c1 : ∀ i, i ≠ 1 → (wI h3 1 1 0).1 i = h3.1 i := fun i z => w_ne z
    have m1 : ∀ i, i ≠ 251 ∧ i ≠ 256 ∧ i ≠ 258 ∧ i ≠ 260 ∧ i ≠ 264 → g3.1 i = g'.1 i := fun i z => by rw [b2 i z.1 z.2.1 z.2.2.1 z.2.2.2.1 z.2.2.2.2, G257 i z.1]
    have m2 : ∀ k, k ≠ 6 ∧ k ≠ 26 ∧ k ≠ 27 ∧ k ≠ 39 ∧ k ≠ 47 ∧ k ≠ 50 → g3.1 251 k = g'.1 251 k := fun k z => by rw [b3 k z.2.2.2.2.1 z.2.2.2.1 z.2.2.2.2.2, G251 k z.1 z.2.1 z.2.2.1]
    have e26 : g3.1 251 26 = zN (cnt 1) := by rw [b3 26 (by decide) (by decide) (by decide), w_eq, u_ne (by decide), w_eq, u_eq]
    have e27 : g3.1 251 27 = zN (cnt 2) := by rw [b3 27 (by decide) (by decide) (by decide), w_eq, u_eq]
    have e6 : g3.1 251 6 = zN 0 := by rw [b3 6 (by decide) (by decide) (by decide), w_eq, u_ne (by decide), w_eq, u_ne (by decide), w_eq, u_eq]; rfl
    have h0 : 0 < cnt 2 := by omega
    have w0 : ∀ k, k < 211 → k ≠ 22 → (∀ y, y < cnt 2 → k ≠ 3 * y + 1) → g3.1 264 k = zN 0 := fun k y1 y2 y3 => by rw [b12 k y1 y2 y3]; rfl
    have l0 := N0 0 (by omega)
    have l0b : mm 0 ≤ 99 := l0.2.2.2
    refine ⟨cnt 1, cnt 2, mm, 0, nx, fun _ => 0, nw, 0, 0, tp, nl, hd, f, ?_, ?_, ?_, ?_, ?_, ?_, ?_, ?_, ?_⟩
    · rw [c1 14 (by decide), c1 15 (by decide)]
      refine ⟨⟨by rw [a3 1 (by omega)]; exact p1, by rw [a3 2 (by omega)]; exact q1, e26, e27⟩, ⟨p3, q3, by omega⟩, fun k hk => ⟨by rw [a4 k (by omega)]; exact (N0 k hk).1, by rw [b7 k hk, G257 257 (by decide)]; exact (N0 k hk).2.1⟩, fun k hk => ?_, fun k hk => ?_, ⟨l0b, (N0 1 (by omega)).2.2.2, (N0 2 (by omega)).2.2.2⟩, fun b hb => ?_, fun x hx => ?_⟩
      · have z := N1 (k / 3) (k % 3) (by omega) (by omega)
        rw [show 3 * (k / 3) + k % 3 = k by omega] at z
        exact ⟨by rw [a4 _ (by omega)]; exact z.1, by rw [b8 k (by omega), G257 259 (by decide)]; exact z.2.1⟩
      · have z := N2 (k / 3) (k % 3) (by omega) (by omega)
        rw [show 3 * (k / 3) + k % 3 = k by omega] at z
        exact ⟨by rw [a4 _ (by omega)]; exact z.1, by rw [b9 k (by omega), G257 261 (by decide)]; exact z.2.1⟩
      · have z0 := (N1 b 0 hb (by omega)).2.2
        have z1 := (N1 b 1 hb (by omega)).2.2
        have z2 := (N1 b 2 hb (by omega)).2.2
        exact ⟨z0.1, z0.2, z1.2, z2.2⟩
      · exact ⟨(N2 x 0 hx (by omega)).2.2.2, (N2 x 1 hx (by omega)).2.2.2, (N2 x 2 hx (by omega)).2.2.2⟩
    · refine ⟨⟨by omega, hP'.1.2.1, by rw [c1 37 (by decide)]; exact a9, b5, by rw [c1 37 (by decide), a11]; exact hP'.1.2.2.2.2⟩, fun i j _ _ => ⟨Nat.le_refl _, Nat.zero_le _⟩, ⟨fun k => if k = 22 then mm 0 else if k < 18 ∧ k % 3 = 1 then mm (21 + (k + 1)) else 0, ⟨fun x hx => ?_, fun k hk => ?_, ?_, ?_, ?_, ?_, ?_, ?_⟩, rfl, by rw [c1 27 (by decide), a8 10 (by decide) (by decide)]; rfl, ?_⟩, fun j hj => absurd hj (Nat.not_lt_zero j)⟩
      · obtain ⟨y1, y2, y3⟩ := a5 x (by omega)
        have z := N2 x 2 hx (by omega)
        have f0 : (if 3 * x = 22 then mm 0 else if 3 * x < 18 ∧ 3 * x % 3 = 1 then mm (21 + (3 * x + 1)) else 0) = 0 := by rw [if_neg (by omega), if_neg (by omega)]
        have f1 : (if 3 * x + 1 = 22 then mm 0 else if 3 * x + 1 < 18 ∧ (3 * x + 1) % 3 = 1 then mm (21 + (3 * x + 1 + 1)) else 0) = mm (21 + (3 * x + 2)) := by rw [if_neg (by omega), if_pos (by omega)]
        have f2 : (if 3 * x + 2 = 22 then mm 0 else if 3 * x + 2 < 18 ∧ (3 * x + 2) % 3 = 1 then mm (21 + (3 * x + 2 + 1)) else 0) = 0 := by rw [if_neg (by omega), if_neg (by omega)]
        simp only [f0, f1, f2]
        rw [c1 _ (by decide), c1 _ (by decide), c1 _ (by decide)]
        refine ⟨⟨y2, by rw [y1]; exact z.1, y3⟩, ⟨w0 _ (by omega) (by omega) (fun y hy => by omega), by rw [b11 x hx, G257 261 (by decide)]; exact z.2.1, w0 _ (by omega) (by omega) (fun y hy => by omega)⟩, by omega, z.2.2.2, Nat.zero_le _⟩
      · have f0 : (if 18 + k = 22 then mm 0 else if 18 + k < 18 ∧ (18 + k) % 3 = 1 then mm (21 + (18 + k + 1)) else 0) = 0 := by rw [if_neg (by omega), if_neg (by omega)]
        simp only [f0]
        rw [c1 _ (by decide)]
        exact ⟨a6 k hk, w0 _ (by omega) (by omega) (fun y hy => by omega), by omega⟩
      · rw [c1 27 (by decide), a7, b10, G257 257 (by decide)]
        exact ⟨l0.1, l0.2.1, l0b⟩
      · rw [c1 27 (by decide), a8 5 (by decide) (by decide)]
        exact ⟨rfl, w0 23 (by omega) (by omega) (fun y hy => by omega), Or.inl h0⟩
      · rw [c1 27 (by decide), a8 6 (by decide) (by decide)]
        exact ⟨rfl, w0 29 (by omega) (by omega) (fun y hy => by omega), Nat.zero_le _⟩
      · rw [c1 27 (by decide), a8 7 (by decide) (by decide), a8 8 (by decide) (by decide), a8 9 (by decide) (by decide), w0 27 (by omega) (by omega) (fun y hy => by omega), w0 28 (by omega) (by omega) (fun y hy => by omega), w0 24 (by omega) (by omega) (fun y hy => by omega)]
        exact ⟨rfl, rfl, rfl⟩
      · rw [c1 27 (by decide), a8 11 (by decide) (by decide)]
        exact ⟨rfl, w0 25 (by omega) (by omega) (fun y hy => by omega), Nat.zero_le _⟩
      · rw [c1 27 (by decide), a8 12 (by decide) (by decide)]
        exact ⟨rfl, w0 26 (by omega) (by omega) (fun y hy => by omega), Nat.zero_le _⟩
      · exact ⟨w0 30 (by omega) (by omega) (fun y hy => by omega), fun i c hi _ => absurd hi (Nat.not_lt_zero i)⟩
    · have z4 : (wI h3 1 1 0).1 37 4 = 0 := by rw [c1 37 (by decide)]; exact a10
      exact ⟨by rw [z4, b6], Or.inl z4⟩
    · exact hW'.ag (by rw [c2 9 (by decide)]) (c2 11 (by decide)) (c2 12 (by decide)) (m2 30 (by decide)) (m1 262 (by decide)) (m1 263 (by decide))
    · exact ⟨⟨Nat.zero_le _, by rw [c1 249 (by decide)]; exact a12, b4⟩, fun j hj => absurd hj (Nat.not_lt_zero j)⟩
    · exact ⟨⟨Nat.zero_le _, by rw [w_eq, u_eq]; rfl, e6⟩, fun k hk => absurd hk (Nat.not_lt_zero k)⟩
    · exact hC'.cg (by rw [c2 16 (by decide)]) (by rw [c2 16 (by decide)]) (fun i h1 h2 => c2 i (by omega)) (by show h3.2 25 = _; rw [a13])
    · exact hM'.cg (m2 7 (by decide)) (m2 34 (by decide)) (m1 253 (by decide)) (m1 254 (by decide)) (by rw [b13]; rfl) (m1 267 (by decide))
    · rw [c2 0 (by decide), m2 35 (by decide)]; exact hu'
theorem sim_text (n : Nat) (hn : 20000 ≤ n) : Sim_text n (R n) := by
  intro x1 h g hR
  have hR0 := hR.thr 0
  obtain ⟨B, H, nm, A, nx, E, nw, sn, s, tp, nl, hd, f, hR1⟩ := id hR0
  have hQ : RW n B H nm A nx E nw sn s tp nl hd f h (wI g 251 0 0) := hR1
  have out : ¬ (zN 0 ≤ x1 ∧ x1 ≤ zN 2) → ∃ (r : Int32) (h2 g2 : Mm), X11_text n x1 h = some (r, h2) ∧ X12_text n x1 g = some (r, g2) ∧ R n h2 g2 := fun z => by
    refine ⟨-1, h, wI g 251 0 0, ?_, ?_, hR0⟩
    · unfold X11_text
      by_cases c : x1 < 0
      · rw [if_pos c]
      · rw [if_neg c, if_pos (show (2 : Int32) < x1 from Int32.not_le.mp (fun y => z ⟨Int32.not_lt.mp c, y⟩))]
    · unfold X12_text
      rw [m_in02, bp_some, decide_eq_false z, if_neg (show ¬ (false = true) by decide)]
  rcases i32_cases x1 with c | ⟨k, hk, rfl⟩
  · exact out (fun z => Int32.not_le.mpr c z.1)
  · by_cases k2 : k ≤ 2
    · rcases (show k = 0 ∨ k = 1 ∨ k = 2 by omega) with rfl | rfl | rfl
      · rw [m_tx0]; exact txt_land hn hQ
      · rw [m_tx1]; exact txt_law hn hQ
      · rw [m_tx2]; exact txt_week hn hQ
    · exact out (fun z => k2 ((zN_le hk (by decide)).mp z.2))
