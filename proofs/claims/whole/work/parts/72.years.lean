/-! years by draws -/
def dX (v : Int64) : Int64 := v * (6364136223846793005 : Int64) + (1442695040888963407 : Int64)
def dK (v : Int64) (m : Nat) : Nat := (dX v).toUInt64.toNat / 8589934592 % m
theorem sh33 (x : UInt64) : (x >>> ((33 : Int32).toInt64.toUInt64 &&& Int64.toUInt64 63)).toInt64 = qN (x.toNat / 8589934592) := by
  have hx := x.toNat_lt
  have e : x >>> ((33 : Int32).toInt64.toUInt64 &&& Int64.toUInt64 63) = UInt64.ofNat (x.toNat / 8589934592) := by
    apply UInt64.toNat_inj.mp
    have e2 : (UInt64.ofNat (x.toNat / 8589934592)).toNat = x.toNat / 8589934592 := UInt64.toNat_ofNat_of_lt' (by have := Nat.div_le_self x.toNat 8589934592; have e3 : UInt64.size = 18446744073709551616 := rfl; omega)
    rw [UInt64.toNat_shiftRight, show ((33 : Int32).toInt64.toUInt64 &&& Int64.toUInt64 63).toNat % 64 = 33 from by decide +kernel, Nat.shiftRight_eq_div_pow, e2]
  rw [e, UInt64.toInt64_ofNat']; rfl
theorem dK_lt (v : Int64) {m : Nat} (h : 1 ≤ m) : dK v m < m := Nat.mod_lt _ h
theorem dv_val (v : Int64) {m : Nat} (h1 : 1 ≤ m) (h2 : m ≤ 10) : (((dX v).toUInt64 >>> ((33 : Int32).toInt64.toUInt64 &&& Int64.toUInt64 63)).toInt64 - ((dX v).toUInt64 >>> ((33 : Int32).toInt64.toUInt64 &&& Int64.toUInt64 63)).toInt64 / (zN m).toInt64 * (zN m).toInt64).toInt32 = zN (dK v m) := by
  have hx := (dX v).toUInt64.toNat_lt
  rw [sh33, q64 (by omega), qN_mod (by omega) (by omega), qN_32]; rfl
theorem nz64 {m : Nat} (h1 : 1 ≤ m) (h2 : m ≤ 10) : ¬ (zN m).toInt64 = 0 := by
  rw [q64 (by omega), qN_lit, qN_eq (by omega) (by decide)]; omega
theorem c_draw {m : Nat} {h : Mm} (h1 : 1 ≤ m) (h2 : m ≤ 10) : X11_draw (zN m) h = some (zN (dK (h.2 0 13) m), wL h 0 13 (dX (h.2 0 13))) := by
  unfold X11_draw
  rw [if_neg (show ¬ zN m ≤ 0 by rw [zN_lit, zN_le (by omega) (by decide)]; omega), if_pos (nz64 h1 h2), wl_eq, ul_eq]
  rw [← dv_val (h.2 0 13) h1 h2]; rfl
theorem m_draw {m : Nat} {g : Mm} (h1 : 1 ≤ m) (h2 : m ≤ 10) : X12_draw (zN m) g = some (zN (dK (g.2 251 40) m), wL g 251 40 (dX (g.2 251 40))) := by
  unfold X12_draw
  rw [if_pos (nz64 h1 h2), wl_eq, ul_eq]
  rw [← dv_val (g.2 251 40) h1 h2]; rfl
theorem RW.wl {n B H : Nat} {nm : Nat → Nat} {A nx : Nat} {E : Nat → Nat} {nw sn s : Nat} {tp : Nat → Nat} {nl : Nat} {hd : Int32} {f : Nat → F6} {h g : Mm} (q : RW n B H nm A nx E nw sn s tp nl hd f h g) {v w : Int64} : RW n B H nm A nx E nw sn s tp nl hd f (wL h 0 13 v) (wL g 251 40 w) := by
  obtain ⟨hL, hP, hI, hW, hS, hT, hC, hM, hu⟩ := q
  exact ⟨hL, hP, hI, hW, hS, hT, hC.cg rfl rfl (fun _ _ _ => rfl) (wl_ne (by decide)), hM.cg rfl rfl rfl rfl (wl_ne (by decide)) rfl, hu⟩
theorem RW.drink {n B H : Nat} {nm : Nat → Nat} {A nx : Nat} {E : Nat → Nat} {nw sn s : Nat} {tp : Nat → Nat} {nl : Nat} {hd : Int32} {f : Nat → F6} {h g : Mm} (q : RW n B H nm A nx E nw sn s tp nl hd f h g) : ∃ v, v ≤ 99 ∧ X9_drink 27 h = some ((), wI (wI h 27 4 (zN v)) 27 11 (zN 1)) ∧ X12_drinks 264 g = some ((), wI (wI g 264 22 (zN v)) 264 25 (zN 1)) ∧ RW n B H nm A nx E nw sn s tp nl hd f (wI (wI h 27 4 (zN v)) 27 11 (zN 1)) (wI (wI g 264 22 (zN v)) 264 25 (zN 1)) := by
  obtain ⟨hL, hP, hI, hW, hS, hT, hC, hM, hu⟩ := q
  obtain ⟨be, hB, hn1, hn2, hlog⟩ := hP.2.2.1
  have hH := hL.2.1.2.1
  obtain ⟨v, hv, d1, d2⟩ := drink_both (a := 27) (r := 264) hB hH al_264
  refine ⟨v, hv, d1, d2, hL.ag (by simp (disch := omega) only [w_ne, w_eq, u_ne, wl_1, w_2, wl_ne, wr_ne, wr_2]) (by simp (disch := omega) only [w_ne, w_eq, u_ne, wl_1, w_2, wl_ne, wr_ne, wr_2]) (by simp (disch := omega) only [w_ne, w_eq, u_ne, wl_1, w_2, wl_ne, wr_ne, wr_2]) (by simp (disch := omega) only [w_ne, w_eq, u_ne, wl_1, w_2, wl_ne, wr_ne, wr_2]) (by simp (disch := omega) only [w_ne, w_eq, u_ne, wl_1, w_2, wl_ne, wr_ne, wr_2]) (by simp (disch := omega) only [w_ne, w_eq, u_ne, wl_1, w_2, wl_ne, wr_ne, wr_2]) (by simp (disch := omega) only [w_ne, w_eq, u_ne, wl_1, w_2, wl_ne, wr_ne, wr_2]), hP.now (fun i _ _ => by simp (disch := omega) only [w_ne, w_eq, u_ne, wl_1, w_2, wl_ne, wr_ne, wr_2]) (by simp (disch := omega) only [w_ne, w_eq, u_ne, wl_1, w_2, wl_ne, wr_ne, wr_2]) (by simp (disch := omega) only [w_ne, w_eq, u_ne, wl_1, w_2, wl_ne, wr_ne, wr_2]) (by simp (disch := omega) only [w_ne, w_eq, u_ne, wl_1, w_2, wl_ne, wr_ne, wr_2]) (by simp (disch := omega) only [w_ne, w_eq, u_ne, wl_1, w_2, wl_ne, wr_ne, wr_2]) (by simp (disch := omega) only [w_ne, w_eq, u_ne, wl_1, w_2, wl_ne, wr_ne, wr_2]) ⟨uN (uN be 22 v) 25 1, ?_, ?_, ?_, ?_⟩, hI.ag (fun i _ _ => by simp (disch := omega) only [w_ne, w_eq, u_ne, wl_1, w_2, wl_ne, wr_ne, wr_2]) (by simp (disch := omega) only [w_ne, w_eq, u_ne, wl_1, w_2, wl_ne, wr_ne, wr_2]) (by simp (disch := omega) only [w_ne, w_eq, u_ne, wl_1, w_2, wl_ne, wr_ne, wr_2]) (by simp (disch := omega) only [w_ne, w_eq, u_ne, wl_1, w_2, wl_ne, wr_ne, wr_2]), hW.ag (by simp (disch := omega) only [w_ne, w_eq, u_ne, wl_1, w_2, wl_ne, wr_ne, wr_2]) (by simp (disch := omega) only [w_ne, w_eq, u_ne, wl_1, w_2, wl_ne, wr_ne, wr_2]) (by simp (disch := omega) only [w_ne, w_eq, u_ne, wl_1, w_2, wl_ne, wr_ne, wr_2]) (by simp (disch := omega) only [w_ne, w_eq, u_ne, wl_1, w_2, wl_ne, wr_ne, wr_2]) (by simp (disch := omega) only [w_ne, w_eq, u_ne, wl_1, w_2, wl_ne, wr_ne, wr_2]) (by simp (disch := omega) only [w_ne, w_eq, u_ne, wl_1, w_2, wl_ne, wr_ne, wr_2]), hS.ag (by simp (disch := omega) only [w_ne, w_eq, u_ne, wl_1, w_2, wl_ne, wr_ne, wr_2]) (by simp (disch := omega) only [w_ne, w_eq, u_ne, wl_1, w_2, wl_ne, wr_ne, wr_2]) (by simp (disch := omega) only [w_ne, w_eq, u_ne, wl_1, w_2, wl_ne, wr_ne, wr_2]) (by simp (disch := omega) only [w_ne, w_eq, u_ne, wl_1, w_2, wl_ne, wr_ne, wr_2]), hT.ag (by simp (disch := omega) only [w_ne, w_eq, u_ne, wl_1, w_2, wl_ne, wr_ne, wr_2]) (by simp (disch := omega) only [w_ne, w_eq, u_ne, wl_1, w_2, wl_ne, wr_ne, wr_2]) (by simp (disch := omega) only [w_ne, w_eq, u_ne, wl_1, w_2, wl_ne, wr_ne, wr_2]) (by simp (disch := omega) only [w_ne, w_eq, u_ne, wl_1, w_2, wl_ne, wr_ne, wr_2]), hC.cg (by simp (disch := omega) only [w_ne, w_eq, u_ne, wl_1, w_2, wl_ne, wr_ne, wr_2]) (by simp (disch := omega) only [w_ne, w_eq, u_ne, wl_1, w_2, wl_ne, wr_ne, wr_2]) (fun i _ _ => by simp (disch := omega) only [w_ne, w_eq, u_ne, wl_1, w_2, wl_ne, wr_ne, wr_2]) (by simp (disch := omega) only [w_ne, w_eq, u_ne, wl_1, w_2, wl_ne, wr_ne, wr_2]), hM.cg (by simp (disch := omega) only [w_ne, w_eq, u_ne, wl_1, w_2, wl_ne, wr_ne, wr_2]) (by simp (disch := omega) only [w_ne, w_eq, u_ne, wl_1, w_2, wl_ne, wr_ne, wr_2]) (by simp (disch := omega) only [w_ne, w_eq, u_ne, wl_1, w_2, wl_ne, wr_ne, wr_2]) (by simp (disch := omega) only [w_ne, w_eq, u_ne, wl_1, w_2, wl_ne, wr_ne, wr_2]) (by simp (disch := omega) only [w_ne, w_eq, u_ne, wl_1, w_2, wl_ne, wr_ne, wr_2]) (by simp (disch := omega) only [w_ne, w_eq, u_ne, wl_1, w_2, wl_ne, wr_ne, wr_2]), (by simp (disch := omega) only [w_ne, w_eq, u_ne, wl_1, w_2, wl_ne, wr_ne, wr_2]; exact hu)⟩
  · have z := hB.drink hH v hv
    simp (disch := omega) only [w_ne, w_eq]; exact z
  · simp (disch := omega) only [uN_ne]; exact hn1
  · simp (disch := omega) only [w_eq, u_ne]; exact hn2
  · simp (disch := omega) only [w_eq, w_ne]; exact (hlog.w (by decide)).w (by decide)
theorem RW.go {n B H : Nat} {nm : Nat → Nat} {A nx : Nat} {E : Nat → Nat} {nw sn s : Nat} {tp : Nat → Nat} {nl : Nat} {hd : Int32} {f : Nat → F6} {h g : Mm} (q : RW n B H nm A nx E nw sn s tp nl hd f h g) {x : Nat} (hx : x < H) : RW n B H nm A nx E nw sn s tp nl hd f (wI (wI h 27 5 (zN x)) 27 12 (zN 1)) (wI (wI g 264 23 (zN x)) 264 26 (zN 1)) := by
  obtain ⟨hL, hP, hI, hW, hS, hT, hC, hM, hu⟩ := q
  obtain ⟨be, hB, hn1, hn2, hlog⟩ := hP.2.2.1
  have hH := hL.2.1.2.1
  refine ⟨hL.ag (by simp (disch := omega) only [w_ne, w_eq, u_ne, wl_1, w_2, wl_ne, wr_ne, wr_2]) (by simp (disch := omega) only [w_ne, w_eq, u_ne, wl_1, w_2, wl_ne, wr_ne, wr_2]) (by simp (disch := omega) only [w_ne, w_eq, u_ne, wl_1, w_2, wl_ne, wr_ne, wr_2]) (by simp (disch := omega) only [w_ne, w_eq, u_ne, wl_1, w_2, wl_ne, wr_ne, wr_2]) (by simp (disch := omega) only [w_ne, w_eq, u_ne, wl_1, w_2, wl_ne, wr_ne, wr_2]) (by simp (disch := omega) only [w_ne, w_eq, u_ne, wl_1, w_2, wl_ne, wr_ne, wr_2]) (by simp (disch := omega) only [w_ne, w_eq, u_ne, wl_1, w_2, wl_ne, wr_ne, wr_2]), hP.now (fun i _ _ => by simp (disch := omega) only [w_ne, w_eq, u_ne, wl_1, w_2, wl_ne, wr_ne, wr_2]) (by simp (disch := omega) only [w_ne, w_eq, u_ne, wl_1, w_2, wl_ne, wr_ne, wr_2]) (by simp (disch := omega) only [w_ne, w_eq, u_ne, wl_1, w_2, wl_ne, wr_ne, wr_2]) (by simp (disch := omega) only [w_ne, w_eq, u_ne, wl_1, w_2, wl_ne, wr_ne, wr_2]) (by simp (disch := omega) only [w_ne, w_eq, u_ne, wl_1, w_2, wl_ne, wr_ne, wr_2]) (by simp (disch := omega) only [w_ne, w_eq, u_ne, wl_1, w_2, wl_ne, wr_ne, wr_2]) ⟨uN (uN be 23 x) 26 1, ?_, ?_, ?_, ?_⟩, hI.ag (fun i _ _ => by simp (disch := omega) only [w_ne, w_eq, u_ne, wl_1, w_2, wl_ne, wr_ne, wr_2]) (by simp (disch := omega) only [w_ne, w_eq, u_ne, wl_1, w_2, wl_ne, wr_ne, wr_2]) (by simp (disch := omega) only [w_ne, w_eq, u_ne, wl_1, w_2, wl_ne, wr_ne, wr_2]) (by simp (disch := omega) only [w_ne, w_eq, u_ne, wl_1, w_2, wl_ne, wr_ne, wr_2]), hW.ag (by simp (disch := omega) only [w_ne, w_eq, u_ne, wl_1, w_2, wl_ne, wr_ne, wr_2]) (by simp (disch := omega) only [w_ne, w_eq, u_ne, wl_1, w_2, wl_ne, wr_ne, wr_2]) (by simp (disch := omega) only [w_ne, w_eq, u_ne, wl_1, w_2, wl_ne, wr_ne, wr_2]) (by simp (disch := omega) only [w_ne, w_eq, u_ne, wl_1, w_2, wl_ne, wr_ne, wr_2]) (by simp (disch := omega) only [w_ne, w_eq, u_ne, wl_1, w_2, wl_ne, wr_ne, wr_2]) (by simp (disch := omega) only [w_ne, w_eq, u_ne, wl_1, w_2, wl_ne, wr_ne, wr_2]), hS.ag (by simp (disch := omega) only [w_ne, w_eq, u_ne, wl_1, w_2, wl_ne, wr_ne, wr_2]) (by simp (disch := omega) only [w_ne, w_eq, u_ne, wl_1, w_2, wl_ne, wr_ne, wr_2]) (by simp (disch := omega) only [w_ne, w_eq, u_ne, wl_1, w_2, wl_ne, wr_ne, wr_2]) (by simp (disch := omega) only [w_ne, w_eq, u_ne, wl_1, w_2, wl_ne, wr_ne, wr_2]), hT.ag (by simp (disch := omega) only [w_ne, w_eq, u_ne, wl_1, w_2, wl_ne, wr_ne, wr_2]) (by simp (disch := omega) only [w_ne, w_eq, u_ne, wl_1, w_2, wl_ne, wr_ne, wr_2]) (by simp (disch := omega) only [w_ne, w_eq, u_ne, wl_1, w_2, wl_ne, wr_ne, wr_2]) (by simp (disch := omega) only [w_ne, w_eq, u_ne, wl_1, w_2, wl_ne, wr_ne, wr_2]), hC.cg (by simp (disch := omega) only [w_ne, w_eq, u_ne, wl_1, w_2, wl_ne, wr_ne, wr_2]) (by simp (disch := omega) only [w_ne, w_eq, u_ne, wl_1, w_2, wl_ne, wr_ne, wr_2]) (fun i _ _ => by simp (disch := omega) only [w_ne, w_eq, u_ne, wl_1, w_2, wl_ne, wr_ne, wr_2]) (by simp (disch := omega) only [w_ne, w_eq, u_ne, wl_1, w_2, wl_ne, wr_ne, wr_2]), hM.cg (by simp (disch := omega) only [w_ne, w_eq, u_ne, wl_1, w_2, wl_ne, wr_ne, wr_2]) (by simp (disch := omega) only [w_ne, w_eq, u_ne, wl_1, w_2, wl_ne, wr_ne, wr_2]) (by simp (disch := omega) only [w_ne, w_eq, u_ne, wl_1, w_2, wl_ne, wr_ne, wr_2]) (by simp (disch := omega) only [w_ne, w_eq, u_ne, wl_1, w_2, wl_ne, wr_ne, wr_2]) (by simp (disch := omega) only [w_ne, w_eq, u_ne, wl_1, w_2, wl_ne, wr_ne, wr_2]) (by simp (disch := omega) only [w_ne, w_eq, u_ne, wl_1, w_2, wl_ne, wr_ne, wr_2]), (by simp (disch := omega) only [w_ne, w_eq, u_ne, wl_1, w_2, wl_ne, wr_ne, wr_2]; exact hu)⟩
  · have z := hB.goes hH x hx
    simp (disch := omega) only [w_ne, w_eq]; exact z
  · simp (disch := omega) only [uN_ne]; exact hn1
  · simp (disch := omega) only [w_eq, u_ne]; exact hn2
  · simp (disch := omega) only [w_eq, w_ne]; exact (hlog.w (by decide)).w (by decide)
theorem RW.dread {n B H : Nat} {nm : Nat → Nat} {A nx : Nat} {E : Nat → Nat} {nw sn s : Nat} {tp : Nat → Nat} {nl : Nat} {hd : Int32} {f : Nat → F6} {h g : Mm} (q : RW n B H nm A nx E nw sn s tp nl hd f h g) (hn : 20000 ≤ n) (h0 : 0 < H) (hd0 : h.2 0 13 = g.2 251 40) : ∃ h' g', X11_readByDraw n h = some ((), h') ∧ X12_drawsReading n g = some ((), g') ∧ RW n B H nm A nx E nw sn s tp nl hd f h' g' ∧ h'.2 0 13 = g'.2 251 40 := by
  obtain ⟨hL, ⟨-, -, ⟨be, hB, hn1, -, -⟩, -⟩, -⟩ := id q
  have hB6 := hL.2.1.1
  have hB' := hL.2.1.2.2
  have b1 : 1 ≤ B := by omega
  unfold X11_readByDraw X12_drawsReading
  rw [c_books, bp_some, hL.1.1, hL.1.2.2.1, c_draw b1 (by omega), bd_some, m_draw b1 (by omega), bd_some, show (9 : Int32) = zN 9 from rfl, c_draw (by decide) (by decide), bd_some, hd0]
  generalize eb : dK (g.2 251 40) B = b
  have hb : b < B := by rw [← eb]; exact dK_lt _ b1
  have q1 : RW n B H nm A nx E nw sn s tp nl hd f (wL h 0 13 (dX (g.2 251 40))) (wL g 251 40 (dX (g.2 251 40))) := q.wl
  rw [wl_eq, ul_eq, m_pages q1.1 hb, bp_some, m_draw (by decide) (by decide), bd_some, wl_eq, ul_eq]
  have q2 : RW n B H nm A nx E nw sn s tp nl hd f (wL (wL h 0 13 (dX (g.2 251 40))) 0 13 (dX (dX (g.2 251 40)))) (wL (wL g 251 40 (dX (g.2 251 40))) 251 40 (dX (dX (g.2 251 40)))) := q1.wl
  generalize ew : dK (dX (g.2 251 40)) 9 = w
  have hw : w < 9 := by rw [← ew]; exact dK_lt _ (by decide)
  have d2 : (wL (wL h 0 13 (dX (g.2 251 40))) 0 13 (dX (dX (g.2 251 40)))).2 0 13 = (wL (wL g 251 40 (dX (g.2 251 40))) 251 40 (dX (dX (g.2 251 40)))).2 251 40 := by rw [wl_eq, ul_eq, wl_eq, ul_eq]
  have hB2 : BedR H be ((wL (wL h 0 13 (dX (g.2 251 40))) 0 13 (dX (dX (g.2 251 40)))).1 28) ((wL (wL h 0 13 (dX (g.2 251 40))) 0 13 (dX (dX (g.2 251 40)))).1 29) ((wL (wL h 0 13 (dX (g.2 251 40))) 0 13 (dX (dX (g.2 251 40)))).1 30) ((wL (wL h 0 13 (dX (g.2 251 40))) 0 13 (dX (dX (g.2 251 40)))).1 31) ((wL (wL h 0 13 (dX (g.2 251 40))) 0 13 (dX (dX (g.2 251 40)))).1 27) ((wL (wL g 251 40 (dX (g.2 251 40))) 251 40 (dX (dX (g.2 251 40)))).1 264) := hB
  generalize wL (wL h 0 13 (dX (g.2 251 40))) 0 13 (dX (dX (g.2 251 40))) = h2 at *
  generalize wL (wL g 251 40 (dX (g.2 251 40))) 251 40 (dX (dX (g.2 251 40))) = g2 at *
  have pg := hL.2.2.2.2.2.2.1 b hb
  have e1 : (if zN (nm (3 + 3 * b)) < zN (w + 1) then zN (nm (3 + 3 * b)) else zN (w + 1)) = zN (min (nm (3 + 3 * b)) (w + 1)) := by
    by_cases z : nm (3 + 3 * b) < w + 1
    · rw [if_pos ((zN_lt (by omega) (by omega)).mpr z), Nat.min_eq_left (by omega)]
    · rw [if_neg (by rw [zN_lt (by omega) (by omega)]; exact z), Nat.min_eq_right (by omega)]
  have e2 : (if zN (w + 1) < zN (nm (3 + 3 * b)) then zN (w + 1) else zN (nm (3 + 3 * b))) = zN (min (nm (3 + 3 * b)) (w + 1)) := by
    by_cases z : w + 1 < nm (3 + 3 * b)
    · rw [if_pos ((zN_lt (by omega) (by omega)).mpr z), Nat.min_eq_right (by omega)]
    · rw [if_neg (by rw [zN_lt (by omega) (by omega)]; exact z), Nat.min_eq_left (by omega)]
  rw [c_pages q2.1 hb, bp_some, sN1, j_min, bp_some, j_min, bp_some, e1, e2]
  generalize ep : min (nm (3 + 3 * b)) (w + 1) = p at *
  rcases can_read (a := 27) (r := 264) q2.1 (by decide) al_29 al_264 hB2 (zN b) (zN p) false with ⟨y, p', hy, e3, e4, p1, p2, p3, p4, -, ⟨c1, m1, -⟩ | ⟨c1, m1, -⟩⟩ | ⟨-, c1, m1, -⟩
  · obtain rfl : b = y := (zN_eq (by omega) (by omega)).mp e3
    obtain rfl : p = p' := (zN_eq (by omega) (by omega)).mp e4
    obtain ⟨h3, g3, r1, r2, r3, -, -, r6, r7⟩ := read_now (be := be) (sk := false) hn q2 hB2 hy p1 p2 p3 p4
    rw [c1, m1, bp_some, bp_some, if_pos rfl, if_pos rfl, r1, r2]
    exact ⟨h3, g3, rfl, rfl, r3, by rw [r6 0 (by decide), r7.2.2 251 (by decide)]; exact d2⟩
  · rw [c1, m1, bp_some, bp_some, if_neg (show ¬ (false = true) by decide), if_neg (show ¬ (false = true) by decide)]
    exact ⟨h2, g2, rfl, rfl, q2, d2⟩
  · rw [c1, m1, bp_some, bp_some, if_neg (show ¬ (false = true) by decide), if_neg (show ¬ (false = true) by decide)]
    exact ⟨h2, g2, rfl, rfl, q2, d2⟩
theorem years_loop {n B H m : Nat} {nm : Nat → Nat} {nw sn s : Nat} {tp : Nat → Nat} {nl : Nat} {hd : Int32} {f : Nat → F6} (hn : 20000 ≤ n) (h0 : 0 < H) (hm : m ≤ 30) : ∀ (d q q' k A nx : Nat) (E : Nat → Nat) (h g : Mm), k + d = m → d < q → d < q' → RW n B H nm A nx E nw sn s tp nl hd f h g → h.2 0 13 = g.2 251 40 → E A + d ≤ 9999 →
    ∃ r h' g', X11_years_46 n q (zN m) (zN k) h = some (r, h') ∧ X12_years_49 n q' (zN m) (zN k) g = some (r, g') ∧ R n h' g' := by
  have i29 : inB (29 : Int32) (aln 264) := by rw [al_264]; decide
  have t29 : (29 : Int32).toNatClampNeg = 29 := by decide
  have i25 : inB (25 : Int32) (aln 264) := by rw [al_264]; decide
  have t25 : (25 : Int32).toNatClampNeg = 25 := by decide
  intro d
  induction d with
  | zero =>
    intro q q' k A nx E h g hk hq hq' hR hd0 hE
    obtain ⟨q, rfl⟩ : ∃ m, q = m + 1 := ⟨q - 1, by omega⟩
    obtain ⟨q', rfl⟩ : ∃ m, q' = m + 1 := ⟨q' - 1, by omega⟩
    obtain ⟨-, ⟨-, -, ⟨be, hB, hn1, -, -⟩, -⟩, -⟩ := id hR
    unfold X11_years_46 X12_years_49
    rw [if_pos (show zN m ≤ zN k from (zN_le (by omega) (by omega)).mpr (by omega)), if_pos (show zN m ≤ zN k from (zN_le (by omega) (by omega)).mpr (by omega)), if_pos i29, t29, hB.2.2.2.2.1.1, hB.2.2.2.2.1.2.1]
    exact ⟨_, h, g, rfl, rfl, hR.r⟩
  | succ d ih =>
    intro q q' k A nx E h g hk hq hq' hR hd0 hE
    obtain ⟨q, rfl⟩ : ∃ m, q = m + 1 := ⟨q - 1, by omega⟩
    obtain ⟨q', rfl⟩ : ∃ m, q' = m + 1 := ⟨q' - 1, by omega⟩
    unfold X11_years_46 X12_years_49
    rw [if_neg (show ¬ zN m ≤ zN k by rw [zN_le (by omega) (by omega)]; omega), if_neg (show ¬ zN m ≤ zN k by rw [zN_le (by omega) (by omega)]; omega)]
    obtain ⟨h1, g1, A1, nx1, E1, k1, k2, k3, ⟨k4, k5, k6⟩, -, k7, -, -, k8⟩ := R.keepW hn hR
    obtain ⟨h2, g2, r1, r2, r3, r4⟩ := k3.dread hn h0 (by rw [k7, k8]; exact hd0)
    obtain ⟨h3, g3, s1, s2, s3, s4⟩ := r3.dread hn h0 r4
    rw [k1, bd_some, k2, bd_some, r1, bd_some, r2, bd_some, s1, bd_some, s2, bd_some, show (10 : Int32) = zN 10 from rfl, c_draw (by decide) (by decide), bd_some, m_draw (by decide) (by decide), bd_some, s4]
    have q4 : RW n B H nm A1 nx1 E1 nw sn s tp nl hd f (wL h3 0 13 (dX (g3.2 251 40))) (wL g3 251 40 (dX (g3.2 251 40))) := s3.wl
    have d4 : (wL h3 0 13 (dX (g3.2 251 40))).2 0 13 = (wL g3 251 40 (dX (g3.2 251 40))).2 251 40 := by rw [wl_eq, ul_eq, wl_eq, ul_eq]
    generalize wL h3 0 13 (dX (g3.2 251 40)) = h4 at *
    generalize wL g3 251 40 (dX (g3.2 251 40)) = g4 at *
    have fin1 : ∀ h5 g5, RW n B H nm A1 nx1 E1 nw sn s tp nl hd f h5 g5 → h5.2 0 13 = g5.2 251 40 → ∃ r h' g', X11_years_109 n (X11_years_46 n q) (zN m) (zN k) h5 = some (r, h') ∧ X12_years_97 n (X12_years_49 n q') (zN m) (zN k) g5 = some (r, g') ∧ R n h' g' := fun h5 g5 q5 d5 => by
      obtain ⟨h6, g6, r, t1, t2, t3, -, t5, -, t7⟩ := night_now hn q5 k4 k5 h0 (by omega)
      unfold X11_years_109 X12_years_97
      rw [t1, bd_some, t2, bd_some, sN1]
      exact ih q q' (k + 1) A1 nx1 _ h6 g6 (by omega) (by omega) (by omega) t3 (by rw [t5, t7]; exact d5) (by rw [uN_eq]; omega)
    obtain ⟨hL, ⟨-, -, ⟨be, hB, hn1, -, -⟩, -⟩, -, -, -, -, -, -, hu⟩ := id q4
    rw [hu]
    by_cases c : g4.1 251 35 ≤ zN (dK (g3.2 251 40) 10)
    · rw [if_pos c, if_pos c]; exact fin1 h4 g4 q4 d4
    · rw [if_neg c, if_neg c, if_pos i25, t25]
      obtain ⟨e1, e2, e3⟩ := hB.2.2.2.2.2.2.1
      unfold X9_canDrink
      rw [c_stands hL, bp_some, decide_eq_true h0, if_pos rfl, e1, e2]
      by_cases z : zN (be 25) = 0
      · rw [if_pos z, if_pos z, bp_some, if_pos rfl]
        obtain ⟨v, hv, v1, v2, v3⟩ := q4.drink
        rw [v1, bd_some, v2, bd_some]
        exact fin1 _ _ v3 d4
      · rw [if_neg z, if_neg z, bp_some, if_neg (show ¬ (false = true) by decide)]
        exact fin1 h4 g4 q4 d4
theorem sim_years (n : Nat) (hn : 20000 ≤ n) : Sim_years n (R n) := by
  intro x1 x2 h g hR
  have hR0 := hR.thr 0
  obtain ⟨B, H, nm, A, nx, E, nw, sn, s, tp, nl, hd, f, hR1⟩ := id hR0
  have hQ : RW n B H nm A nx E nw sn s tp nl hd f h (wI g 251 0 0) := hR1
  obtain ⟨hL, ⟨-, -, ⟨be, hB, hn1, -, -⟩, -⟩, -⟩ := id hR1
  unfold X11_years X12_years
  generalize wI g 251 0 (0 : Int32) = g0 at *
  have hH := hL.2.1.2.1
  obtain ⟨e1, e2, e3⟩ := hB.2.2.2.2.1
  have i29 : inB (29 : Int32) (aln 264) := by rw [al_264]; decide
  have t29 : (29 : Int32).toNatClampNeg = 29 := by decide
  rw [c_stands hL, bp_some, hL.1.2.2.2, if_pos i29, t29, e1, e2]
  by_cases c : H = 0
  · subst c; exact ⟨_, _, _, rfl, rfl, hR0⟩
  · rw [decide_eq_true (show 0 < H by omega), if_pos rfl, if_neg (show ¬ zN H = 0 by rw [zN_lit, zN_eq (by omega) (by decide)]; exact c), m_isIn_l (L := (1 : Int64)) (U := (30 : Int64)) x1 1 30 g0 rfl rfl, bp_some]
    by_cases ok : zN 1 ≤ x1 ∧ x1 ≤ zN 30
    · obtain ⟨m, rfl, m1, m2⟩ := rng_N (x := x1) (lo := 1) (hi := 30) (by have := Int32.le_iff_toInt_le.mp ok.1; rw [zN_ti (by decide)] at this; exact this) (by have := Int32.le_iff_toInt_le.mp ok.2; rw [zN_ti (by omega)] at this; exact this)
      rw [decide_eq_true ok, if_pos rfl, if_neg (show ¬ zN m < 1 by rw [zN_lit, zN_lt (by omega) (by decide)]; omega), if_neg (show ¬ (30 : Int32) < zN m by rw [zN_lit, zN_lt (by decide) (by omega)]; omega), zN_add]
      by_cases z : be 29 + m ≤ 9999
      · rw [if_pos (show zN (be 29 + m) ≤ 9999 from (zN_le (b := 9999) (by omega) (by decide)).mpr z), if_pos (show zN (be 29 + m) ≤ 9999 from (zN_le (b := 9999) (by omega) (by decide)).mpr z)]
        obtain ⟨r, h', g', s1, s2, s3⟩ := years_loop hn (show 0 < H by omega) m2 m n n 0 A nx E (wL h 0 13 x2) (wL g0 251 40 x2) (by omega) (by omega) (by omega) hQ.wl (by rw [wl_eq, ul_eq, wl_eq, ul_eq]) (by omega)
        exact ⟨r, h', g', s1, s2, s3⟩
      · rw [if_neg (show ¬ zN (be 29 + m) ≤ 9999 by rw [zN_lit, zN_le (by omega) (by decide)]; exact z), if_neg (show ¬ zN (be 29 + m) ≤ 9999 by rw [zN_lit, zN_le (by omega) (by decide)]; exact z)]
        exact ⟨_, _, _, rfl, rfl, hR0⟩
    · rw [decide_eq_false ok, if_neg (show ¬ (false = true) by decide)]
      refine ⟨-1, h, g0, ?_, rfl, hR0⟩
      by_cases z : x1 < 1
      · rw [if_pos z]
      · rw [if_neg z, if_pos]
        exact Int32.not_le.mp fun w => ok ⟨Int32.not_lt.mp z, w⟩
