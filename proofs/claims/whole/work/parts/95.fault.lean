theorem m_in02 (x : Int32) (h : Mm) : X12_isIn x.toInt64 0 2 h = some (decide (zN 0 ≤ x ∧ x ≤ zN 2)) := m_isIn_l x 0 2 h (by decide) (by decide)
theorem m_fl0 {n : Nat} {g : Mm} : X12_fault n (zN 0) g = bd (X12_readLanding n (wI g 251 0 0)) (fun _ h41 => some (h41.1 251 11, h41)) := by
  unfold X12_fault X12_fault_28 X12_fault_46 X12_fault_55
  rw [m_in02, bp_some, decide_eq_true (show zN 0 ≤ zN 0 ∧ zN 0 ≤ zN 2 by decide), if_pos rfl, if_pos (show zN 0 = 0 from rfl)]
  congr 1
theorem m_fl1 {n : Nat} {g : Mm} : X12_fault n (zN 1) g = bd (X12_goThrough n 252 0 ((wI g 251 0 0).1 251 6) (wI g 251 0 0)) (fun _ h41 => some (h41.1 251 11, h41)) := by
  unfold X12_fault X12_fault_28 X12_fault_46 X12_fault_55
  rw [m_in02, bp_some, decide_eq_true (show zN 0 ≤ zN 1 ∧ zN 1 ≤ zN 2 by decide), if_pos rfl, if_neg (show ¬ zN 1 = 0 by decide), if_pos (show zN 1 = 1 from rfl)]
  congr 1
theorem m_fl2 {n : Nat} {g : Mm} : X12_fault n (zN 2) g = bd (X12_readWeek n (wI g 251 0 0)) (fun _ h41 => some (h41.1 251 11, h41)) := by
  unfold X12_fault X12_fault_28 X12_fault_46 X12_fault_55
  rw [m_in02, bp_some, decide_eq_true (show zN 0 ≤ zN 2 ∧ zN 2 ≤ zN 2 by decide), if_pos rfl, if_neg (show ¬ zN 2 = 0 by decide), if_neg (show ¬ zN 2 = 1 by decide), if_pos (show zN 2 = 2 from rfl)]
theorem c_r0 {n : Nat} {h h' : Mm} {b : Bool} (e : X2_isRight n h = some (b, h')) : X11_isRight n (zN 0) h = some (b, h') := by
  unfold X11_isRight; rw [if_pos (show zN 0 = 0 from rfl), e, bd_some]
theorem c_r1 {n : Nat} {h h' : Mm} {b : Bool} (e : X3_isRight n h = some (b, h')) : X11_isRight n (zN 1) h = some (b, h') := by
  unfold X11_isRight; rw [if_neg (show ¬ zN 1 = 0 by decide), if_pos (show zN 1 = 1 from rfl), e, bd_some]
theorem c_r2 {n : Nat} {h h' : Mm} {b : Bool} (e : X10_isRight n h = some (b, h')) : X11_isRight n (zN 2) h = some (b, h') := by
  unfold X11_isRight; rw [if_neg (show ¬ zN 2 = 0 by decide), if_neg (show ¬ zN 2 = 1 by decide), e, bd_some]
theorem sim_fault (n : Nat) (hn : 20000 ≤ n) : Sim_fault n (R n) := by
  intro x1 h g hR
  have hR0 := hR.thr 0
  obtain ⟨B, H, nm, A, nx, E, nw, sn, s, tp, nl, hd, f, hR1⟩ := id hR0
  have hQ : RW n B H nm A nx E nw sn s tp nl hd f h (wI g 251 0 0) := hR1
  have ht := hQ.2.2.2.2.2.1
  have t1 := ht.1.1
  have cf : ∀ (k : Nat) (h' : Mm) (Q : Nat), k ≤ 2 → X11_isRight n (zN k) h = some (false, h') → h'.1 1 2 = zN Q → X11_fault n (zN k) h = some (zN Q, h') := fun k h' Q hk e eQ => by
    unfold X11_fault
    rw [if_neg (show ¬ zN k < 0 from zN_neg0 (by omega)), if_pos (show zN k ≤ 2 by rw [zN_lit, zN_le (by omega) (by decide)]; exact hk), e, bd_some, if_neg (show ¬ (false = true) by decide), eQ]
  have ctt : ∀ (k : Nat) (h' : Mm), k ≤ 2 → X11_isRight n (zN k) h = some (true, h') → X11_fault n (zN k) h = some (-1, h') := fun k h' hk e => by
    unfold X11_fault
    rw [if_neg (show ¬ zN k < 0 from zN_neg0 (by omega)), if_pos (show zN k ≤ 2 by rw [zN_lit, zN_le (by omega) (by decide)]; exact hk), e, bd_some, if_pos rfl]
  have out : ¬ (zN 0 ≤ x1 ∧ x1 ≤ zN 2) → ∃ (r : Int32) (h2 g2 : Mm), X11_fault n x1 h = some (r, h2) ∧ X12_fault n x1 g = some (r, g2) ∧ R n h2 g2 := fun z => by
    refine ⟨-2, h, wI g 251 0 0, ?_, ?_, hR0⟩
    · unfold X11_fault
      by_cases c : x1 < 0
      · rw [if_pos c]
      · rw [if_neg c, if_neg (show ¬ x1 ≤ 2 from fun y => z ⟨Int32.not_lt.mp c, y⟩)]
    · unfold X12_fault
      rw [m_in02, bp_some, decide_eq_false z, if_neg (show ¬ (false = true) by decide)]
  rcases i32_cases x1 with c | ⟨k, hk, rfl⟩
  · exact out (fun z => Int32.not_le.mpr c z.1)
  · by_cases k2 : k ≤ 2
    · rcases (show k = 0 ∨ k = 1 ∨ k = 2 by omega) with rfl | rfl | rfl
      · rcases ent_land hn ht with ⟨h', g', Q, u1, u2, u3, u4, u5, u6, u7⟩ | ⟨h', g', cnt, nm', u1, u2, u3, u4, u5, -⟩
        · exact ⟨zN Q, h', g', cf 0 h' Q k2 (c_r0 u2) u4, by rw [m_fl0, u3, bd_some, u5], (hQ.pr u6 u7).r⟩
        · exact ⟨-1, h', g', ctt 0 h' k2 (c_r0 u1), by rw [m_fl0, u2, bd_some, u3], (hQ.pr u4 u5).r⟩
      · rcases ent_law hn ht with ⟨h', g', Q, u1, u2, u3, u4, u5, u6, u7⟩ | ⟨h', g', c, ff, u1, u2, u3, u4, u5, -⟩
        · exact ⟨zN Q, h', g', cf 1 h' Q k2 (c_r1 u2) u4, by rw [m_fl1, u3, bd_some, u5], (hQ.pr u6 u7).r⟩
        · exact ⟨-1, h', g', ctt 1 h' k2 (c_r1 u1), by rw [m_fl1, u2, bd_some, u3], (hQ.pr u4 u5).r⟩
      · rcases ent_week hn ht with ⟨h', g', Q, u1, u2, u3, u4, u5, u6, u7⟩ | ⟨h', g', z, u1, u2, u3, u4, u5, -⟩
        · exact ⟨zN Q, h', g', cf 2 h' Q k2 (c_r2 u2) u4, by rw [m_fl2, u3, bd_some, u5], (hQ.pr u6 u7).r⟩
        · exact ⟨-1, h', g', ctt 2 h' k2 (c_r2 u1), by rw [m_fl2, u2, bd_some, u3], (hQ.pr u4 u5).r⟩
    · exact out (fun z => k2 ((zN_le hk (by decide)).mp z.2))
