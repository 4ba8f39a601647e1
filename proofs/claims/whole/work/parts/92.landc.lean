/-! a clause of a LANDING -/
def usK (k j : Nat) : Nat := if k = 0 then (if j = 0 then 10 else if j = 1 then 25 else 8) else if k = 1 then (if j = 0 then 4 else if j = 1 then 3 else 0) else (if j = 0 then 2 else if j = 1 then 15 else 5)
def chK (k : Nat) : Nat := if k = 0 then 115 else if k = 1 then 98 else 104
def LK (k : Nat) : List Int32 := if k = 0 then [99, 101, 108] else if k = 1 then [112, 99, 107] else [110, 115, 118]
theorem us_b : ∀ k, k < 3 → ∀ j, j < 3 → EX 1003 (k * 3 + j) = zN (usK k j) ∧ loK k j ≤ usK k j ∧ usK k j ≤ hiK k j := by decide +kernel
theorem fu_step {n f k r j : Nat} {h : Mm} (hk : k < 3) (hr : r < 6) (hr0 : k = 0 → r = 0) (hj : j < 3) : X1_fillUsual_2 n 4 (f + 1) (zN k) (zN r) (zN j) h = X1_fillUsual_2 n 4 f (zN k) (zN r) (zN (j + 1)) (wI h 6 (ofK k + 3 * r + j) (zN (usK k j))) := by
  rw [X1_fillUsual_2, if_neg (show ¬ (3 : Int32) ≤ zN j by rw [zN_lit, zN_le (by decide) (by omega)]; omega), show (3 : Int32) = zN 3 from rfl, zN_mul, zN_add, at_1003 (by omega), bp_some, (us_b k hk j hj).1, c_tell hk hr hr0 hj, bd_some, sN1]
theorem c_fillU {n k r : Nat} {h : Mm} (hn : 20000 ≤ n) (hk : k < 3) (hr : r < 6) (hr0 : k = 0 → r = 0) : X1_fillUsual n 4 (zN k) (zN r) h = some ((), wI (wI (wI h 6 (ofK k + 3 * r) (zN (usK k 0))) 6 (ofK k + 3 * r + 1) (zN (usK k 1))) 6 (ofK k + 3 * r + 2) (zN (usK k 2))) := by
  obtain ⟨m, rfl⟩ : ∃ m, n = m + 1 + 1 + 1 + 1 := ⟨n - 4, by omega⟩
  unfold X1_fillUsual
  rw [show (0 : Int32) = zN 0 from rfl, fu_step hk hr hr0 (by omega), fu_step hk hr hr0 (by omega), fu_step hk hr hr0 (by omega), X1_fillUsual_2, if_pos (show (3 : Int32) ≤ zN (0 + 1 + 1 + 1) by decide)]
  rfl
theorem ri_step {n f k r j a4 : Nat} {g : Mm} {x1 : Int32} {L : List Int32} (hl : stB a4 = L) (h3 : L.length = 3) (us : ∀ j (g : Mm), j < 3 → X12_usual x1 (zN j) g = some (zN (usK k j))) (al : 3 * r + 3 ≤ aln (mcK k)) (r6 : r < 6) (hj : j < 3) : X12_readItems_3 n (mcK k) a4 (f + 1) x1 (zN (3 * r)) (zN j) g = X12_readItems_3 n (mcK k) a4 f x1 (zN (3 * r)) (zN (j + 1)) (wI g (mcK k) (3 * r + j) (zN (usK k j))) := by
  rw [X12_readItems_3, j_len hl, bp_some, if_neg (show ¬ zN L.length ≤ zN j by rw [h3, zN_le (by decide) (by omega)]; omega), us j g hj, bp_some, zN_add, if_pos ((zN_inB (by omega)).mpr (show 3 * r + j < aln (mcK k) by omega)), zN_ix (by omega), sN1]
theorem m_items {n k r a4 : Nat} {g : Mm} {x1 : Int32} {L : List Int32} (hn : 20000 ≤ n) (hl : stB a4 = L) (h3 : L.length = 3) (us : ∀ j (g : Mm), j < 3 → X12_usual x1 (zN j) g = some (zN (usK k j))) (al : 3 * r + 3 ≤ aln (mcK k)) (r6 : r < 6) : X12_readItems n x1 (mcK k) (zN (3 * r)) a4 g = bd (X12_look n (wI (wI (wI g (mcK k) (3 * r) (zN (usK k 0))) (mcK k) (3 * r + 1) (zN (usK k 1))) (mcK k) (3 * r + 2) (zN (usK k 2)))) (fun r81 h83 => (bp (X12_spotOf n a4 r81 h83) (fun r84 => (X12_readItems_45 n (mcK k) a4 n x1 (zN (3 * r)) (zN 0) r84 h83)))) := by
  obtain ⟨m, hm⟩ : ∃ m, n = m + 1 + 1 + 1 + 1 := ⟨n - 4, by omega⟩
  unfold X12_readItems
  have e : ∀ nn, nn = m + 1 + 1 + 1 + 1 → X12_readItems_3 n (mcK k) a4 nn x1 (zN (3 * r)) 0 g = bd (X12_look n (wI (wI (wI g (mcK k) (3 * r) (zN (usK k 0))) (mcK k) (3 * r + 1) (zN (usK k 1))) (mcK k) (3 * r + 2) (zN (usK k 2)))) (fun r81 h83 => (bp (X12_spotOf n a4 r81 h83) (fun r84 => (X12_readItems_45 n (mcK k) a4 n x1 (zN (3 * r)) (zN 0) r84 h83)))) := fun nn en => by
    rw [en, show (0 : Int32) = zN 0 from rfl, ri_step hl h3 us al r6 (by omega), ri_step hl h3 us al r6 (by omega), ri_step hl h3 us al r6 (by omega), X12_readItems_3, j_len hl, bp_some, if_pos (show zN L.length ≤ zN (0 + 1 + 1 + 1) by rw [h3]; decide)]
    rfl
  exact e n hm
theorem ltk_0 : LtK [99, 101, 108] := ⟨by decide +kernel, rfl, chk _ (by
  intro x hx
  simp only [List.mem_cons, List.not_mem_nil, or_false] at hx
  rcases hx with rfl | rfl | rfl
  · exact ⟨99, by decide, rfl⟩
  · exact ⟨101, by decide, rfl⟩
  · exact ⟨108, by decide, rfl⟩)⟩
theorem ltk_1 : LtK [112, 99, 107] := ⟨by decide +kernel, rfl, chk _ (by
  intro x hx
  simp only [List.mem_cons, List.not_mem_nil, or_false] at hx
  rcases hx with rfl | rfl | rfl
  · exact ⟨112, by decide, rfl⟩
  · exact ⟨99, by decide, rfl⟩
  · exact ⟨107, by decide, rfl⟩)⟩
theorem ltk_2 : LtK [110, 115, 118] := ⟨by decide +kernel, rfl, chk _ (by
  intro x hx
  simp only [List.mem_cons, List.not_mem_nil, or_false] at hx
  rcases hx with rfl | rfl | rfl
  · exact ⟨110, by decide, rfl⟩
  · exact ⟨115, by decide, rfl⟩
  · exact ⟨118, by decide, rfl⟩)⟩
theorem kinds {k : Nat} (hk : k < 3) : LtK (LK k) ∧ stB (1021 + k) = LK k ∧ stB (1033 + k) = LK k ∧ (∀ j (g : Mm), j < 3 → X12_leastOf (zN (chK k)) (zN j) g = some (zN (loK k j))) ∧ (∀ j (g : Mm), j < 3 → X12_mostOf (zN (chK k)) (zN j) g = some (zN (hiK k j))) ∧ (∀ j (g : Mm), j < 3 → X12_usual (zN (chK k)) (zN j) g = some (zN (usK k j))) := by
  have f3 : ∀ (P : Nat → Prop), P 0 → P 1 → P 2 → ∀ j, j < 3 → P j := fun P p0 p1 p2 j hj => by
    rcases (show j = 0 ∨ j = 1 ∨ j = 2 by omega) with rfl | rfl | rfl
    · exact p0
    · exact p1
    · exact p2
  rcases (show k = 0 ∨ k = 1 ∨ k = 2 by omega) with rfl | rfl | rfl
  · exact ⟨ltk_0, rfl, rfl, fun j g hj => f3 (fun j => X12_leastOf (zN (chK 0)) (zN j) g = some (zN (loK 0 j))) rfl rfl rfl j hj, fun j g hj => f3 (fun j => X12_mostOf (zN (chK 0)) (zN j) g = some (zN (hiK 0 j))) rfl rfl rfl j hj, fun j g hj => f3 (fun j => X12_usual (zN (chK 0)) (zN j) g = some (zN (usK 0 j))) rfl rfl rfl j hj⟩
  · exact ⟨ltk_1, rfl, rfl, fun j g hj => f3 (fun j => X12_leastOf (zN (chK 1)) (zN j) g = some (zN (loK 1 j))) rfl rfl rfl j hj, fun j g hj => f3 (fun j => X12_mostOf (zN (chK 1)) (zN j) g = some (zN (hiK 1 j))) rfl rfl rfl j hj, fun j g hj => f3 (fun j => X12_usual (zN (chK 1)) (zN j) g = some (zN (usK 1 j))) rfl rfl rfl j hj⟩
  · exact ⟨ltk_2, rfl, rfl, fun j g hj => f3 (fun j => X12_leastOf (zN (chK 2)) (zN j) g = some (zN (loK 2 j))) rfl rfl rfl j hj, fun j g hj => f3 (fun j => X12_mostOf (zN (chK 2)) (zN j) g = some (zN (hiK 2 j))) rfl rfl rfl j hj, fun j g hj => f3 (fun j => X12_usual (zN (chK 2)) (zN j) g = some (zN (usK 2 j))) rfl rfl rfl j hj⟩
theorem ix_1020 : ∀ c, c < 256 → ixN (zN c).toInt8.toInt32 [115, 98, 104] 0 = if c = 115 then zN 0 else if c = 98 then zN 1 else if c = 104 then zN 2 else -1 := by decide +kernel
theorem c_29 {n k r p : Nat} {h : Mm} (hk : k < 3) (hr : r < 6) : X2_takeClause_29 n (zN k) (zN r) (mk h p) = X2_takeClause_77 n n (zN k) (zN r) (1021 + k) (zN 0) (zN (pcK 0)) (mk h (p + 1)) := by
  unfold X2_takeClause_29 X2_takeClause_70
  rw [if_pos (show (0 : Int32) ≤ zN r by rw [show (0 : Int32) = zN 0 from rfl, zN_le (by decide) (by omega)]; omega), mk_inc]
  rcases (show k = 0 ∨ k = 1 ∨ k = 2 by omega) with rfl | rfl | rfl
  · rw [if_pos (show zN 0 = 0 from rfl)]; rfl
  · rw [if_neg (show ¬ zN 1 = 0 by decide), if_pos (show zN 1 = 1 from rfl)]; rfl
  · rw [if_neg (show ¬ zN 2 = 0 by decide), if_neg (show ¬ zN 2 = 1 by decide)]; rfl
theorem c_open {n k p : Nat} {h : Mm} {cnt : Nat → Nat} (hn : 20000 ≤ n) (hk : k < 3) (h5 : h.1 5 k = zN (cnt k)) (hc : cnt k ≤ lmK k) : X1_open n 4 (zN k) (mk h p) = if cnt k < lmK k then some (zN (cnt k), mk (wI (wI (wI (wI h 5 k (zN (cnt k + 1))) 6 (ofK k + 3 * cnt k) (zN (usK k 0))) 6 (ofK k + 3 * cnt k + 1) (zN (usK k 1))) 6 (ofK k + 3 * cnt k + 2) (zN (usK k 2))) p) else some (-1, mk h p) := by
  have e := k3 hk
  unfold X1_open
  rw [show (4 : Nat) + 1 = 5 from rfl, at_5 (by omega), bp_some, at_1002 (by omega), bp_some, (ex_of k hk).2, mk_i (by decide), h5]
  by_cases c : cnt k < lmK k
  · rw [if_pos c, if_pos ((zN_lt (by omega) (by omega)).mpr c), sN1, pu_5 (by omega), bd_some, c_fillU hn hk (by omega) (by omega), bd_some, mk_wi (by decide), mk_wi (by decide), mk_wi (by decide), mk_wi (by decide)]
  · rw [if_neg c, if_neg (fun z => c ((zN_lt (by omega) (by omega)).mp z))]
theorem m_open {T : Nat → Nat} {s n k p : Nat} {g : Mm} {dp : Int32} {cnt : Nat → Nat} (hn : 20000 ≤ n) (mt : MT T s 252 0 g) (hp : p ≤ s) (hk : k < 3) (hc : cnt k ≤ lmK k) (hg : g.1 251 (fcK k) = zN (cnt k)) (ec : sg T s (skp T s p) = chK k) : X12_readClause n (ms g p (-1) dp) = if cnt k < lmK k then bd (X12_readItems n (zN (chK k)) (mcK k) (zN (3 * cnt k)) (1033 + k) (ms (wI g 251 (fcK k) (zN (cnt k + 1))) (skp T s p + 1) (-1) dp)) (fun _ h42 => some ((), h42)) else some ((), ms g (skp T s p) (zN (skp T s p)) dp) := by
  have ez : zM (sg T s (skp T s p)) = zN (chK k) := by
    rw [ec]; rcases (show k = 0 ∨ k = 1 ∨ k = 2 by omega) with rfl | rfl | rfl <;> rfl
  unfold X12_readClause
  rw [m_look mt hn hp, bd_some, ez]
  rcases (show k = 0 ∨ k = 1 ∨ k = 2 by omega) with rfl | rfl | rfl
  · have hg : g.1 251 31 = zN (cnt 0) := hg
    have hc : cnt 0 ≤ 1 := hc
    unfold X12_readClause_18 X12_readClause_33 X12_readClause_48 X12_readClause_52 X12_readClause_53
    rw [if_pos (show zN (chK 0) = 115 from rfl), ms_k (by decide) (by decide) (by decide), hg]
    by_cases c : cnt 0 = 0
    · rw [if_pos (show zN (cnt 0) = 0 by rw [c]; rfl), if_pos rfl, if_pos (show zN (chK 0) = 115 from rfl), if_pos (show cnt 0 < lmK 0 by show cnt 0 < 1; omega), ms_inc, ms_wk (by decide) (by decide) (by decide), c]
      rfl
    · rw [if_neg (show ¬ zN (cnt 0) = 0 by rw [show (0 : Int32) = zN 0 from rfl, zN_eq (by omega) (by decide)]; exact c), if_neg (show ¬ zN (chK 0) = 98 by decide), if_neg (show ¬ zN (chK 0) = 104 by decide), if_neg (show ¬ (false = true) by decide), if_neg (show ¬ cnt 0 < lmK 0 by show ¬ cnt 0 < 1; omega), m_fail, bd_some]
  · have hg : g.1 251 28 = zN (cnt 1) := hg
    have hc : cnt 1 ≤ 6 := hc
    unfold X12_readClause_18 X12_readClause_33 X12_readClause_48 X12_readClause_52 X12_readClause_53
    rw [if_neg (show ¬ zN (chK 1) = 115 by decide), if_pos (show zN (chK 1) = 98 from rfl), ms_k (by decide) (by decide) (by decide), hg]
    by_cases c : cnt 1 < 6
    · rw [if_pos (show zN (cnt 1) < 6 by rw [zN_lit, zN_lt (by omega) (by decide)]; exact c), if_pos rfl, if_neg (show ¬ zN (chK 1) = 115 by decide), if_pos (show zN (chK 1) = 98 from rfl), if_pos (show cnt 1 < lmK 1 from c), ms_inc, ms_k (by decide) (by decide) (by decide), hg, sN1, ms_wk (by decide) (by decide) (by decide), ms_k (by decide) (by decide) (by decide), w_eq, u_eq, show zN (cnt 1 + 1) - (1 : Int32) = zN (cnt 1) from zN_sub (show 1 ≤ cnt 1 + 1 by omega), show (3 : Int32) * zN (cnt 1) = zN (3 * cnt 1) from zN_mul ..]
      rfl
    · rw [if_neg (show ¬ zN (cnt 1) < 6 by rw [zN_lit, zN_lt (by omega) (by decide)]; exact c), if_neg (show ¬ zN (chK 1) = 104 by decide), if_neg (show ¬ (false = true) by decide), if_neg (show ¬ cnt 1 < lmK 1 from c), m_fail, bd_some]
  · have hg : g.1 251 29 = zN (cnt 2) := hg
    have hc : cnt 2 ≤ 6 := hc
    unfold X12_readClause_18 X12_readClause_33 X12_readClause_48 X12_readClause_52 X12_readClause_53
    rw [if_neg (show ¬ zN (chK 2) = 115 by decide), if_neg (show ¬ zN (chK 2) = 98 by decide), if_pos (show zN (chK 2) = 104 from rfl), ms_k (by decide) (by decide) (by decide), hg]
    by_cases c : cnt 2 < 6
    · rw [if_neg (show ¬ (6 : Int32) ≤ zN (cnt 2) by rw [zN_lit, zN_le (by decide) (by omega)]; omega), if_pos rfl, if_neg (show ¬ zN (chK 2) = 115 by decide), if_neg (show ¬ zN (chK 2) = 98 by decide), if_pos (show cnt 2 < lmK 2 from c), ms_inc, ms_k (by decide) (by decide) (by decide), hg, sN1, ms_wk (by decide) (by decide) (by decide), ms_k (by decide) (by decide) (by decide), w_eq, u_eq, show zN (cnt 2 + 1) - (1 : Int32) = zN (cnt 2) from zN_sub (show 1 ≤ cnt 2 + 1 by omega), show (3 : Int32) * zN (cnt 2) = zN (3 * cnt 2) from zN_mul ..]
      rfl
    · rw [if_pos (show (6 : Int32) ≤ zN (cnt 2) by rw [zN_lit, zN_le (by decide) (by omega)]; omega), if_neg (show ¬ (false = true) by decide), if_neg (show ¬ cnt 2 < lmK 2 from c), m_fail, bd_some]
theorem lclause {T : Nat → Nat} {s n p : Nat} {h g : Mm} {dp : Int32} {cnt nm : Nat → Nat} (hn : 20000 ≤ n) (h240 : s ≤ 240) (ct : CT T s h) (mt : MT T s 252 0 g) (hp : p ≤ s) (dr : DrR cnt nm h g) :
    (∃ h' g' Q a, Q ≤ s ∧ X2_takeClause n (mk h p) = some (false, mk h' Q) ∧ X12_readClause n (ms g p (-1) dp) = some ((), ms g' a (zN Q) dp) ∧ FlC h h' ∧ FlM g g') ∨
    (∃ h' g' cnt' nm' p', p < p' ∧ p' ≤ s ∧ X2_takeClause n (mk h p) = some (true, mk h' p') ∧ FlC h h' ∧ FlM g g' ∧ DrR cnt' nm' h' g' ∧ (X12_readClause n (ms g p (-1) dp) = some ((), ms g' (skp T s p') (-1) dp) ∨ (sg T s (skp T s p') ≠ 0 ∧ sg T s (skp T s p') ≠ 59 ∧ X12_readClause n (ms g p (-1) dp) = some ((), ms g' (skp T s p') (zN (skp T s p')) dp)))) := by
  have b := skp_b (T := T) hp
  have sl := sg_le ct (skp T s p)
  have cst : X2_takeClause n (mk h p) = (if 0 ≤ (if sg T s (skp T s p) = 115 then zN 0 else if sg T s (skp T s p) = 98 then zN 1 else if sg T s (skp T s p) = 104 then zN 2 else -1) then (bd (X1_open n 4 (if sg T s (skp T s p) = 115 then zN 0 else if sg T s (skp T s p) = 98 then zN 1 else if sg T s (skp T s p) = 104 then zN 2 else -1) (mk h (skp T s p))) (fun r62 h64 => (X2_takeClause_29 n (if sg T s (skp T s p) = 115 then zN 0 else if sg T s (skp T s p) = 98 then zN 1 else if sg T s (skp T s p) = 104 then zN 2 else -1) r62 h64))) else (X2_takeClause_29 n (if sg T s (skp T s p) = 115 then zN 0 else if sg T s (skp T s p) = 98 then zN 1 else if sg T s (skp T s p) = 104 then zN 2 else -1) (-1 : Int32) (mk h (skp T s p)))) := by
    unfold X2_takeClause
    rw [c_sign hn ct hp, bd_some, j_ix hn (show stB 1020 = [115, 98, 104] from rfl) (by decide) (by decide) sl, bp_some, ix_1020 _ (by omega)]
  have key : ∀ k, k < 3 → sg T s (skp T s p) = chK k → X2_takeClause n (mk h p) = bd (X1_open n 4 (zN k) (mk h (skp T s p))) (fun r62 h64 => X2_takeClause_29 n (zN k) r62 h64) → (∃ h' g' Q a, Q ≤ s ∧ X2_takeClause n (mk h p) = some (false, mk h' Q) ∧ X12_readClause n (ms g p (-1) dp) = some ((), ms g' a (zN Q) dp) ∧ FlC h h' ∧ FlM g g') ∨
      (∃ h' g' cnt' nm' p', p < p' ∧ p' ≤ s ∧ X2_takeClause n (mk h p) = some (true, mk h' p') ∧ FlC h h' ∧ FlM g g' ∧ DrR cnt' nm' h' g' ∧ (X12_readClause n (ms g p (-1) dp) = some ((), ms g' (skp T s p') (-1) dp) ∨ (sg T s (skp T s p') ≠ 0 ∧ sg T s (skp T s p') ≠ 59 ∧ X12_readClause n (ms g p (-1) dp) = some ((), ms g' (skp T s p') (zN (skp T s p')) dp)))) := fun k hk ec e => by
    obtain ⟨d1, d2, d3⟩ := dr.1 k hk
    have e3 := k3 hk
    have mo := m_open (dp := dp) hn mt hp hk d3 d2 ec
    rw [c_open hn hk d1 d3] at e
    have nz : sg T s (skp T s p) ≠ 0 := by
      rw [ec]; rcases (show k = 0 ∨ k = 1 ∨ k = 2 by omega) with rfl | rfl | rfl <;> decide
    have lt : skp T s p + 1 ≤ s := sg_lt (T := T) nz
    by_cases c : cnt k < lmK k
    · obtain ⟨q1, q2, q3, q4, q5, q6⟩ := kinds hk
      have al : 3 * cnt k + 3 ≤ aln (mcK k) := by
        rcases e3 with ⟨rfl, e3⟩ | ⟨rfl, e3⟩ | ⟨rfl, e3⟩
        · rw [e3.2.1, al_257]; omega
        · rw [e3.2.1, al_259]; omega
        · rw [e3.2.1, al_261]; omega
      rw [if_pos c, bd_some, c_29 hk (by omega)] at e
      rw [if_pos c, m_items hn q3 q1.2.1 q6 al (by omega), ms_wi (by omega), ms_wi (by omega), ms_wi (by omega)] at mo
      have fm : FlM g (wI (wI (wI (wI g 251 (fcK k) (zN (cnt k + 1))) (mcK k) (3 * cnt k) (zN (usK k 0))) (mcK k) (3 * cnt k + 1) (zN (usK k 1))) (mcK k) (3 * cnt k + 2) (zN (usK k 2))) := (((FlM.wf hk).tr (FlM.wm hk)).tr (FlM.wm hk)).tr (FlM.wm hk)
      have fc : FlC h (wI (wI (wI (wI h 5 k (zN (cnt k + 1))) 6 (ofK k + 3 * cnt k) (zN (usK k 0))) 6 (ofK k + 3 * cnt k + 1) (zN (usK k 1))) 6 (ofK k + 3 * cnt k + 2) (zN (usK k 2))) := ((FlC.w5.tr FlC.w6).tr FlC.w6).tr FlC.w6
      have dr2 := dr.opn (h2 := wI (wI (wI (wI h 5 k (zN (cnt k + 1))) 6 (ofK k + 3 * cnt k) (zN (usK k 0))) 6 (ofK k + 3 * cnt k + 1) (zN (usK k 1))) 6 (ofK k + 3 * cnt k + 2) (zN (usK k 2))) (g2 := wI (wI (wI (wI g 251 (fcK k) (zN (cnt k + 1))) (mcK k) (3 * cnt k) (zN (usK k 0))) (mcK k) (3 * cnt k + 1) (zN (usK k 1))) (mcK k) (3 * cnt k + 2) (zN (usK k 2))) (u0 := usK k 0) (u1 := usK k 1) (u2 := usK k 2) hk c (by rw [w_ne (by decide), w_ne (by decide), w_ne (by decide), w_eq]) (by rw [w_eq, w_eq, w_eq, w_ne (show (6 : Nat) ≠ 5 by decide)]) (fun k' hk' => by
          have e3' := k3 hk'
          rw [w_ne (by omega), w_ne (by omega), w_ne (by omega), w_eq]
          by_cases z : k' = k
          · subst z; rw [u_eq, if_pos rfl]
          · rw [u_ne (by omega), if_neg z]) (by rw [w_eq, w_eq, w_eq, w_ne (by omega)]) (fun k' hk' z => by
          have e3' := k3 hk'
          rw [w_ne (by omega), w_ne (by omega), w_ne (by omega), w_ne (by omega)]) (us_b k hk 0 (by omega)).2 (us_b k hk 1 (by omega)).2 (us_b k hk 2 (by omega)).2
      have hr : cnt k < rwK (uN cnt k (cnt k + 1)) k := by
        unfold rwK
        by_cases z : k = 0
        · rw [if_pos z]; omega
        · rw [if_neg z, uN_eq]; omega
      rcases items_lp (dp := dp) hn h240 hk hr (by omega) (by omega) q1 q2 q3 q4 q5 al 3 0 (skp T s p + 1) n n _ _ _ (by omega) (by decide) (by omega) (by omega) lt (fc.ct ct) (fm.mt mt) dr2 with ⟨h2, g2, Q, a, u1, u2, u3, u4, u5⟩ | ⟨h2, g2, nm2, p2, u1, u2, u3, u4, u5, u6, u7⟩
      · exact Or.inl ⟨h2, g2, Q, a, u1, by rw [e]; exact u2, by rw [mo, u3, bd_some], fc.tr u4, fm.tr u5⟩
      · refine Or.inr ⟨h2, g2, _, nm2, p2, by omega, u2, by rw [e]; exact u3, fc.tr u4, fm.tr u5, u6, ?_⟩
        rcases u7 with u7 | ⟨u7, u8, u9⟩
        · left; rw [mo, u7, bd_some]
        · right; exact ⟨u7, u8, by rw [mo, u9, bd_some]⟩
    · rw [if_neg c, bd_some] at e
      rw [if_neg c] at mo
      refine Or.inl ⟨h, g, skp T s p, skp T s p, b.2, ?_, mo, FlC.rf, FlM.rf⟩
      rw [e]
      unfold X2_takeClause_29
      rw [if_neg (show ¬ (0 : Int32) ≤ -1 by decide)]
  by_cases c0 : sg T s (skp T s p) = 115
  · exact key 0 (by omega) c0 (by rw [cst, if_pos c0, if_pos (show (0 : Int32) ≤ zN 0 by decide)])
  · by_cases c1 : sg T s (skp T s p) = 98
    · exact key 1 (by omega) c1 (by rw [cst, if_neg c0, if_pos c1, if_pos (show (0 : Int32) ≤ zN 1 by decide)])
    · by_cases c2 : sg T s (skp T s p) = 104
      · exact key 2 (by omega) c2 (by rw [cst, if_neg c0, if_neg c1, if_pos c2, if_pos (show (0 : Int32) ≤ zN 2 by decide)])
      · refine Or.inl ⟨h, g, skp T s p, skp T s p, b.2, ?_, ?_, FlC.rf, FlM.rf⟩
        · rw [cst, if_neg c0, if_neg c1, if_neg c2, if_neg (show ¬ (0 : Int32) ≤ -1 by decide)]
          unfold X2_takeClause_29
          rw [if_neg (show ¬ (0 : Int32) ≤ -1 by decide)]
        · unfold X12_readClause X12_readClause_18 X12_readClause_33 X12_readClause_52 X12_readClause_53
          rw [m_look mt hn hp, bd_some, if_neg (show ¬ zM (sg T s (skp T s p)) = 115 from fun z => c0 ((zM_eq sl (by decide) (by decide)).mp z)), if_neg (show ¬ zM (sg T s (skp T s p)) = 98 from fun z => c1 ((zM_eq sl (by decide) (by decide)).mp z)), if_neg (show ¬ zM (sg T s (skp T s p)) = 104 from fun z => c2 ((zM_eq sl (by decide) (by decide)).mp z)), if_neg (show ¬ (false = true) by decide), m_fail, bd_some]
