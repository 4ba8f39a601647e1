/-! the tape of a LANDING: numbers, the draft -/
theorem hb255 : ∀ c, c < 256 → ((zN c).toInt8.toInt32 &&& (255 : Int32)) = zN c := by decide +kernel
theorem m_here {T : Nat → Nat} {s t b0 n p : Nat} {g : Mm} {dp : Int32} (mt : MT T s t b0 g) (hp : p < s) : X12_here (ms g p (-1) dp) = some (zN (sg T s p)) := by
  obtain ⟨m1, m2, m3, ⟨m4, m5, m6⟩, m7⟩ := id mt
  obtain ⟨r1, r2, r3⟩ := m_rd (n := n) (T := T) (fl := -1) (dp := dp) mt hp
  have t2 := (m7 p hp).2.2
  unfold X12_here
  rw [if_neg (show ¬ (ms g p (-1) dp).1 251 9 ≤ (ms g p (-1) dp).1 251 10 by rw [ms_10, ms_k (by decide) (by decide) (by decide), m6, zN_le (by omega) (by omega)]; omega), r1, bp_some, if_pos r2, r3, hb255 _ (by omega)]
  unfold sg; rw [if_pos hp]
theorem m_67 {T : Nat → Nat} {s t b0 n E v lo hi : Nat} {g : Mm} {dp : Int32} (mt : MT T s t b0 g) (hE : E ≤ s) (h1 : 1 ≤ E) (hv : v < 1000) (hlo : lo < 1000) (hhi : hi < 1000) : X12_number_67 n (zN lo) (zN hi) (zN v) (ms g E (-1) dp) = if dg T s E = true then some (0, ms g E (zN E) dp) else if lo ≤ v ∧ v ≤ hi then some (zN v, ms g E (-1) dp) else some (zN v, ms g (E - 1) (zN (E - 1)) dp) := by
  unfold X12_number_67 X12_number_109
  rw [m_isDig (n := n) mt hE, bp_some, m_isIn, bp_some]
  by_cases d : dg T s E = true
  · rw [if_pos d, if_pos d, m_fail, bd_some]
  · rw [if_neg d, if_neg d]
    by_cases c : lo ≤ v ∧ v ≤ hi
    · rw [if_pos c, decide_eq_true (show zN lo ≤ zN v ∧ zN v ≤ zN hi from ⟨(zN_le (by omega) (by omega)).mpr c.1, (zN_le (by omega) (by omega)).mpr c.2⟩), if_pos rfl]
    · rw [if_neg c, decide_eq_false (fun z => c ⟨(zN_le (by omega) (by omega)).mp z.1, (zN_le (by omega) (by omega)).mp z.2⟩), if_neg (show ¬ (false = true) by decide), ms_10, show zN E - (1 : Int32) = zN (E - 1) from zN_sub h1, ms_w10, m_fail, bd_some]
theorem m_number {T : Nat → Nat} {s t b0 n p lo hi : Nat} {g : Mm} {dp : Int32} (hn : 20000 ≤ n) (mt : MT T s t b0 g) (hp : p ≤ s) (hlo : lo < 1000) (hhi : hi < 1000) :
    (¬ dg T s (skp T s p) = true → X12_number n (zN lo) (zN hi) (ms g p (-1) dp) = some (0, ms g (skp T s p) (zN (skp T s p)) dp)) ∧
    (dg T s (skp T s p) = true → skp T s p + 1 ≤ (nmF T s 2 0 (skp T s p)).2 ∧ (nmF T s 2 0 (skp T s p)).2 ≤ s ∧ ((nmF T s 2 0 (skp T s p)).1 = none → X12_number n (zN lo) (zN hi) (ms g p (-1) dp) = some (0, ms g (nmF T s 2 0 (skp T s p)).2 (zN (nmF T s 2 0 (skp T s p)).2) dp)) ∧ (∀ w, (nmF T s 2 0 (skp T s p)).1 = some w → w < 100 ∧ X12_number n (zN lo) (zN hi) (ms g p (-1) dp) = if lo ≤ w ∧ w ≤ hi then some (zN w, ms g (nmF T s 2 0 (skp T s p)).2 (-1) dp) else some (zN w, ms g ((nmF T s 2 0 (skp T s p)).2 - 1) (zN ((nmF T s 2 0 (skp T s p)).2 - 1)) dp))) := by
  have b := skp_b (T := T) hp
  refine ⟨fun d => ?_, fun d => ?_⟩
  · unfold X12_number
    rw [m_look mt hn hp, bd_some, m_isDig (n := n) mt b.2, bp_some, if_neg d, m_fail, bd_some]
  · have d1 := dg_lt d
    have l1 : skp T s p + 1 ≤ s := d1.1
    have ez : zM (sg T s (skp T s p)) = zN (sg T s (skp T s p)) := by unfold zM; rw [if_neg (by omega)]
    by_cases d' : dg T s (skp T s p + 1) = true
    · have d2 := dg_lt d'
      have l2 : skp T s p + 1 + 1 ≤ s := d2.1
      have e : nmF T s 2 0 (skp T s p) = if dg T s (skp T s p + 1 + 1) = true then (none, skp T s p + 1 + 1) else (some ((0 * 10 + (sg T s (skp T s p) - 48)) * 10 + (sg T s (skp T s p + 1) - 48)), skp T s p + 1 + 1) := by
        simp only [nmF, if_pos d, if_pos d']
      have eX : X12_number n (zN lo) (zN hi) (ms g p (-1) dp) = if dg T s (skp T s p + 1 + 1) = true then some (0, ms g (skp T s p + 1 + 1) (zN (skp T s p + 1 + 1)) dp) else if lo ≤ (0 * 10 + (sg T s (skp T s p) - 48)) * 10 + (sg T s (skp T s p + 1) - 48) ∧ (0 * 10 + (sg T s (skp T s p) - 48)) * 10 + (sg T s (skp T s p + 1) - 48) ≤ hi then some (zN ((0 * 10 + (sg T s (skp T s p) - 48)) * 10 + (sg T s (skp T s p + 1) - 48)), ms g (skp T s p + 1 + 1) (-1) dp) else some (zN ((0 * 10 + (sg T s (skp T s p) - 48)) * 10 + (sg T s (skp T s p + 1) - 48)), ms g (skp T s p + 1 + 1 - 1) (zN (skp T s p + 1 + 1 - 1)) dp) := by
        unfold X12_number
        rw [m_look mt hn hp, bd_some, m_isDig (n := n) mt b.2, bp_some, if_pos d, ms_inc, m_isDig (n := n) mt l1, bp_some, if_pos d', m_here (n := n) mt l2, bp_some, ms_inc, ez, show (10 : Int32) = zN 10 from rfl, show (48 : Int32) = zN 48 from rfl, zN_sub d1.2.1, zN_mul, zN_add, zN_sub (by omega), show 10 * (sg T s (skp T s p) - 48) + sg T s (skp T s p + 1) - 48 = (0 * 10 + (sg T s (skp T s p) - 48)) * 10 + (sg T s (skp T s p + 1) - 48) by omega, m_67 mt l2 (by omega) (by omega) hlo hhi]
      by_cases d3 : dg T s (skp T s p + 1 + 1) = true
      · rw [if_pos d3] at e eX
        rw [e]
        exact ⟨by show skp T s p + 1 ≤ skp T s p + 1 + 1; omega, l2, fun _ => eX, fun w z => (by cases z)⟩
      · rw [if_neg d3] at e eX
        rw [e]
        refine ⟨by show skp T s p + 1 ≤ skp T s p + 1 + 1; omega, l2, fun z => (by cases z), fun w z => ?_⟩
        have z := Option.some.inj z
        rw [← z]
        exact ⟨by omega, eX⟩
    · have e : nmF T s 2 0 (skp T s p) = (some (0 * 10 + (sg T s (skp T s p) - 48)), skp T s p + 1) := by
        simp only [nmF, if_pos d, if_neg d']
      have eX : X12_number n (zN lo) (zN hi) (ms g p (-1) dp) = if lo ≤ 0 * 10 + (sg T s (skp T s p) - 48) ∧ 0 * 10 + (sg T s (skp T s p) - 48) ≤ hi then some (zN (0 * 10 + (sg T s (skp T s p) - 48)), ms g (skp T s p + 1) (-1) dp) else some (zN (0 * 10 + (sg T s (skp T s p) - 48)), ms g (skp T s p + 1 - 1) (zN (skp T s p + 1 - 1)) dp) := by
        unfold X12_number
        rw [m_look mt hn hp, bd_some, m_isDig (n := n) mt b.2, bp_some, if_pos d, ms_inc, m_isDig (n := n) mt l1, bp_some, if_neg d', ez, show (48 : Int32) = zN 48 from rfl, zN_sub d1.2.1, m_67 mt l1 (by omega) (by omega) hlo hhi, if_neg d', Nat.zero_mul, Nat.zero_add]
      rw [e]
      refine ⟨Nat.le_refl _, l1, fun z => (by cases z), fun w z => ?_⟩
      have z := Option.some.inj z
      rw [← z]
      exact ⟨by omega, eX⟩
def fcK (k : Nat) : Nat := if k = 0 then 31 else if k = 1 then 28 else 29
def ofK (k : Nat) : Nat := if k = 0 then 0 else if k = 1 then 3 else 21
def mcK (k : Nat) : Nat := if k = 0 then 257 else if k = 1 then 259 else 261
def lmK (k : Nat) : Nat := if k = 0 then 1 else 6
def loK (k j : Nat) : Nat := if k = 1 then (if j = 0 then 1 else 0) else (if j = 1 then 1 else 0)
def hiK (k j : Nat) : Nat := if k = 0 then (if j = 2 then 30 else 99) else if k = 1 then (if j = 2 then 3 else 9) else (if j = 1 then 40 else 9)
def rwK (cnt : Nat → Nat) (k : Nat) : Nat := if k = 0 then 1 else cnt k
def DrR (cnt nm : Nat → Nat) (h g : Mm) : Prop := (∀ k, k < 3 → h.1 5 k = zN (cnt k) ∧ g.1 251 (fcK k) = zN (cnt k) ∧ cnt k ≤ lmK k) ∧
  ∀ k i j, k < 3 → i < rwK cnt k → j < 3 → h.1 6 (ofK k + 3 * i + j) = zN (nm (ofK k + 3 * i + j)) ∧ g.1 (mcK k) (3 * i + j) = zN (nm (ofK k + 3 * i + j)) ∧ loK k j ≤ nm (ofK k + 3 * i + j) ∧ nm (ofK k + 3 * i + j) ≤ hiK k j
theorem k3 {k : Nat} (h : k < 3) : (k = 0 ∧ ofK k = 0 ∧ mcK k = 257 ∧ lmK k = 1 ∧ fcK k = 31) ∨ (k = 1 ∧ ofK k = 3 ∧ mcK k = 259 ∧ lmK k = 6 ∧ fcK k = 28) ∨ (k = 2 ∧ ofK k = 21 ∧ mcK k = 261 ∧ lmK k = 6 ∧ fcK k = 29) := by
  rcases (show k = 0 ∨ k = 1 ∨ k = 2 by omega) with rfl | rfl | rfl
  · exact Or.inl ⟨rfl, rfl, rfl, rfl, rfl⟩
  · exact Or.inr (Or.inl ⟨rfl, rfl, rfl, rfl, rfl⟩)
  · exact Or.inr (Or.inr ⟨rfl, rfl, rfl, rfl, rfl⟩)
theorem rw_b {cnt : Nat → Nat} {k i : Nat} (hk : k < 3) (hc : cnt k ≤ lmK k) (hi : i < rwK cnt k) : (k = 0 ∧ i = 0) ∨ (k ≠ 0 ∧ i < 6) := by
  unfold rwK at hi
  by_cases c : k = 0
  · rw [if_pos c] at hi; left; omega
  · rw [if_neg c] at hi; have := k3 hk; right; omega
theorem DrR.set {cnt nm : Nat → Nat} {h g : Mm} {k i j v : Nat} (q : DrR cnt nm h g) (hk : k < 3) (hi : i < rwK cnt k) (hj : j < 3) (v1 : loK k j ≤ v) (v2 : v ≤ hiK k j) : DrR cnt (uN nm (ofK k + 3 * i + j) v) (wI h 6 (ofK k + 3 * i + j) (zN v)) (wI g (mcK k) (3 * i + j) (zN v)) := by
  have m251 : 251 ≠ mcK k := by have := k3 hk; omega
  refine ⟨fun k' hk' => by rw [w_ne (by decide), w_ne m251]; exact q.1 k' hk', fun k' i' j' hk' hi' hj' => ?_⟩
  have b := rw_b hk (q.1 k hk).2.2 hi
  have b' := rw_b hk' (q.1 k' hk').2.2 hi'
  have e := k3 hk
  have e' := k3 hk'
  by_cases c : k' = k ∧ i' = i ∧ j' = j
  · obtain ⟨rfl, rfl, rfl⟩ := c
    rw [w_eq, u_eq, w_eq, u_eq, uN_eq]
    exact ⟨rfl, rfl, v1, v2⟩
  · have ne : ofK k' + 3 * i' + j' ≠ ofK k + 3 * i + j := by omega
    have q2 := q.2 k' i' j' hk' hi' hj'
    rw [w_eq, u_ne ne, uN_ne ne]
    by_cases ck : k' = k
    · subst ck
      rw [w_eq, u_ne (by omega)]; exact q2
    · rw [w_ne (by omega)]; exact q2
theorem DrR.opn {cnt nm : Nat → Nat} {h g h2 g2 : Mm} {k u0 u1 u2 : Nat} (q : DrR cnt nm h g) (hk : k < 3) (hr : cnt k < lmK k) (e5 : h2.1 5 = upd (h.1 5) k (zN (cnt k + 1))) (e6 : h2.1 6 = upd (upd (upd (h.1 6) (ofK k + 3 * cnt k) (zN u0)) (ofK k + 3 * cnt k + 1) (zN u1)) (ofK k + 3 * cnt k + 2) (zN u2)) (eg : ∀ k', k' < 3 → g2.1 251 (fcK k') = if k' = k then zN (cnt k + 1) else g.1 251 (fcK k')) (em : g2.1 (mcK k) = upd (upd (upd (g.1 (mcK k)) (3 * cnt k) (zN u0)) (3 * cnt k + 1) (zN u1)) (3 * cnt k + 2) (zN u2)) (em' : ∀ k', k' < 3 → k' ≠ k → g2.1 (mcK k') = g.1 (mcK k')) (w0 : loK k 0 ≤ u0 ∧ u0 ≤ hiK k 0) (w1 : loK k 1 ≤ u1 ∧ u1 ≤ hiK k 1) (w2 : loK k 2 ≤ u2 ∧ u2 ≤ hiK k 2) : DrR (uN cnt k (cnt k + 1)) (uN (uN (uN nm (ofK k + 3 * cnt k) u0) (ofK k + 3 * cnt k + 1) u1) (ofK k + 3 * cnt k + 2) u2) h2 g2 := by
  have e := k3 hk
  refine ⟨fun k' hk' => ?_, fun k' i' j' hk' hi' hj' => ?_⟩
  · rw [e5, eg k' hk']
    by_cases c : k' = k
    · subst c; rw [u_eq, if_pos rfl, uN_eq]; exact ⟨rfl, rfl, hr⟩
    · rw [u_ne c, if_neg c, uN_ne c]; exact q.1 k' hk'
  · have e' := k3 hk'
    by_cases c : k' = k ∧ i' = cnt k
    · obtain ⟨rfl, rfl⟩ := c
      rcases (show j' = 0 ∨ j' = 1 ∨ j' = 2 by omega) with rfl | rfl | rfl
      · rw [e6, em]; simp (disch := omega) only [u_ne, u_eq, uN_ne, uN_eq, Nat.add_zero]; exact ⟨trivial, trivial, w0⟩
      · rw [e6, em]; simp (disch := omega) only [u_ne, u_eq, uN_ne, uN_eq]; exact ⟨trivial, trivial, w1⟩
      · rw [e6, em]; simp (disch := omega) only [u_ne, u_eq, uN_ne, uN_eq]; exact ⟨trivial, trivial, w2⟩
    · have hi2 : i' < rwK cnt k' := by
        unfold rwK at hi' ⊢
        by_cases z : k' = 0
        · rw [if_pos z] at hi' ⊢; exact hi'
        · rw [if_neg z] at hi' ⊢
          by_cases c2 : k' = k
          · subst c2; rw [uN_eq] at hi'; omega
          · rw [uN_ne c2] at hi'; exact hi'
      have b' := rw_b hk' (q.1 k' hk').2.2 hi2
      have q2 := q.2 k' i' j' hk' hi2 hj'
      have n1 : cnt k < 6 := by omega
      have n2 : k = 0 → cnt k = 0 := by omega
      rw [e6, u_ne (by omega), u_ne (by omega), u_ne (by omega), uN_ne (by omega), uN_ne (by omega), uN_ne (by omega)]
      by_cases ck : k' = k
      · subst ck
        rw [em, u_ne (by omega), u_ne (by omega), u_ne (by omega)]; exact q2
      · rw [em' k' hk' ck]; exact q2
