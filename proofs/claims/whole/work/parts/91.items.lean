/-! the items of a clause -/
def FlC (h h' : Mm) : Prop := (∀ i, i ≠ 5 → i ≠ 6 → h'.1 i = h.1 i) ∧ h'.2 = h.2
def FlM (g g' : Mm) : Prop := (∀ i, i ≠ 251 → i ≠ 257 → i ≠ 259 → i ≠ 261 → g'.1 i = g.1 i) ∧ (∀ k, k ≠ 28 → k ≠ 29 → k ≠ 31 → g'.1 251 k = g.1 251 k) ∧ g'.2 = g.2
theorem FlC.rf {h : Mm} : FlC h h := ⟨fun _ _ _ => rfl, rfl⟩
theorem FlM.rf {h : Mm} : FlM h h := ⟨fun _ _ _ _ _ => rfl, fun _ _ _ _ => rfl, rfl⟩
theorem FlC.tr {a b c : Mm} (p : FlC a b) (q : FlC b c) : FlC a c := ⟨fun i h1 h2 => (q.1 i h1 h2).trans (p.1 i h1 h2), q.2.trans p.2⟩
theorem FlM.tr {a b c : Mm} (p : FlM a b) (q : FlM b c) : FlM a c := ⟨fun i h1 h2 h3 h4 => (q.1 i h1 h2 h3 h4).trans (p.1 i h1 h2 h3 h4), fun k h1 h2 h3 => (q.2.1 k h1 h2 h3).trans (p.2.1 k h1 h2 h3), q.2.2.trans p.2.2⟩
theorem FlC.ct {T : Nat → Nat} {s : Nat} {h h' : Mm} (q : FlC h h') (ct : CT T s h) : CT T s h' := by
  have e1 := q.1 1 (by decide) (by decide)
  have e2 := q.1 2 (by decide) (by decide)
  unfold CT; rw [e1, e2]; exact ct
theorem FlM.mt {T : Nat → Nat} {s : Nat} {g g' : Mm} (q : FlM g g') (mt : MT T s 252 0 g) : MT T s 252 0 g' := by
  have e2 := q.1 252 (by decide) (by decide) (by decide) (by decide)
  unfold MT
  rw [e2, q.2.1 5 (by decide) (by decide) (by decide), q.2.1 8 (by decide) (by decide) (by decide), q.2.1 9 (by decide) (by decide) (by decide)]; exact mt
theorem FlC.w6 {h : Mm} {k : Nat} {v : Int32} : FlC h (wI h 6 k v) := ⟨fun i _ h2 => by rw [w_ne h2], rfl⟩
theorem FlC.w5 {h : Mm} {k : Nat} {v : Int32} : FlC h (wI h 5 k v) := ⟨fun i h1 _ => by rw [w_ne h1], rfl⟩
theorem FlM.wm {g : Mm} {k j : Nat} {v : Int32} (hk : k < 3) : FlM g (wI g (mcK k) j v) := by
  have e := k3 hk
  exact ⟨fun i h1 h2 h3 h4 => by rw [w_ne (by omega)], fun k _ _ _ => by rw [w_ne (by omega)], rfl⟩
theorem FlM.wf {g : Mm} {k : Nat} {v : Int32} (hk : k < 3) : FlM g (wI g 251 (fcK k) v) := by
  have e := k3 hk
  exact ⟨fun i h1 _ _ _ => by rw [w_ne h1], fun j _ _ _ => by rw [w_eq, u_ne (by omega)], rfl⟩
theorem ex_of : ∀ k, k < 3 → EX 1001 k = zN (ofK k) ∧ EX 1002 k = zN (lmK k) := by decide +kernel
theorem ex_lh : ∀ k, k < 3 → ∀ j, j < 3 → EX 1004 (k * 3 + j) = zN (loK k j) ∧ EX 1005 (k * 3 + j) = zN (hiK k j) ∧ loK k j < 100 ∧ hiK k j < 100 := by decide +kernel
theorem c_tell {k r j : Nat} {v : Int32} {h : Mm} (hk : k < 3) (hr : r < 6) (hr0 : k = 0 → r = 0) (hj : j < 3) : X1_tell 4 (zN k) (zN r) (zN j) v h = some ((), wI h 6 (ofK k + 3 * r + j) v) := by
  have e := k3 hk
  unfold X1_tell
  rw [at_1001 (by omega), bp_some, (ex_of k hk).1, show (3 : Int32) = zN 3 from rfl, zN_mul, zN_add, zN_add, show (4 : Nat) + 2 = 6 from rfl, pu_6 (by omega), bd_some, Nat.mul_comm r 3]
theorem item_sp {T : Nat → Nat} {s n p k r j : Nat} {h g : Mm} {dp : Int32} (hn : 20000 ≤ n) (h240 : s ≤ 240) (ct : CT T s h) (mt : MT T s 252 0 g) (hp : p ≤ s) (hk : k < 3) (hr : r < 6) (hr0 : k = 0 → r = 0) (hj : j < 3) :
    (∃ Q a w, Q ≤ s ∧ X2_takeItem n (zN k) (zN r) (zN j) (mk h p) = some (false, mk h Q) ∧ X12_number n (zN (loK k j)) (zN (hiK k j)) (ms g p (-1) dp) = some (w, ms g a (zN Q) dp)) ∨
    (∃ w E, p < E ∧ E ≤ s ∧ loK k j ≤ w ∧ w ≤ hiK k j ∧ X2_takeItem n (zN k) (zN r) (zN j) (mk h p) = some (true, mk (wI h 6 (ofK k + 3 * r + j) (zN w)) E) ∧ X12_number n (zN (loK k j)) (zN (hiK k j)) (ms g p (-1) dp) = some (zN w, ms g E (-1) dp)) := by
  have b := skp_b (T := T) hp
  obtain ⟨x1, x2, x3, x4⟩ := ex_lh k hk j hj
  obtain ⟨nA, nB⟩ := m_number (dp := dp) (lo := loK k j) (hi := hiK k j) hn mt hp (by omega) (by omega)
  have nc := c_number (m := 2) hn ct (by decide) hp
  by_cases d : dg T s (skp T s p) = true
  · obtain ⟨y1, y2, y3, y4⟩ := nB d
    rw [if_pos d] at nc
    generalize nmF T s 2 0 (skp T s p) = F at *
    obtain ⟨o, E⟩ := F
    have y1 : skp T s p + 1 ≤ E := y1
    have y2 : E ≤ s := y2
    cases o with
    | none =>
      refine Or.inl ⟨E, E, 0, y2, ?_, y3 rfl⟩
      unfold X2_takeItem
      rw [show (2 : Int32) = zN 2 from rfl, nc, bd_some, show oZ ((none : Option Nat), E).1 = -1 from rfl, if_neg (show ¬ (0 : Int32) ≤ -1 by decide)]
    | some w =>
      obtain ⟨w1, w2⟩ := y4 w rfl
      have ec : X2_takeItem n (zN k) (zN r) (zN j) (mk h p) = if w < loK k j then some (false, mk h (E - 1)) else if w ≤ hiK k j then some (true, mk (wI h 6 (ofK k + 3 * r + j) (zN w)) E) else some (false, mk h (E - 1)) := by
        unfold X2_takeItem X2_takeItem_50
        have e1 : mk h ((some w, E) : Option Nat × Nat).2 = mk h E := rfl
        have e50 : wI (mk h E) 1 2 ((mk h E).1 1 2 - 1) = mk h (E - 1) := by rw [mk_2, show zN E - (1 : Int32) = zN (E - 1) from zN_sub (show 1 ≤ E by omega), mk_w]
        rw [show (2 : Int32) = zN 2 from rfl, nc, bd_some, show oZ ((some w : Option Nat), E).1 = zN w from rfl, if_pos (show (0 : Int32) ≤ zN w by rw [show (0 : Int32) = zN 0 from rfl, zN_le (by decide) (by omega)]; omega), e1, show (3 : Int32) = zN 3 from rfl, zN_mul, zN_add, at_1004 (by omega), bp_some, at_1005 (by omega), bp_some, x1, x2, c_tell hk hr hr0 hj, bd_some, e50, mk_wi (by decide)]
        by_cases c1 : w < loK k j
        · rw [if_pos ((zN_lt (by omega) (by omega)).mpr c1), if_pos c1]
        · rw [if_neg (fun z => c1 ((zN_lt (by omega) (by omega)).mp z)), if_neg c1]
          by_cases c2 : w ≤ hiK k j
          · rw [if_pos ((zN_le (by omega) (by omega)).mpr c2), if_pos c2]
          · rw [if_neg (fun z => c2 ((zN_le (by omega) (by omega)).mp z)), if_neg c2]
      by_cases c1 : w < loK k j
      · rw [if_pos c1] at ec
        rw [if_neg (by omega)] at w2
        exact Or.inl ⟨E - 1, E - 1, _, by omega, ec, w2⟩
      · rw [if_neg c1] at ec
        by_cases c2 : w ≤ hiK k j
        · rw [if_pos c2] at ec
          rw [if_pos (by omega)] at w2
          exact Or.inr ⟨w, E, by omega, y2, by omega, c2, ec, w2⟩
        · rw [if_neg c2] at ec
          rw [if_neg (by omega)] at w2
          exact Or.inl ⟨E - 1, E - 1, _, by omega, ec, w2⟩
  · rw [if_neg d] at nc
    refine Or.inl ⟨skp T s p, skp T s p, 0, b.2, ?_, nA d⟩
    unfold X2_takeItem
    rw [show (2 : Int32) = zN 2 from rfl, nc, bd_some, if_neg (show ¬ (0 : Int32) ≤ -1 by decide)]
def pcK (m : Nat) : Nat := m % 2 + m / 2 % 2 + m / 4
theorem bit3 : ∀ m, m < 8 → ∀ j, j < 3 → ((((zN m >>> (zN j &&& 31)) &&& (1 : Int32)) = 0 ∧ (zN m ||| ((1 : Int32) <<< (zN j &&& 31))) = zN (m + 2 ^ j) ∧ m + 2 ^ j < 8 ∧ pcK (m + 2 ^ j) = pcK m + 1) ∨ ((zN m >>> (zN j &&& 31)) &&& (1 : Int32)) = 1) ∧ (pcK m = 3 → ((zN m >>> (zN j &&& 31)) &&& (1 : Int32)) = 1) ∧ pcK m ≤ 3 := by decide +kernel
/-- the letters of a clause -/
def LtK (L : List Int32) : Prop := (∀ c, c < 256 → ixN (zN c).toInt8.toInt32 L 0 = ixN (zM c) L 0 ∧ ((ixN (zM c) L 0 = -1) ∨ (c ≠ 0 ∧ c ≠ 59 ∧ (ixN (zM c) L 0 = zN 0 ∨ ixN (zM c) L 0 = zN 1 ∨ ixN (zM c) L 0 = zN 2)))) ∧ L.length = 3 ∧ ∀ j (hj : j < L.length), ∃ k, k < 256 ∧ L[j] = zN k
/-- behind an item, on both sides -/
theorem items_lp {T : Nat → Nat} {s n k r a1 a2 : Nat} {dp x1 : Int32} {L : List Int32} {cnt : Nat → Nat} (hn : 20000 ≤ n) (h240 : s ≤ 240) (hk : k < 3) (hr : r < rwK cnt k) (hr6 : r < 6) (hr0 : k = 0 → r = 0) (hL : LtK L) (l1 : stB a1 = L) (l2 : stB a2 = L)
    (lo : ∀ j (g : Mm), j < 3 → X12_leastOf x1 (zN j) g = some (zN (loK k j))) (hi : ∀ j (g : Mm), j < 3 → X12_mostOf x1 (zN j) g = some (zN (hiK k j))) (al : 3 * r + 3 ≤ aln (mcK k)) :
    ∀ (d m p q q' : Nat) (h g : Mm) (nm : Nat → Nat), m < 8 → 3 - pcK m ≤ d → d < q → d + 1 < q' → p ≤ s → CT T s h → MT T s 252 0 g → DrR cnt nm h g →
    (∃ h' g' Q a, Q ≤ s ∧ X2_takeClause_77 n q (zN k) (zN r) a1 (zN m) (zN (pcK m)) (mk h p) = some (false, mk h' Q) ∧ bd (X12_look n (ms g p (-1) dp)) (fun r71 h73 => (bp (X12_spotOf n a2 r71 h73) (fun r74 => (X12_readItems_45 n (mcK k) a2 q' x1 (zN (3 * r)) (zN m) r74 h73)))) = some ((), ms g' a (zN Q) dp) ∧ FlC h h' ∧ FlM g g') ∨
    (∃ h' g' nm' p', p ≤ p' ∧ p' ≤ s ∧ X2_takeClause_77 n q (zN k) (zN r) a1 (zN m) (zN (pcK m)) (mk h p) = some (true, mk h' p') ∧ FlC h h' ∧ FlM g g' ∧ DrR cnt nm' h' g' ∧
      ((bd (X12_look n (ms g p (-1) dp)) (fun r71 h73 => (bp (X12_spotOf n a2 r71 h73) (fun r74 => (X12_readItems_45 n (mcK k) a2 q' x1 (zN (3 * r)) (zN m) r74 h73)))) = some ((), ms g' (skp T s p') (-1) dp)) ∨
       (sg T s (skp T s p') ≠ 0 ∧ sg T s (skp T s p') ≠ 59 ∧ bd (X12_look n (ms g p (-1) dp)) (fun r71 h73 => (bp (X12_spotOf n a2 r71 h73) (fun r74 => (X12_readItems_45 n (mcK k) a2 q' x1 (zN (3 * r)) (zN m) r74 h73)))) = some ((), ms g' (skp T s p') (zN (skp T s p')) dp)))) := by
  intro d
  induction d with
  | zero =>
    intro m p q q' h g nm hm hd hq hq' hp ct mt dr
    obtain ⟨q, rfl⟩ : ∃ m, q = m + 1 := ⟨q - 1, by omega⟩
    obtain ⟨q', rfl⟩ : ∃ m, q' = m + 1 := ⟨q' - 1, by omega⟩
    have b := skp_b (T := T) hp
    have sl := sg_le ct (skp T s p)
    have p3 : pcK m = 3 := by have := (bit3 m hm 0 (by omega)).2.2; omega
    have cst : X2_takeClause_77 n (q + 1) (zN k) (zN r) a1 (zN m) (zN (pcK m)) (mk h p) = some (true, mk h p) := by
      rw [X2_takeClause_77, if_pos (show (3 : Int32) ≤ zN (pcK m) by rw [p3]; decide)]
    refine Or.inr ⟨h, g, nm, p, Nat.le_refl _, hp, cst, FlC.rf, FlM.rf, dr, ?_⟩
    unfold X12_spotOf
    rw [m_look mt hn hp, bd_some, show (0 : Int32) = zN 0 from rfl, m_spot (zM (sg T s (skp T s p))) l2 (by rw [hL.2.1]; decide) hL.2.2 L.length n 0 (by omega) (by rw [hL.2.1]; omega), bp_some, List.drop_zero]
    rcases (hL.1 (sg T s (skp T s p)) (by omega)).2 with e | ⟨n0, n59, e⟩
    · left
      rw [e, X12_readItems_45, if_pos rfl]
    · right
      refine ⟨n0, n59, ?_⟩
      have fin : ∀ j, j < 3 → X12_readItems_45 n (mcK k) a2 (q' + 1) x1 (zN (3 * r)) (zN m) (zN j) (ms g (skp T s p) (-1) dp) = some ((), ms g (skp T s p) (zN (skp T s p)) dp) := fun j hj => by
        rw [X12_readItems_45, if_neg (zN_nm1 (by omega)), ms_11, if_pos rfl]
        unfold X12_has
        rw [if_pos ((bit3 m hm j hj).2.1 p3), bp_some, if_pos rfl, m_fail, bd_some]
      rcases e with e | e | e
      · rw [e]; exact fin 0 (by omega)
      · rw [e]; exact fin 1 (by omega)
      · rw [e]; exact fin 2 (by omega)
  | succ d ih =>
    intro m p q q' h g nm hm hd hq hq' hp ct mt dr
    obtain ⟨q, rfl⟩ : ∃ m, q = m + 1 := ⟨q - 1, by omega⟩
    obtain ⟨q', rfl⟩ : ∃ m, q' = m + 1 := ⟨q' - 1, by omega⟩
    by_cases p3 : pcK m = 3
    · exact ih m p (q + 1) (q' + 1) h g nm hm (by omega) (by omega) (by omega) hp ct mt dr
    have b := skp_b (T := T) hp
    have id1 := skp_id (T := T) hp
    have sl := sg_le ct (skp T s p)
    have pl := (bit3 m hm 0 (by omega)).2.2
    obtain ⟨i1, i2⟩ := hL.1 (sg T s (skp T s p)) (by omega)
    have cst : X2_takeClause_77 n (q + 1) (zN k) (zN r) a1 (zN m) (zN (pcK m)) (mk h p) = (if ixN (zM (sg T s (skp T s p))) L 0 < 0 then (some (true, mk h (skp T s p))) else (if ((zN m >>> (ixN (zM (sg T s (skp T s p))) L 0 &&& 31)) &&& (1 : Int32)) = 0 then (bd (X2_takeItem n (zN k) (zN r) (ixN (zM (sg T s (skp T s p))) L 0) (mk h (skp T s p + 1))) (fun r54 h56 => (if r54 = true then ((X2_takeClause_77 n q) (zN k) (zN r) a1 (zN m ||| ((1 : Int32) <<< (ixN (zM (sg T s (skp T s p))) L 0 &&& 31))) (zN (pcK m + 1)) h56) else (some (false, h56))))) else (some (true, mk h (skp T s p))))) := by
      rw [X2_takeClause_77, if_neg (show ¬ (3 : Int32) ≤ zN (pcK m) by rw [zN_lit, zN_le (by decide) (by omega)]; omega), c_sign hn ct hp, bd_some, j_ix hn l1 (by rw [hL.2.1]; decide) (by rw [hL.2.1]; decide) sl, bp_some, i1, mk_inc, sN1]
    have mst : bd (X12_look n (ms g p (-1) dp)) (fun r71 h73 => (bp (X12_spotOf n a2 r71 h73) (fun r74 => (X12_readItems_45 n (mcK k) a2 (q' + 1) x1 (zN (3 * r)) (zN m) r74 h73)))) = X12_readItems_45 n (mcK k) a2 (q' + 1) x1 (zN (3 * r)) (zN m) (ixN (zM (sg T s (skp T s p))) L 0) (ms g (skp T s p) (-1) dp) := by
      unfold X12_spotOf
      rw [m_look mt hn hp, bd_some, show (0 : Int32) = zN 0 from rfl, m_spot (zM (sg T s (skp T s p))) l2 (by rw [hL.2.1]; decide) hL.2.2 L.length n 0 (by omega) (by rw [hL.2.1]; omega), bp_some, List.drop_zero]
    rcases i2 with e | ⟨n0, n59, e⟩
    · rw [e, if_pos (show (-1 : Int32) < 0 by decide)] at cst
      rw [e, X12_readItems_45, if_pos rfl] at mst
      exact Or.inr ⟨h, g, nm, skp T s p, b.1, b.2, cst, FlC.rf, FlM.rf, dr, Or.inl (by rw [id1]; exact mst)⟩
    · have lt : skp T s p + 1 ≤ s := sg_lt (T := T) n0
      have key : ∀ j, j < 3 → ixN (zM (sg T s (skp T s p))) L 0 = zN j →
          (∃ h' g' Q a, Q ≤ s ∧ X2_takeClause_77 n (q + 1) (zN k) (zN r) a1 (zN m) (zN (pcK m)) (mk h p) = some (false, mk h' Q) ∧ bd (X12_look n (ms g p (-1) dp)) (fun r71 h73 => (bp (X12_spotOf n a2 r71 h73) (fun r74 => (X12_readItems_45 n (mcK k) a2 (q' + 1) x1 (zN (3 * r)) (zN m) r74 h73)))) = some ((), ms g' a (zN Q) dp) ∧ FlC h h' ∧ FlM g g') ∨
          (∃ h' g' nm' p', p ≤ p' ∧ p' ≤ s ∧ X2_takeClause_77 n (q + 1) (zN k) (zN r) a1 (zN m) (zN (pcK m)) (mk h p) = some (true, mk h' p') ∧ FlC h h' ∧ FlM g g' ∧ DrR cnt nm' h' g' ∧
            ((bd (X12_look n (ms g p (-1) dp)) (fun r71 h73 => (bp (X12_spotOf n a2 r71 h73) (fun r74 => (X12_readItems_45 n (mcK k) a2 (q' + 1) x1 (zN (3 * r)) (zN m) r74 h73)))) = some ((), ms g' (skp T s p') (-1) dp)) ∨
             (sg T s (skp T s p') ≠ 0 ∧ sg T s (skp T s p') ≠ 59 ∧ bd (X12_look n (ms g p (-1) dp)) (fun r71 h73 => (bp (X12_spotOf n a2 r71 h73) (fun r74 => (X12_readItems_45 n (mcK k) a2 (q' + 1) x1 (zN (3 * r)) (zN m) r74 h73)))) = some ((), ms g' (skp T s p') (zN (skp T s p')) dp)))) := fun j hj e => by
        rw [e, if_neg (show ¬ zN j < 0 from zN_neg0 (by omega))] at cst
        rw [e, X12_readItems_45, if_neg (zN_nm1 (by omega)), ms_11, if_pos rfl] at mst
        unfold X12_has at mst
        obtain ⟨b1, b2, b3⟩ := bit3 m hm j hj
        rcases b1 with ⟨b1, b4, b5, b6⟩ | b1
        · rw [if_pos b1, b4] at cst
          rw [b1, if_neg (show ¬ (0 : Int32) = 1 by decide), bp_some, if_neg (show ¬ (false = true) by decide), ms_inc, lo j _ hj, bp_some, hi j _ hj, bp_some, b4] at mst
          have ix : zN (3 * r) + zN j = zN (3 * r + j) := zN_add ..
          have inb : inB (zN (3 * r + j)) (aln (mcK k)) := (zN_inB (by omega)).mpr (by omega)
          rcases item_sp (dp := dp) hn h240 ct mt lt hk hr6 hr0 hj with ⟨Q, a, w, c1, c2, c3⟩ | ⟨w, E, c1, c2, c3, c4, c5, c6⟩
          · rw [c2, bd_some, if_neg (show ¬ (false = true) by decide)] at cst
            have k3' := k3 hk
            obtain ⟨q'', rfl⟩ : ∃ m, q' = m + 1 := ⟨q' - 1, by omega⟩
            rw [c3, bd_some, ix, if_pos inb, zN_ix (by omega), ms_wi (by omega), ms_11, if_neg (zN_nm1 (by omega)), X12_readItems_45, if_neg (zN_nm1 (by omega)), ms_11, if_neg (zN_nm1 (by omega))] at mst
            exact Or.inl ⟨h, _, Q, a, c1, cst, mst, FlC.rf, FlM.wm hk⟩
          · have k3' := k3 hk
            rw [c5, bd_some, if_pos rfl, ← b6] at cst
            rw [c6, bd_some, ix, if_pos inb, zN_ix (by omega), ms_wi (by omega), ms_11, if_pos rfl] at mst
            have dr2 := dr.set hk hr hj c3 c4
            rcases ih (m + 2 ^ j) E q q' _ _ _ b5 (by omega) (by omega) (by omega) c2 (FlC.w6.ct ct) ((FlM.wm hk).mt mt) dr2 with ⟨h2, g2, Q, a, d1, d2, d3, d4, d5⟩ | ⟨h2, g2, nm2, p2, d1, d2, d3, d4, d5, d6, d7⟩
            · exact Or.inl ⟨h2, g2, Q, a, d1, by rw [cst]; exact d2, by rw [mst]; exact d3, FlC.w6.tr d4, (FlM.wm hk).tr d5⟩
            · refine Or.inr ⟨h2, g2, nm2, p2, by omega, d2, by rw [cst]; exact d3, FlC.w6.tr d4, (FlM.wm hk).tr d5, d6, ?_⟩
              rw [mst]; exact d7
        · rw [b1, if_neg (show ¬ (1 : Int32) = 0 by decide)] at cst
          rw [b1, if_pos rfl, bp_some, if_pos rfl, m_fail, bd_some] at mst
          exact Or.inr ⟨h, g, nm, skp T s p, b.1, b.2, cst, FlC.rf, FlM.rf, dr, Or.inr ⟨by rw [id1]; exact n0, by rw [id1]; exact n59, by rw [id1]; exact mst⟩⟩
      rcases e with e | e | e
      · exact key 0 (by omega) e
      · exact key 1 (by omega) e
      · exact key 2 (by omega) e
