/-! the fewest pages -/
def LsR (h g : Mm) (M : Nat) : Prop := h.1 246 7 = zN M ∧ ((M = 28 ∧ h.1 246 6 = zN 0 ∧ g.1 251 41 = -1 ∧ g.1 251 42 = -1) ∨ (M ≤ 27 ∧ ∃ r, 1 ≤ r ∧ r < 1000000 ∧ h.1 246 6 = zN r ∧ g.1 251 41 = zN M ∧ g.1 251 42 = zN r))
theorem LsR.cg {h g h' g' : Mm} {M : Nat} (q : LsR h g M) (e1 : h'.1 246 = h.1 246) (e2 : g'.1 251 41 = g.1 251 41) (e3 : g'.1 251 42 = g.1 251 42) : LsR h' g' M := by
  unfold LsR; rw [e1, e2, e3]; exact q
theorem offer {n M tot row : Nat} {h g : Mm} (rf : Int32 → Int32 → Int32 → Mm → Option (Unit × Mm)) (q : LsR h g M) (ht : tot ≤ 27) (h1 : 1 ≤ row) (h2 : row < 1000000) : ∃ h' g' M', X6_offerRow (zN row) (zN tot) h = some ((), h') ∧ (if (g.1 251 41) = (-1 : Int32) then (X12_goLeast_47 n rf (zN tot) (zN row) g) else (if (g.1 251 41) < zN tot then (some ((), g)) else (if zN tot = (g.1 251 41) then (if zN row < (g.1 251 42) then (X12_goLeast_47 n rf (zN tot) (zN row) g) else (some ((), g))) else (X12_goLeast_47 n rf (zN tot) (zN row) g)))) = some ((), g') ∧ LsR h' g' M' ∧ M' ≤ tot ∧ M' ≤ M ∧ (∀ i, i ≠ 246 → h'.1 i = h.1 i) ∧ h'.2 = h.2 ∧ (∀ i, i ≠ 251 → g'.1 i = g.1 i) ∧ (∀ k, k ≠ 41 → k ≠ 42 → g'.1 251 k = g.1 251 k) ∧ g'.2 = g.2 := by
  obtain ⟨q1, q2⟩ := q
  have upd1 : LsR (wI (wI h 246 7 (zN tot)) 246 6 (zN row)) (wI (wI g 251 41 (zN tot)) 251 42 (zN row)) tot := ⟨by simp (disch := omega) only [w_eq, u_ne, u_eq], Or.inr ⟨ht, row, h1, h2, by simp (disch := omega) only [w_eq, u_ne, u_eq], by simp (disch := omega) only [w_eq, u_ne, u_eq], by simp (disch := omega) only [w_eq, u_ne, u_eq]⟩⟩
  have f1 : ∀ i, i ≠ 246 → (wI (wI h 246 7 (zN tot)) 246 6 (zN row)).1 i = h.1 i := fun i hi => by rw [w_ne hi, w_ne hi]
  have f2 : ∀ i, i ≠ 251 → (wI (wI g 251 41 (zN tot)) 251 42 (zN row)).1 i = g.1 i := fun i hi => by rw [w_ne hi, w_ne hi]
  have f3 : ∀ k, k ≠ 41 → k ≠ 42 → (wI (wI g 251 41 (zN tot)) 251 42 (zN row)).1 251 k = g.1 251 k := fun k k1 k2 => by rw [w_eq, u_ne k2, w_eq, u_ne k1]
  unfold X6_offerRow X6_offerRow_24 X12_goLeast_47
  rw [q1]
  rcases q2 with ⟨rfl, e1, e2, e3⟩ | ⟨hM, r, r1, r2, e1, e2, e3⟩
  · rw [if_pos (show zN tot < zN 28 from (zN_lt (by omega) (by decide)).mpr (by omega)), if_pos e2]
    exact ⟨_, _, tot, rfl, rfl, upd1, Nat.le_refl _, by omega, f1, rfl, f2, f3, rfl⟩
  · rw [e1, e2, e3, if_neg (zN_nm1 (by omega))]
    by_cases c : tot < M
    · rw [if_pos (show zN tot < zN M from (zN_lt (by omega) (by omega)).mpr c), if_neg (show ¬ zN M < zN tot by rw [zN_lt (by omega) (by omega)]; omega), if_neg (show ¬ zN tot = zN M by rw [zN_eq (by omega) (by omega)]; omega)]
      exact ⟨_, _, tot, rfl, rfl, upd1, Nat.le_refl _, by omega, f1, rfl, f2, f3, rfl⟩
    · rw [if_neg (show ¬ zN tot < zN M by rw [zN_lt (by omega) (by omega)]; exact c)]
      by_cases d : tot = M
      · rw [if_pos (show zN tot = zN M from congrArg zN d), if_neg (show ¬ zN M < zN tot by rw [zN_lt (by omega) (by omega)]; omega), if_pos (show zN tot = zN M from congrArg zN d)]
        by_cases w : r ≤ row
        · rw [if_pos (show zN r ≤ zN row from (zN_le (by omega) (by omega)).mpr w), if_neg (show ¬ zN row < zN r by rw [zN_lt (by omega) (by omega)]; omega)]
          exact ⟨h, g, M, rfl, rfl, ⟨q1, Or.inr ⟨hM, r, r1, r2, e1, e2, e3⟩⟩, by omega, Nat.le_refl _, fun _ _ => rfl, rfl, fun _ _ => rfl, fun _ _ _ => rfl, rfl⟩
        · rw [if_neg (show ¬ zN r ≤ zN row by rw [zN_le (by omega) (by omega)]; exact w), if_pos (show zN row < zN r from (zN_lt (by omega) (by omega)).mpr (by omega))]
          exact ⟨_, _, tot, rfl, rfl, upd1, Nat.le_refl _, by omega, f1, rfl, f2, f3, rfl⟩
      · rw [if_neg (show ¬ zN tot = zN M by rw [zN_eq (by omega) (by omega)]; exact d), if_pos (show zN M < zN tot from (zN_lt (by omega) (by omega)).mpr (by omega))]
        exact ⟨h, g, M, rfl, rfl, ⟨q1, Or.inr ⟨hM, r, r1, r2, e1, e2, e3⟩⟩, by omega, Nat.le_refl _, fun _ _ => rfl, rfl, fun _ _ => rfl, fun _ _ _ => rfl, rfl⟩
/-- how the trial stands -/
def LtR (be bo : Nat → Nat) (U rb : Int32) (c pg : Nat) (w : Nat → Int32) : Prop := (w 22 = zN c ∧ w 23 = zN (be 23) ∧ w (3 * be 23 + 1) = zN (be (3 * be 23 + 1)) ∧ w (3 * be 23) = zN (be (3 * be 23) + pg) ∧ w 29 = zN (be 29)) ∧ (∀ i, i < 4 → w (18 + i) = zN (bo i)) ∧ (∀ i, i < 6 → bit (w 24) i = (bit U i || bit rb i))
theorem bit_x {x i : Nat} (hx : x < 6) (hi : i < 32) : bit ((1 : Int32) <<< (zN x &&& 31)) i = decide (i = x) := by
  obtain rfl | rfl | rfl | rfl | rfl | rfl : x = 0 ∨ x = 1 ∨ x = 2 ∨ x = 3 ∨ x = 4 ∨ x = 5 := by omega
  all_goals (revert i; decide +kernel)
theorem bit_m1 : ∀ i, i < 32 → bit (-1 : Int32) i = true := by decide +kernel
theorem bit_nx {x i : Nat} (hx : x < 6) (hi : i < 32) : bit (((1 : Int32) <<< (zN x &&& 31)) ^^^ (-1 : Int32)) i = !decide (i = x) := by
  have e : bit (((1 : Int32) <<< (zN x &&& 31)) ^^^ (-1 : Int32)) i = (bit ((1 : Int32) <<< (zN x &&& 31)) i ^^ bit (-1 : Int32) i) := BitVec.getLsbD_xor
  have e2 : bit (-1 : Int32) i = true := bit_m1 i hi
  rw [e, bit_x hx hi, e2]; cases decide (i = x) <;> rfl
theorem clr {v : Int32} {x : Nat} (hx : x < 6) (hb : bit v x = false) : (v ||| ((1 : Int32) <<< (zN x &&& 31))) &&& (((1 : Int32) <<< (zN x &&& 31)) ^^^ (-1 : Int32)) = v := by
  apply Int32.toBitVec_inj.mp
  apply BitVec.eq_of_getLsbD_eq
  intro j hj
  show bit ((v ||| ((1 : Int32) <<< (zN x &&& 31))) &&& (((1 : Int32) <<< (zN x &&& 31)) ^^^ (-1 : Int32))) j = bit v j
  rw [bit_and, bit_or, bit_x hx hj, bit_nx hx hj]
  by_cases c : j = x
  · subst c; rw [hb]; simp
  · simp [c]
theorem upd_same {f : Nat → Int32} {k : Nat} {v w : Int32} (e : f k = w) : upd (upd f k v) k w = f := funext fun j => by
  by_cases c : j = k
  · subst c; rw [u_eq, e]
  · rw [u_ne c, u_ne c]
theorem b_or0 {a b : Int32} {i : Nat} (hi : i < 6) : (((a ||| b) >>> (zN i &&& 31)) &&& 1 = 0) ↔ ¬ (bit a i || bit b i) = true := by
  rw [bt1 hi, bit_or]; exact if10 _
theorem least_page {n B H : Nat} {nm : Nat → Nat} {nl : Nat} {hd : Int32} {f : Nat → F6} {be : Nat → Nat} {h0 g0 : Mm} (x : CX n B H nm nl hd f be h0 g0) (hp : 0 < H) {m e e' U0 b row pg c : Nat} {U : Int32} {bo : Nat → Nat} (hm : m ≤ 2) (hb : b < B) (hbo : ∀ i, i < 4 → bo i ≤ 9) (hrow : (m = 0 → row < 10000) ∧ (m = 1 → row < 100) ∧ (m = 2 → row < 1)) (hpg : pg ≤ 9 * (2 - m)) (hc : c ≤ 99) (hU : U = U)
    (nb : (bit U b || bit (h0.1 27 9) b) = false) (he' : m < e' + 1)
    (ih : ∀ (m' : Nat), m = m' + 1 → ∀ (U' : Int32) (row' pg' c' M : Nat) (bo' : Nat → Nat) (h g : Mm), ((m' = 0 → row' < 10000) ∧ (m' = 1 → row' < 100) ∧ (m' = 2 → row' < 1)) → pg' ≤ 9 * (2 - m') → c' ≤ 99 → c' < nm 1 → (∀ i, i < 4 → bo' i ≤ 9) → KC n nl hd f h0 h → KG n nl hd f g0 g → LsR h g M → (∀ i, i < 4 → h.1 247 i = zN (bo' i)) → LtR be bo' U' (h0.1 27 9) c' pg' (g.1 265) →
      ∃ h' g' M', X6_growRow n (X6_growRowBy n e) (zN (3 - m')) U' (zN row') (zN pg') (zN c') h = some ((), h') ∧ X12_goLeast_97 n (X12_goLeast n e') n (zN (m' + 1)) (zN pg') (zN row') (zN (3 * be 23)) (zN c') (zN (be (3 * be 23) + pg')) 0 g = some ((), g') ∧ KC n nl hd f h0 h' ∧ KG n nl hd f g0 g' ∧ LsR h' g' M' ∧ M' ≤ M ∧ h'.1 247 = h.1 247 ∧ g'.1 265 = g.1 265)
    (K : Int32 → Int32 → Int32 → Int32 → Int32 → Int32 → Int32 → Mm → Option (Unit × Mm)) : ∀ (d q q' k M : Nat) (h g : Mm), k + d = nm (3 + 3 * b) → d < q → d + 1 < q' → KC n nl hd f h0 h → KG n nl hd f g0 g → LsR h g M → (∀ i, i < 4 → h.1 247 i = zN (bo i)) → LtR be bo U (h0.1 27 9) c pg (g.1 265) →
    ∃ h' g' M', X6_growRowBy_118 n (X6_growRowBy n e) q (zN b) (zN (3 - m)) (U ||| ((1 : Int32) <<< (zN b &&& 31))) (zN row) (zN pg) (zN (nm (3 + (3 * b + 1)))) (zN (nm (3 + (3 * b + 2)))) (zN (bo (nm (3 + (3 * b + 2))))) (zN (be (3 * be 23 + 1))) (zN (be (3 * be 23) + pg)) (zI (min ((nm (21 + (3 * be 23 + 1)) : Int) - (be (3 * be 23) + pg : Nat)) (nm (3 + 3 * b)))) (zN (nm 1)) (zN (pgs (wr6 hd f (nm (3 + (3 * b + 1))) (be (3 * be 23 + 1)) (bo (nm (3 + (3 * b + 2)))) (be 29) (be (3 * be 23) + pg)) c k)) (zN k) h = some ((), h') ∧
      X12_goLeast_129 n (X12_goLeast n (e' + 1)) K q' (zN (m + 1)) (zN pg) (zN row) (zN (3 * be 23)) (zN c) (zN (be (3 * be 23) + pg)) (zN b) (zN (18 + nm (3 + (3 * b + 2)))) (zN (bo (nm (3 + (3 * b + 2))))) (zN (k + 1)) g = K (zN (m + 1)) (zN pg) (zN row) (zN (3 * be 23)) (zN c) (zN (be (3 * be 23) + pg)) (zN (b + 1)) g' ∧ KC n nl hd f h0 h' ∧ KG n nl hd f g0 g' ∧ LsR h' g' M' ∧ M' ≤ M ∧ h'.1 247 = h.1 247 ∧ g'.1 265 = g.1 265 := by
  obtain ⟨x1, x2, ⟨q1, q2, q3, q4, q5, q6, q7, q8⟩, -, -⟩ := id x
  have hH := x2.2.1.2.1
  have hB6 := x2.2.1.1
  have hf : be 23 < H := by omega
  obtain ⟨-, -, v1, v2, -⟩ := q1 _ hf
  have st := (x2.2.2.2.2.2.2.2 _ hf).2.1
  have pgb := x2.2.2.2.2.2.2.1 b hb
  have en := x2.2.2.2.2.2.1
  have bk := hbo (nm (3 + (3 * b + 2))) (by omega)
  have i22 : inB (22 : Int32) (aln 265) := by rw [al_265]; decide
  have t22 : (22 : Int32).toNatClampNeg = 22 := by decide
  have i23 : inB (23 : Int32) (aln 265) := by rw [al_265]; decide
  have t23 : (23 : Int32).toNatClampNeg = 23 := by decide
  have i24 : inB (24 : Int32) (aln 265) := by rw [al_265]; decide
  have t24 : (24 : Int32).toNatClampNeg = 24 := by decide
  have i18 : inB (zN (18 + nm (3 + (3 * b + 2)))) (aln 265) := by rw [al_265, zN_inB (by omega)]; omega
  have i3 : inB (zN (3 * be 23)) (aln 265) := by rw [al_265, zN_inB (by omega)]; omega
  have e30 : (3 : Int32) * zN (be 23) + (0 : Int32) = zN (3 * be 23) := by simp only [zN_lit, zN_mul, zN_add, Nat.add_zero]
  generalize eW : wr6 hd f (nm (3 + (3 * b + 1))) (be (3 * be 23 + 1)) (bo (nm (3 + (3 * b + 2)))) (be 29) (be (3 * be 23) + pg) = W
  intro d
  induction d with
  | zero =>
    intro q q' k M h g hk hq hq' kc kg ls l247 lt
    obtain ⟨q, rfl⟩ : ∃ m, q = m + 1 := ⟨q - 1, by omega⟩
    obtain ⟨q', rfl⟩ : ∃ m, q' = m + 1 := ⟨q' - 1, by omega⟩
    unfold X6_growRowBy_118 X12_goLeast_129 X12_goLeast_264
    rw [if_pos (show zI (min ((nm (21 + (3 * be 23 + 1)) : Int) - (be (3 * be 23) + pg : Nat)) (nm (3 + 3 * b))) ≤ zN k from (zI_leN (by omega) (by omega) (by omega)).mpr (by omega)), m_pages (x.lm kg) hb, bp_some, if_pos (show zN (nm (3 + 3 * b)) < zN (k + 1) from (zN_lt (by omega) (by omega)).mpr (by omega)), sN1]
    exact ⟨h, g, M, rfl, rfl, kc, kg, ls, Nat.le_refl _, rfl, rfl⟩
  | succ d ihd =>
    intro q q' k M h g hk hq hq' kc kg ls l247 lt
    obtain ⟨q, rfl⟩ : ∃ m, q = m + 1 := ⟨q - 1, by omega⟩
    obtain ⟨q', rfl⟩ : ∃ m, q' = m + 1 := ⟨q' - 1, by omega⟩
    obtain ⟨⟨l22, l23, lv, ltt, l29⟩, lb, lbit⟩ := id lt
    have b24 : bit (g.1 265 24) b = false := by rw [lbit b (by omega)]; exact nb
    have may := fun p (p1 : 1 ≤ p) (p2 : p ≤ nm (3 + 3 * b)) => m_may (p := p) (x.lm kg) al_265 l23 hf ltt (by omega) hb p1 p2
    have stop : (X12_goLeast_264 n (X12_goLeast n (e' + 1)) K (zN (m + 1)) (zN pg) (zN row) (zN (3 * be 23)) (zN c) (zN (be (3 * be 23) + pg)) (zN b) g) = K (zN (m + 1)) (zN pg) (zN row) (zN (3 * be 23)) (zN c) (zN (be (3 * be 23) + pg)) (zN (b + 1)) g := by
      unfold X12_goLeast_264; rw [sN1]
    rw [X6_growRowBy_118, X12_goLeast_129, m_pages (x.lm kg) hb, bp_some, if_neg (show ¬ zN (nm (3 + 3 * b)) < zN (k + 1) by rw [zN_lt (by omega) (by omega)]; omega), may (k + 1) (by omega) (by omega), bp_some, b24, stop]
    by_cases z : be (3 * be 23) + pg + (k + 1) ≤ nm (21 + (3 * be 23 + 1))
    · rw [if_neg (show ¬ zI (min ((nm (21 + (3 * be 23 + 1)) : Int) - (be (3 * be 23) + pg : Nat)) (nm (3 + 3 * b))) ≤ zN k by rw [zI_leN (by omega) (by omega) (by omega)]; omega), decide_eq_true ⟨z, rfl⟩, if_pos rfl, ls.1, zN_add pg k, zN_add pg (k + 1), zN_add (be (3 * be 23) + pg) k]
      have hM28 : M ≤ 28 := by rcases ls.2 with ⟨y, -⟩ | ⟨y, -⟩ <;> omega
      by_cases w : M ≤ pg + k
      · have hM : M ≤ 27 ∧ g.1 251 41 = zN M := by
          rcases ls.2 with ⟨y, -⟩ | ⟨y, r, -, -, -, e2, -⟩
          · omega
          · exact ⟨y, e2⟩
        rw [if_pos (show zN M ≤ zN (pg + k) from (zN_le (by omega) (by omega)).mpr w), hM.2, if_neg (zN_nm1 (by omega)), if_neg (show ¬ zN (pg + (k + 1)) ≤ zN M by rw [zN_le (by omega) (by omega)]; omega)]
        exact ⟨h, g, M, rfl, rfl, kc, kg, ls, Nat.le_refl _, rfl, rfl⟩
      · have eg : (if g.1 251 41 = (-1 : Int32) then (X12_goLeast_178 n (X12_goLeast n (e' + 1)) K (X12_goLeast_129 n (X12_goLeast n (e' + 1)) K q') (zN (m + 1)) (zN pg) (zN row) (zN (3 * be 23)) (zN c) (zN (be (3 * be 23) + pg)) (zN b) (zN (18 + nm (3 + (3 * b + 2)))) (zN (bo (nm (3 + (3 * b + 2))))) (zN (k + 1)) g) else (if zN (pg + (k + 1)) ≤ g.1 251 41 then (X12_goLeast_178 n (X12_goLeast n (e' + 1)) K (X12_goLeast_129 n (X12_goLeast n (e' + 1)) K q') (zN (m + 1)) (zN pg) (zN row) (zN (3 * be 23)) (zN c) (zN (be (3 * be 23) + pg)) (zN b) (zN (18 + nm (3 + (3 * b + 2)))) (zN (bo (nm (3 + (3 * b + 2))))) (zN (k + 1)) g) else K (zN (m + 1)) (zN pg) (zN row) (zN (3 * be 23)) (zN c) (zN (be (3 * be 23) + pg)) (zN (b + 1)) g)) = (X12_goLeast_178 n (X12_goLeast n (e' + 1)) K (X12_goLeast_129 n (X12_goLeast n (e' + 1)) K q') (zN (m + 1)) (zN pg) (zN row) (zN (3 * be 23)) (zN c) (zN (be (3 * be 23) + pg)) (zN b) (zN (18 + nm (3 + (3 * b + 2)))) (zN (bo (nm (3 + (3 * b + 2))))) (zN (k + 1)) g) := by
          rcases ls.2 with ⟨y, -, e2, -⟩ | ⟨y, r, -, -, -, e2, -⟩
          · rw [if_pos e2]
          · rw [e2, if_neg (zN_nm1 (by omega)), if_pos (show zN (pg + (k + 1)) ≤ zN M from (zN_le (by omega) (by omega)).mpr (by omega))]
        rw [if_neg (show ¬ zN M ≤ zN (pg + k) by rw [zN_le (by omega) (by omega)]; exact w), eg]
        unfold X12_goLeast_178
        obtain ⟨h1, a1, a2, a3⟩ := c_worthK x kc (c := nm (3 + (3 * b + 1))) (v := be (3 * be 23 + 1)) (b := bo (nm (3 + (3 * b + 2)))) (p := k) (nn := be 29) (t := be (3 * be 23) + pg + k) pgb.2.2.1 v2 bk (by omega) (by omega) (by omega)
        have rg := wv_rng hd f (nm (3 + (3 * b + 1))) (be (3 * be 23 + 1)) (bo (nm (3 + (3 * b + 2)))) k (be 29) (be (3 * be 23) + pg + k)
        have eWk : W k = wv hd f (nm (3 + (3 * b + 1))) (be (3 * be 23 + 1)) (bo (nm (3 + (3 * b + 2)))) k (be 29) (be (3 * be 23) + pg + k) := by rw [← eW]; rfl
        have c9 := pgs_le (W := W) hc (k + 1)
        have ec : X11_heldCalm (zN (pgs W c k) + wv hd f (nm (3 + (3 * b + 1))) (be (3 * be 23 + 1)) (bo (nm (3 + (3 * b + 2)))) k (be 29) (be (3 * be 23) + pg + k)) h1 = some (zN (pgs W c (k + 1))) := by
          rw [c_cadd (pgs_le hc k) rg.1 (by omega), ← eWk]; rfl
        obtain ⟨g1, s1, s2, s3, s4, s5, s6, s7, s8⟩ := m_readK x kg (y := b) (v := be (3 * be 23 + 1)) (b := bo (nm (3 + (3 * b + 2)))) (nn := be 29) (t := be (3 * be 23) + pg) (m := k + 1) (c := c) (fa := be 23) hb (by omega) v2 bk (by omega) (by omega) (by omega) hc l23 l22 lv (lb _ (by omega)) l29 ltt
        rw [eW] at s3
        have ls1 : LsR h1 g1 M := ls.cg (a3.1 246 (by decide) (by decide) (by decide)) (s8.2.1 41 rfl) (s8.2.1 42 rfl)
        have a247 : h1.1 247 = h.1 247 := a3.1 247 (by decide) (by decide) (by decide)
        rw [kc.i 27 (by omega), q5.1, a1, bd_some, ec, bp_some, s1, bd_some]
        have er : ((100 : Int32) * zN row + (10 : Int32) * zN b) + zN (k + 1) = zN (100 * row + 10 * b + (k + 1)) := by simp only [zN_lit, zN_mul, zN_add]
        have er2 : ((zN row * (100 : Int32) + zN b * (10 : Int32)) + zN k) + 1 = zN (100 * row + 10 * b + (k + 1)) := by
          simp only [zN_lit, zN_mul, zN_add]; congr 1; omega
        have er3 : zN (pg + k) + 1 = zN (pg + (k + 1)) := by rw [sN1]; rfl
        have em : zN (m + 1) - 1 = zN m := by rw [show (1 : Int32) = zN 1 from rfl, zN_sub (by omega)]; rfl
        rw [er, er2, er3, em, zN_add]
        -- the trial is set back
        have back : ∀ (h2 g2 : Mm) (M2 : Nat), KC n nl hd f h0 h2 → KG n nl hd f g0 g2 → LsR h2 g2 M2 → M2 ≤ M → g2.1 265 = g1.1 265 → ∃ g3, (wI (wI (wI (wI g2 265 22 (zN c)) 265 (3 * be 23) (zN (be (3 * be 23) + pg))) 265 (18 + nm (3 + (3 * b + 2))) (zN (bo (nm (3 + (3 * b + 2)))))) 265 24 (((wI (wI (wI g2 265 22 (zN c)) 265 (3 * be 23) (zN (be (3 * be 23) + pg))) 265 (18 + nm (3 + (3 * b + 2))) (zN (bo (nm (3 + (3 * b + 2)))))).1 265 24) &&& (((1 : Int32) <<< (zN b &&& 31)) ^^^ (-1 : Int32)))) = g3 ∧ KG n nl hd f g0 g3 ∧ LsR h2 g3 M2 ∧ g3.1 265 = g.1 265 := fun h2 g2 M2 k2 k3 l2 lM e265 => by
          refine ⟨_, rfl, (((k3.w (by omega)).w (by omega)).w (by omega)).w (by omega), l2.cg rfl (by simp (disch := omega) only [w_ne]) (by simp (disch := omega) only [w_ne]), ?_⟩
          funext j
          simp (disch := omega) only [w_eq, u_ne]
          by_cases j24 : j = 24
          · subst j24
            rw [u_eq, e265, s6, clr (by omega) b24]
          · rw [u_ne j24]
            by_cases j18 : j = 18 + nm (3 + (3 * b + 2))
            · subst j18; rw [u_eq]; exact (lb _ (by omega)).symm
            · rw [u_ne j18]
              by_cases j3 : j = 3 * be 23
              · subst j3; rw [u_eq]; exact ltt.symm
              · rw [u_ne j3]
                by_cases j22 : j = 22
                · subst j22; rw [u_eq]; exact l22.symm
                · rw [u_ne j22, e265, s7 j j22 j3 j18 j24]
        have rst : ∀ (g2 : Mm), (if inB (22 : Int32) (aln 265) then (if inB (zN (3 * be 23)) (aln 265) then (if inB (zN (18 + nm (3 + (3 * b + 2)))) (aln 265) then (if inB (24 : Int32) (aln 265) then (if inB (24 : Int32) (aln 265) then (X12_goLeast_129 n (X12_goLeast n (e' + 1)) K q' (zN (m + 1)) (zN pg) (zN row) (zN (3 * be 23)) (zN c) (zN (be (3 * be 23) + pg)) (zN b) (zN (18 + nm (3 + (3 * b + 2)))) (zN (bo (nm (3 + (3 * b + 2))))) (zN (k + 1) + 1) (wI (wI (wI (wI g2 265 (22 : Int32).toNatClampNeg (zN c)) 265 (zN (3 * be 23)).toNatClampNeg (zN (be (3 * be 23) + pg))) 265 (zN (18 + nm (3 + (3 * b + 2)))).toNatClampNeg (zN (bo (nm (3 + (3 * b + 2)))))) 265 (24 : Int32).toNatClampNeg (((wI (wI (wI g2 265 (22 : Int32).toNatClampNeg (zN c)) 265 (zN (3 * be 23)).toNatClampNeg (zN (be (3 * be 23) + pg))) 265 (zN (18 + nm (3 + (3 * b + 2)))).toNatClampNeg (zN (bo (nm (3 + (3 * b + 2)))))).1 265 (24 : Int32).toNatClampNeg) &&& (((1 : Int32) <<< (zN b &&& 31)) ^^^ (-1 : Int32))))) else none) else none) else none) else none) else none) = X12_goLeast_129 n (X12_goLeast n (e' + 1)) K q' (zN (m + 1)) (zN pg) (zN row) (zN (3 * be 23)) (zN c) (zN (be (3 * be 23) + pg)) (zN b) (zN (18 + nm (3 + (3 * b + 2)))) (zN (bo (nm (3 + (3 * b + 2))))) (zN (k + 1 + 1)) (wI (wI (wI (wI g2 265 22 (zN c)) 265 (3 * be 23) (zN (be (3 * be 23) + pg))) 265 (18 + nm (3 + (3 * b + 2))) (zN (bo (nm (3 + (3 * b + 2)))))) 265 24 (((wI (wI (wI g2 265 22 (zN c)) 265 (3 * be 23) (zN (be (3 * be 23) + pg))) 265 (18 + nm (3 + (3 * b + 2))) (zN (bo (nm (3 + (3 * b + 2)))))).1 265 24) &&& (((1 : Int32) <<< (zN b &&& 31)) ^^^ (-1 : Int32)))) := fun g2 => by
          rw [if_pos i22, if_pos i3, if_pos i18, if_pos i24, if_pos i24, t22, t24, zN_ix (by omega), zN_ix (by omega), sN1]
        have me : X12_isEnough (g1.1 265 (22 : Int32).toNatClampNeg) g1 = some (decide (nm 1 ≤ pgs W c (k + 1))) := by
          rw [t22, s3, m_isEnough (x.lm s2) (by omega)]
        generalize ecf : pgs W c (k + 1) = cf at *
        by_cases y : cf < nm 1
        · rw [if_pos (show zN cf < zN (nm 1) from (zN_lt (by omega) (by omega)).mpr y)]
          have nxt : ∀ (h2 g2 : Mm) (M2 : Nat), KC n nl hd f h0 h2 → KG n nl hd f g0 g2 → LsR h2 g2 M2 → M2 ≤ M → h2.1 247 = h.1 247 → g2.1 265 = g1.1 265 → ∃ h' g' M', X6_growRowBy_118 n (X6_growRowBy n e) q (zN b) (zN (3 - m)) (U ||| ((1 : Int32) <<< (zN b &&& 31))) (zN row) (zN pg) (zN (nm (3 + (3 * b + 1)))) (zN (nm (3 + (3 * b + 2)))) (zN (bo (nm (3 + (3 * b + 2))))) (zN (be (3 * be 23 + 1))) (zN (be (3 * be 23) + pg)) (zI (min ((nm (21 + (3 * be 23 + 1)) : Int) - (be (3 * be 23) + pg : Nat)) (nm (3 + 3 * b)))) (zN (nm 1)) (zN cf) (zN (k + 1)) h2 = some ((), h') ∧ X12_goLeast_129 n (X12_goLeast n (e' + 1)) K q' (zN (m + 1)) (zN pg) (zN row) (zN (3 * be 23)) (zN c) (zN (be (3 * be 23) + pg)) (zN b) (zN (18 + nm (3 + (3 * b + 2)))) (zN (bo (nm (3 + (3 * b + 2))))) (zN (k + 1 + 1)) (wI (wI (wI (wI g2 265 22 (zN c)) 265 (3 * be 23) (zN (be (3 * be 23) + pg))) 265 (18 + nm (3 + (3 * b + 2))) (zN (bo (nm (3 + (3 * b + 2)))))) 265 24 (((wI (wI (wI g2 265 22 (zN c)) 265 (3 * be 23) (zN (be (3 * be 23) + pg))) 265 (18 + nm (3 + (3 * b + 2))) (zN (bo (nm (3 + (3 * b + 2)))))).1 265 24) &&& (((1 : Int32) <<< (zN b &&& 31)) ^^^ (-1 : Int32)))) = K (zN (m + 1)) (zN pg) (zN row) (zN (3 * be 23)) (zN c) (zN (be (3 * be 23) + pg)) (zN (b + 1)) g' ∧ KC n nl hd f h0 h' ∧ KG n nl hd f g0 g' ∧ LsR h' g' M' ∧ M' ≤ M ∧ h'.1 247 = h.1 247 ∧ g'.1 265 = g.1 265 := fun h2 g2 M2 k2 k3 l2 lM e247 e265 => by
            obtain ⟨g3, t1, t2, t3, t4⟩ := back h2 g2 M2 k2 k3 l2 lM e265
            rw [t1]
            obtain ⟨h', g', M', u1, u2, u3, u4, u5, u6, u7, u8⟩ := ihd q q' (k + 1) M2 h2 g3 (by omega) (by omega) (by omega) k2 t2 t3 (by rw [e247]; exact l247) (by rw [t4]; exact lt)
            rw [ecf] at u1
            exact ⟨h', g', M', u1, u2, u3, u4, u5, by omega, by rw [u7, e247], by rw [u8, t4]⟩
          by_cases m0 : m = 0
          · rw [if_pos (show (3 : Int32) ≤ zN (3 - m) from by rw [m0]; decide)]
            have e1 : X12_goLeast n (e' + 1) (zN m) (zN (pg + (k + 1))) (zN (100 * row + 10 * b + (k + 1))) g1 = some ((), g1) := by
              rw [X12_goLeast]; unfold X12_goLeast_b
              rw [if_pos i22, me, bp_some, decide_eq_false (by omega), if_neg (show ¬ (false = true) by decide), if_pos (by rw [m0]; rfl)]
            rw [e1, bd_some, rst]
            unfold X6_growRowBy_259
            rw [sN1]
            exact nxt h1 g1 M a2 s2 ls1 (Nat.le_refl _) a247 rfl
          · obtain ⟨m', rfl⟩ : ∃ m', m = m' + 1 := ⟨m - 1, by omega⟩
            rw [if_neg (show ¬ (3 : Int32) ≤ zN (3 - (m' + 1)) by rw [zN_lit, zN_le (by decide) (by omega)]; omega), c_mbored bk, bp_some, pu_247 (by omega), bd_some]
            have e1 : X12_goLeast n (e' + 1) (zN (m' + 1)) (zN (pg + (k + 1))) (zN (100 * row + 10 * b + (k + 1))) g1 = X12_goLeast_97 n (X12_goLeast n e') n (zN (m' + 1)) (zN (pg + (k + 1))) (zN (100 * row + 10 * b + (k + 1))) (zN (3 * be 23)) (zN cf) (zN (be (3 * be 23) + (pg + (k + 1)))) 0 g1 := by
              rw [X12_goLeast]; unfold X12_goLeast_b
              have g23 : g1.1 265 23 = zN (be 23) := by rw [s7 23 (by omega) (by omega) (by omega) (by omega)]; exact l23
              rw [if_pos i22, me, bp_some, decide_eq_false (by omega), if_neg (show ¬ (false = true) by decide), if_neg (show ¬ zN (m' + 1) = 0 by rw [zN_lit, zN_eq (by omega) (by decide)]; omega), if_pos i23, if_pos i22, t23, g23, e30, if_pos i3, t22, s3, zN_ix (by omega), s4, Nat.add_assoc (be (3 * be 23)) pg (k + 1)]
            obtain ⟨h2, g2, M2, u1, u2, u3, u4, u5, u6, u7, u8⟩ := ih m' rfl (U ||| ((1 : Int32) <<< (zN b &&& 31))) (100 * row + 10 * b + (k + 1)) (pg + (k + 1)) cf M (uN bo (nm (3 + (3 * b + 2))) (min 9 (bo (nm (3 + (3 * b + 2))) + 1))) (wI h1 247 (nm (3 + (3 * b + 2))) (zN (min 9 (bo (nm (3 + (3 * b + 2))) + 1)))) g1 ⟨fun z => by have := hrow.2.1; omega, fun z => by have := hrow.2.2; omega, fun z => by omega⟩ (by omega) (by omega) y (fun i hi => by
                by_cases y : i = nm (3 + (3 * b + 2))
                · rw [y, uN_eq]; omega
                · rw [uN_ne y]; exact hbo i hi) (a2.w (by omega)) s2 (ls1.cg (w_ne (by decide)) rfl rfl) (fun i hi => by
                by_cases y : i = nm (3 + (3 * b + 2))
                · rw [y, uN_eq, w_eq, u_eq]
                · rw [uN_ne y, w_eq, u_ne y, a247]; exact l247 i hi) ⟨⟨s3, by rw [s7 23 (by omega) (by omega) (by omega) (by omega)]; exact l23, by rw [s7 _ (by omega) (by omega) (by omega) (by omega)]; exact lv, by rw [s4, Nat.add_assoc], by rw [s7 29 (by omega) (by omega) (by omega) (by omega)]; exact l29⟩, fun i hi => by
                by_cases y : i = nm (3 + (3 * b + 2))
                · rw [y, uN_eq, s5]
                · rw [uN_ne y, s7 _ (by omega) (by omega) (by omega) (by omega)]; exact lb i hi, fun i hi => by
                rw [s6, bit_or, lbit i hi, bit_or]
                cases bit U i <;> cases bit (h0.1 27 9) i <;> cases bit ((1 : Int32) <<< (zN b &&& 31)) i <;> rfl⟩
            rw [show zN (3 - (m' + 1)) + 1 = zN (3 - m') by rw [sN1]; congr 1; omega, u1, bd_some, pu_247 (by omega), bd_some, e1, u2, bd_some, rst]
            unfold X6_growRowBy_259
            rw [sN1]
            refine nxt _ g2 M2 (u3.w (by omega)) u4 (u5.cg (w_ne (by decide)) rfl rfl) u6 ?_ u8
            rw [w_eq, u7, w_eq, ← a247]
            exact upd_same (by rw [a247]; exact l247 _ (by omega))
        · rw [if_neg (show ¬ zN cf < zN (nm 1) by rw [zN_lt (by omega) (by omega)]; exact y)]
          obtain ⟨h2, g2, M2, o1, o2, o3, o4, o5, o6, o7, o8, o9, o10⟩ := offer (n := n) (tot := pg + (k + 1)) (row := 100 * row + 10 * b + (k + 1)) (X12_goLeast n e') ls1 (by omega) (by omega) (by omega)
          have k2 : KC n nl hd f h0 h2 := a2.sx (a2.1.cg (by rw [o6 16 (by decide)]) (by rw [o6 16 (by decide)]) (fun i h1 h2 => o6 i (by omega)) (by rw [o7])) ⟨fun i _ _ _ h4 _ _ => o6 i h4, fun k _ => by rw [o6 16 (by decide)], fun i _ => by rw [o7]⟩
          have k3 : KG n nl hd f g0 g2 := s2.sx (s2.1.cg (o9 7 (by decide) (by decide)) (o9 34 (by decide) (by decide)) (o8 253 (by decide)) (o8 254 (by decide)) (by rw [o10]) (o8 267 (by decide))) ⟨fun i h1 _ _ _ _ _ => o8 i h1, fun j hj => o9 j (fun z => by subst z; revert hj; decide) (fun z => by subst z; revert hj; decide), fun i _ => by rw [o10]⟩
          have e1 : X12_goLeast n (e' + 1) (zN m) (zN (pg + (k + 1))) (zN (100 * row + 10 * b + (k + 1))) g1 = some ((), g2) := by
            rw [X12_goLeast]; unfold X12_goLeast_b
            rw [if_pos i22, me, bp_some, decide_eq_true (by omega), if_pos rfl]
            exact o2
          rw [o1, bd_some, e1, bd_some, rst]
          obtain ⟨g3, t1, t2, t3, t4⟩ := back h2 g2 M2 k2 k3 o3 o5 (o8 265 (by decide))
          rw [t1]
          -- the next page is too many
          obtain ⟨q', rfl⟩ : ∃ m, q' = m + 1 := ⟨q' - 1, by omega⟩
          refine ⟨h2, g3, M2, rfl, ?_, k2, t2, t3, o5, by rw [o6 247 (by decide), a247], t4⟩
          have hM2 : M2 ≤ 27 ∧ g3.1 251 41 = zN M2 := by
            rcases t3.2 with ⟨y, -⟩ | ⟨y, r, -, -, -, e2, -⟩
            · omega
            · exact ⟨y, e2⟩
          rw [X12_goLeast_129]
          unfold X12_goLeast_264
          rw [m_pages (x.lm t2) hb, bp_some, sN1 b]
          by_cases y1 : nm (3 + 3 * b) < k + 1 + 1
          · rw [if_pos ((zN_lt (by omega) (by omega)).mpr y1)]
          · rw [if_neg (show ¬ zN (nm (3 + 3 * b)) < zN (k + 1 + 1) by rw [zN_lt (by omega) (by omega)]; exact y1), m_may (p := k + 1 + 1) (x.lm t2) al_265 (by rw [t4]; exact l23) hf (by rw [t4]; exact ltt) (by omega) hb (by omega) (by omega), bp_some, hM2.2, if_neg (zN_nm1 (by omega)), zN_add, if_neg (show ¬ zN (pg + (k + 1 + 1)) ≤ zN M2 by rw [zN_le (by omega) (by omega)]; omega), ite_self]
    · rw [if_pos (show zI (min ((nm (21 + (3 * be 23 + 1)) : Int) - (be (3 * be 23) + pg : Nat)) (nm (3 + 3 * b))) ≤ zN k from (zI_leN (by omega) (by omega) (by omega)).mpr (by omega)), decide_eq_false (fun y => z y.1), if_neg (show ¬ (false = true) by decide)]
      exact ⟨h, g, M, rfl, rfl, kc, kg, ls, Nat.le_refl _, rfl, rfl⟩
