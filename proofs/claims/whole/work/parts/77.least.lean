theorem least_book {n B H : Nat} {nm : Nat → Nat} {nl : Nat} {hd : Int32} {f : Nat → F6} {be : Nat → Nat} {h0 g0 : Mm} (x : CX n B H nm nl hd f be h0 g0) (hp : 0 < H) {m e e' row pg c : Nat} {U : Int32} {bo : Nat → Nat} (hm : m ≤ 2) (hbo : ∀ i, i < 4 → bo i ≤ 9) (hrow : (m = 0 → row < 10000) ∧ (m = 1 → row < 100) ∧ (m = 2 → row < 1)) (hpg : pg ≤ 9 * (2 - m)) (hc : c ≤ 99) (he' : m < e' + 1)
    (ih : ∀ (m' : Nat), m = m' + 1 → ∀ (U' : Int32) (row' pg' c' M : Nat) (bo' : Nat → Nat) (h g : Mm), ((m' = 0 → row' < 10000) ∧ (m' = 1 → row' < 100) ∧ (m' = 2 → row' < 1)) → pg' ≤ 9 * (2 - m') → c' ≤ 99 → c' < nm 1 → (∀ i, i < 4 → bo' i ≤ 9) → KC n nl hd f h0 h → KG n nl hd f g0 g → LsR h g M → (∀ i, i < 4 → h.1 247 i = zN (bo' i)) → LtR be bo' U' (h0.1 27 9) c' pg' (g.1 265) →
      ∃ h' g' M', X6_growRow n (X6_growRowBy n e) (zN (3 - m')) U' (zN row') (zN pg') (zN c') h = some ((), h') ∧ X12_goLeast_97 n (X12_goLeast n e') n (zN (m' + 1)) (zN pg') (zN row') (zN (3 * be 23)) (zN c') (zN (be (3 * be 23) + pg')) 0 g = some ((), g') ∧ KC n nl hd f h0 h' ∧ KG n nl hd f g0 g' ∧ LsR h' g' M' ∧ M' ≤ M ∧ h'.1 247 = h.1 247 ∧ g'.1 265 = g.1 265) : ∀ (d q q' k M : Nat) (h g : Mm), k + d = B → d < q → d < q' → KC n nl hd f h0 h → KG n nl hd f g0 g → LsR h g M → (∀ i, i < 4 → h.1 247 i = zN (bo i)) → LtR be bo U (h0.1 27 9) c pg (g.1 265) →
    ∃ h' g' M', X6_growRow_3 n (X6_growRowBy n (e + 1)) q (zN (3 - m)) U (zN row) (zN pg) (zN c) (zN k) h = some ((), h') ∧ X12_goLeast_97 n (X12_goLeast n (e' + 1)) q' (zN (m + 1)) (zN pg) (zN row) (zN (3 * be 23)) (zN c) (zN (be (3 * be 23) + pg)) (zN k) g = some ((), g') ∧ KC n nl hd f h0 h' ∧ KG n nl hd f g0 g' ∧ LsR h' g' M' ∧ M' ≤ M ∧ h'.1 247 = h.1 247 ∧ g'.1 265 = g.1 265 := by
  obtain ⟨x1, x2, ⟨q1, q2, q3, q4, q5, q6, q7, q8⟩, -, -⟩ := id x
  have hH := x2.2.1.2.1
  have hB6 := x2.2.1.1
  have hf : be 23 < H := by omega
  obtain ⟨⟨t1, t2, -⟩, -, v1, v2, -⟩ := q1 _ hf
  have st := (x2.2.2.2.2.2.2.2 _ hf).2.1
  intro d
  induction d with
  | zero =>
    intro q q' k M h g hk hq hq' kc kg ls l247 lt
    obtain ⟨q, rfl⟩ : ∃ m, q = m + 1 := ⟨q - 1, by omega⟩
    obtain ⟨q', rfl⟩ : ∃ m, q' = m + 1 := ⟨q' - 1, by omega⟩
    unfold X6_growRow_3 X12_goLeast_97
    rw [c_books, bp_some, (x.lc kc).1.1, (x.lm kg).1.2.2.1, if_pos (show zN B ≤ zN k from (zN_le (by omega) (by omega)).mpr (by omega)), if_pos (show zN B ≤ zN k from (zN_le (by omega) (by omega)).mpr (by omega))]
    exact ⟨h, g, M, rfl, rfl, kc, kg, ls, Nat.le_refl _, rfl, rfl⟩
  | succ d ihd =>
    intro q q' k M h g hk hq hq' kc kg ls l247 lt
    obtain ⟨q, rfl⟩ : ∃ m, q = m + 1 := ⟨q - 1, by omega⟩
    obtain ⟨q', rfl⟩ : ∃ m, q' = m + 1 := ⟨q' - 1, by omega⟩
    have hb : k < B := by omega
    have pgb := x2.2.2.2.2.2.2.1 k hb
    have i18 : inB (zN (18 + nm (3 + (3 * k + 2)))) (aln 265) := by rw [al_265, zN_inB (by omega)]; omega
    obtain ⟨⟨l22, l23, lv, ltt, l29⟩, lb, lbit⟩ := id lt
    have go : ∀ (h2 g2 : Mm) (M2 : Nat), KC n nl hd f h0 h2 → KG n nl hd f g0 g2 → LsR h2 g2 M2 → M2 ≤ M → h2.1 247 = h.1 247 → g2.1 265 = g.1 265 → ∃ h' g' M', X6_growRow_3 n (X6_growRowBy n (e + 1)) q (zN (3 - m)) U (zN row) (zN pg) (zN c) (zN (k + 1)) h2 = some ((), h') ∧ X12_goLeast_97 n (X12_goLeast n (e' + 1)) q' (zN (m + 1)) (zN pg) (zN row) (zN (3 * be 23)) (zN c) (zN (be (3 * be 23) + pg)) (zN (k + 1)) g2 = some ((), g') ∧ KC n nl hd f h0 h' ∧ KG n nl hd f g0 g' ∧ LsR h' g' M' ∧ M' ≤ M ∧ h'.1 247 = h.1 247 ∧ g'.1 265 = g.1 265 := fun h2 g2 M2 k2 k3 l2 lM e1 e2 => by
      obtain ⟨h', g', M', u1, u2, u3, u4, u5, u6, u7, u8⟩ := ihd q q' (k + 1) M2 h2 g2 (by omega) (by omega) (by omega) k2 k3 l2 (by rw [e1]; exact l247) (by rw [e2]; exact lt)
      exact ⟨h', g', M', u1, u2, u3, u4, u5, by omega, by rw [u7, e1], by rw [u8, e2]⟩
    unfold X6_growRow_3 X6_growRow_50
    rw [X12_goLeast_97, c_books, bp_some, (x.lc kc).1.1, (x.lm kg).1.2.2.1, if_neg (show ¬ zN B ≤ zN k by rw [zN_le (by omega) (by omega)]; omega), if_neg (show ¬ zN B ≤ zN k by rw [zN_le (by omega) (by omega)]; omega), kc.i 27 (by omega), m_kind (x.lm kg) hb, bp_some, show (18 : Int32) = zN 18 from rfl, zN_add, if_pos i18, zN_ix (by omega), lb _ (by omega)]
    by_cases z : (bit U k || bit (h0.1 27 9) k) = true
    · rw [if_neg (show ¬ ((U ||| h0.1 27 9) >>> (zN k &&& 31)) &&& 1 = 0 from fun w => (b_or0 (by omega)).mp w z), sN1]
      have e1 : X12_goLeast_129 n (X12_goLeast n (e' + 1)) (X12_goLeast_97 n (X12_goLeast n (e' + 1)) q') n (zN (m + 1)) (zN pg) (zN row) (zN (3 * be 23)) (zN c) (zN (be (3 * be 23) + pg)) (zN k) (zN (18 + nm (3 + (3 * k + 2)))) (zN (bo (nm (3 + (3 * k + 2))))) (zN 1) g = X12_goLeast_97 n (X12_goLeast n (e' + 1)) q' (zN (m + 1)) (zN pg) (zN row) (zN (3 * be 23)) (zN c) (zN (be (3 * be 23) + pg)) (zN (k + 1)) g := by
        obtain ⟨n', en⟩ : ∃ n', n = n' + 1 := ⟨n - 1, by omega⟩
        have e2 : ∀ (rf : Int32 → Int32 → Int32 → Mm → Option (Unit × Mm)) (K : Int32 → Int32 → Int32 → Int32 → Int32 → Int32 → Int32 → Mm → Option (Unit × Mm)), X12_goLeast_129 n rf K (n' + 1) (zN (m + 1)) (zN pg) (zN row) (zN (3 * be 23)) (zN c) (zN (be (3 * be 23) + pg)) (zN k) (zN (18 + nm (3 + (3 * k + 2)))) (zN (bo (nm (3 + (3 * k + 2))))) (zN 1) g = K (zN (m + 1)) (zN pg) (zN row) (zN (3 * be 23)) (zN c) (zN (be (3 * be 23) + pg)) (zN (k + 1)) g := fun rf K => by
          rw [X12_goLeast_129]
          unfold X12_goLeast_264
          rw [m_pages (x.lm kg) hb, bp_some, if_neg (show ¬ zN (nm (3 + 3 * k)) < zN 1 by rw [zN_lt (by omega) (by omega)]; omega), m_may (p := 1) (x.lm kg) al_265 l23 hf ltt (by omega) hb (by omega) (by omega), bp_some, decide_eq_false (fun y => by have y2 := y.2; rw [lbit k (by omega), z] at y2; cases y2), if_neg (show ¬ (false = true) by decide), sN1]
        rw [← en] at e2
        exact e2 _ _
      rw [show (1 : Int32) = zN 1 from rfl, e1]
      exact go h g M kc kg ls (Nat.le_refl _) rfl rfl
    · rw [if_pos (show ((U ||| h0.1 27 9) >>> (zN k &&& 31)) &&& 1 = 0 from (b_or0 (by omega)).mpr z), sN1]
      obtain ⟨h', g', M', u1, u2, u3, u4, u5, u6, u7, u8⟩ := least_page x hp (b := k) (U0 := 0) hm hb hbo hrow hpg hc rfl (by simpa using z) he' ih (X12_goLeast_97 n (X12_goLeast n (e' + 1)) q') (nm (3 + 3 * k)) n n 0 M h g (by omega) (by omega) (by omega) kc kg ls l247 lt
      have eb : X6_growRowBy n (e + 1) (zN k) (zN (3 - m)) (U ||| ((1 : Int32) <<< (zN k &&& 31))) (zN row) (zN pg) (zN c) h = some ((), h') := by
        rw [X6_growRowBy]
        unfold X6_growRowBy_b
        rw [c_calming (x.lc kc) hb, bp_some, c_kind (x.lc kc) hb, bp_some, at_247 (by omega), bp_some, l247 _ (by omega), kc.i 27 (by omega), q4.1, at_30 (by omega), bp_some, kc.i 30 (by omega), t2, at_29 (by omega), bp_some, kc.i 29 (by omega), t1, c_strength (x.lc kc) hf, bp_some, c_pages (x.lc kc) hb, bp_some, zN_add, zN_subI, j_min, bp_some, c_enough (x.lc kc), bp_some]
        have em : (if zN (nm (3 + 3 * k)) < zI ((nm (21 + (3 * be 23 + 1)) : Int) - (be (3 * be 23) + pg : Nat)) then zN (nm (3 + 3 * k)) else zI ((nm (21 + (3 * be 23 + 1)) : Int) - (be (3 * be 23) + pg : Nat))) = zI (min ((nm (21 + (3 * be 23 + 1)) : Int) - (be (3 * be 23) + pg : Nat)) (nm (3 + 3 * k))) := by
          by_cases y : (nm (3 + 3 * k) : Int) < (nm (21 + (3 * be 23 + 1)) : Int) - (be (3 * be 23) + pg : Nat)
          · rw [if_pos ((zN_ltI (by omega) (by omega) (by omega)).mpr y), Int.min_eq_right (by omega), zI_N]
          · rw [if_neg (by rw [zN_ltI (by omega) (by omega) (by omega)]; exact y), Int.min_eq_left (by omega)]
        rw [em]
        exact u1
      have u2' : X12_goLeast_129 n (X12_goLeast n (e' + 1)) (X12_goLeast_97 n (X12_goLeast n (e' + 1)) q') n (zN (m + 1)) (zN pg) (zN row) (zN (3 * be 23)) (zN c) (zN (be (3 * be 23) + pg)) (zN k) (zN (18 + nm (3 + (3 * k + 2)))) (zN (bo (nm (3 + (3 * k + 2))))) 1 g = _ := u2
      rw [eb, bd_some, u2']
      exact go h' g' M' u3 u4 u5 u6 u7 u8
theorem least_sim {n B H : Nat} {nm : Nat → Nat} {nl : Nat} {hd : Int32} {f : Nat → F6} {be : Nat → Nat} {h0 g0 : Mm} (x : CX n B H nm nl hd f be h0 g0) (hp : 0 < H) : ∀ (m : Nat), m ≤ 2 → ∀ (e e' : Nat), m < e → m < e' → ∀ (U : Int32) (row pg c M : Nat) (bo : Nat → Nat) (h g : Mm), ((m = 0 → row < 10000) ∧ (m = 1 → row < 100) ∧ (m = 2 → row < 1)) → pg ≤ 9 * (2 - m) → c ≤ 99 → c < nm 1 → (∀ i, i < 4 → bo i ≤ 9) → KC n nl hd f h0 h → KG n nl hd f g0 g → LsR h g M → (∀ i, i < 4 → h.1 247 i = zN (bo i)) → LtR be bo U (h0.1 27 9) c pg (g.1 265) →
      ∃ h' g' M', X6_growRow n (X6_growRowBy n e) (zN (3 - m)) U (zN row) (zN pg) (zN c) h = some ((), h') ∧ X12_goLeast_97 n (X12_goLeast n e') n (zN (m + 1)) (zN pg) (zN row) (zN (3 * be 23)) (zN c) (zN (be (3 * be 23) + pg)) 0 g = some ((), g') ∧ KC n nl hd f h0 h' ∧ KG n nl hd f g0 g' ∧ LsR h' g' M' ∧ M' ≤ M ∧ h'.1 247 = h.1 247 ∧ g'.1 265 = g.1 265 := by
  obtain ⟨x1, x2, ⟨q1, q2, q3, q4, q5, q6, q7, q8⟩, -, -⟩ := id x
  have hH := x2.2.1.2.1
  have hB6 := x2.2.1.1
  have hf : be 23 < H := by omega
  obtain ⟨⟨t1, t2, -⟩, -, v1, v2, -⟩ := q1 _ hf
  have st := (x2.2.2.2.2.2.2.2 _ hf).2.1
  intro m
  induction m with
  | zero =>
    intro hm e e' he he' U row pg c M bo h g hrow hpg hc hlt hbo kc kg ls l247 lt
    obtain ⟨e, rfl⟩ : ∃ m, e = m + 1 := ⟨e - 1, by omega⟩
    obtain ⟨e', rfl⟩ : ∃ m, e' = m + 1 := ⟨e' - 1, by omega⟩
    unfold X6_growRow
    exact least_book x hp hm (e := e) (e' := e') hbo hrow hpg hc (by omega) (fun m' z => by omega) B n n 0 M h g (by omega) (by omega) (by omega) kc kg ls l247 lt
  | succ m ih =>
    intro hm e e' he he' U row pg c M bo h g hrow hpg hc hlt hbo kc kg ls l247 lt
    obtain ⟨e, rfl⟩ : ∃ m, e = m + 1 := ⟨e - 1, by omega⟩
    obtain ⟨e', rfl⟩ : ∃ m, e' = m + 1 := ⟨e' - 1, by omega⟩
    unfold X6_growRow
    exact least_book x hp hm (e := e) (e' := e') hbo hrow hpg hc (by omega) (fun m' z => by
      obtain rfl : m' = m := by omega
      exact ih (by omega) e e' (by omega) (by omega)) B n n 0 M h g (by omega) (by omega) (by omega) kc kg ls l247 lt
theorem sim_least (n : Nat) (hn : 20000 ≤ n) : Sim_least n (R n) := by
  intro x1 h g hR
  have hR0 := hR.thr 0
  obtain ⟨B, H, nm, nl, hd, f, be, x, ex⟩ := R.cx hn hR0
  unfold X11_least X12_least
  generalize wI g 251 0 (0 : Int32) = g0 at *
  obtain ⟨-, hL, ⟨q1, q2, q3, q4, q5, q6, q7, q8⟩, -, -⟩ := id x
  have hH := hL.2.1.2.1
  have hB6 := hL.2.1.1
  have en := hL.2.2.2.2.2.1
  rw [c_stands hL, bp_some, hL.1.2.2.2]
  by_cases c : H = 0
  · subst c; exact ⟨_, _, _, rfl, rfl, hR0⟩
  · rw [decide_eq_true (show 0 < H by omega), if_pos rfl, if_neg (show ¬ zN H = 0 by rw [zN_lit, zN_eq (by omega) (by decide)]; exact c)]
    rcases what x1 1 (by decide) with ⟨w, hw, rfl⟩ | ⟨hx, -⟩
    · rw [m_in (m := 1) (L := 0) (U := 1) (by decide) ⟨w, hw, rfl⟩ rfl rfl, bp_some, if_pos rfl, if_neg (show ¬ zN w < 0 from zN_neg0 (by omega)), if_pos (show zN w ≤ 1 from (zN_le (b := 1) (by omega) (by decide)).mpr hw), c_enough hL, bp_some, q3.1]
      have hf : be 23 < H := by omega
      obtain ⟨⟨t1, t2, -⟩, ⟨u1, u2, u3⟩, v1, v2, -⟩ := q1 _ hf
      obtain ⟨g1, m1, m2, m3, -⟩ := m_trial x x.g
      rw [m1, bd_some]
      have i22 : inB (22 : Int32) (aln 265) := by rw [al_265]; decide
      have t22 : (22 : Int32).toNatClampNeg = 22 := by decide
      have i23 : inB (23 : Int32) (aln 265) := by rw [al_265]; decide
      have t23 : (23 : Int32).toNatClampNeg = 23 := by decide
      have i3 : inB (zN (3 * be 23)) (aln 265) := by rw [al_265, zN_inB (by omega)]; omega
      have e30 : (3 : Int32) * zN (be 23) + (0 : Int32) = zN (3 * be 23) := by simp only [zN_lit, zN_mul, zN_add, Nat.add_zero]
      have kg2 : KG n nl hd f g0 (wI (wI g1 251 41 (-1)) 251 42 (-1)) := (m2.f (k := 41) rfl (by decide) (by decide)).f (k := 42) rfl (by decide) (by decide)
      have r265 : (wI (wI g1 251 41 (-1)) 251 42 (-1)).1 265 = g1.1 265 := by rw [w_ne (by decide), w_ne (by decide)]
      have e41 : (wI (wI g1 251 41 (-1)) 251 42 (-1)).1 251 41 = -1 := by rw [w_eq, u_ne (by decide), w_eq, u_eq]
      have e42 : (wI (wI g1 251 41 (-1)) 251 42 (-1)).1 251 42 = -1 := by rw [w_eq, u_eq]
      generalize wI (wI g1 251 41 (-1)) 251 42 (-1) = g2 at *
      have r22 : g2.1 265 22 = zN (be 22) := by rw [r265, m3 _ (by omega)]; exact q3.2.1
      have r23 : g2.1 265 23 = zN (be 23) := by rw [r265, m3 _ (by omega)]; exact q4.2.1
      have rt : g2.1 265 (3 * be 23) = zN (be (3 * be 23)) := by rw [r265, m3 _ (by omega)]; exact u1
      have eg : X12_goLeast n 9 3 0 0 g2 = X12_goLeast_b n (X12_goLeast n 8) 3 0 0 g2 := by rw [X12_goLeast]
      rw [eg]
      unfold X12_goLeast_b
      rw [if_pos i22, t22, r22, m_isEnough (x.lm kg2) (by omega), bp_some]
      by_cases y : be 22 < nm 1
      · rw [if_pos (show zN (be 22) < zN (nm 1) from (zN_lt (by omega) (by omega)).mpr y), decide_eq_false (by omega), if_neg (show ¬ (false = true) by decide), if_neg (show ¬ (3 : Int32) = 0 by decide), if_pos i23, if_pos i22, t23, r23, e30, if_pos i3, zN_ix (by omega), rt]
        unfold X6_findLeast
        rw [c_copy (N := 4) al_28 al_247 (by decide), bd_some]
        generalize eh1 : wI (wI h 246 6 (0 : Int32)) 246 7 (28 : Int32) = h1
        have kc1 : KC n nl hd f h h1 := by rw [← eh1]; exact (x.c.w (by omega)).w (by omega)
        generalize ehw : wR h1 247 (fun k => if k < 4 then h1.1 28 k else h1.1 247 k) = hw'
        have kw : KC n nl hd f h hw' := by
          rw [← ehw]
          exact kc1.sx (kc1.1.cg (by rw [wr_ne (by decide)]) (by rw [wr_ne (by decide)]) (fun i h1 h2 => wr_ne (by omega)) rfl) ⟨fun i _ _ _ _ h5 _ => wr_ne h5, fun k _ => by rw [wr_ne (by decide)], fun _ _ => rfl⟩
        have w247 : ∀ i, i < 4 → hw'.1 247 i = zN (be (18 + i)) := fun i hi => by
          rw [← ehw, wr_eq, if_pos hi, kc1.i 28 (by omega)]; exact (q2 i hi).1
        have w246 : hw'.1 246 7 = zN 28 ∧ hw'.1 246 6 = zN 0 := by
          rw [← ehw, wr_ne (by decide), ← eh1]
          exact ⟨by simp (disch := omega) only [w_eq, u_eq]; rfl, by simp (disch := omega) only [w_eq, u_eq, u_ne]; rfl⟩
        rw [kw.i 27 (by omega), q3.1]
        obtain ⟨h2, g3, M2, s1, s2, s3, s4, s5, s6, s7, s8⟩ := least_sim x (show 0 < H by omega) 2 (by omega) 9 8 (by omega) (by omega) 0 0 0 (be 22) 28 (fun i => be (18 + i)) hw' g2 ⟨fun z => by omega, fun z => by omega, fun z => by omega⟩ (by omega) q3.2.2 y (fun i hi => (q2 i hi).2.2) kw kg2 ⟨w246.1, Or.inl ⟨rfl, w246.2, e41, e42⟩⟩ w247 ⟨⟨r22, r23, by rw [r265, m3 _ (by omega)]; exact u2, rt, by rw [r265, m3 _ (by omega)]; exact q5.2.1⟩, fun i hi => by rw [r265, m3 _ (by omega)]; exact (q2 i hi).2.1, fun i hi => by
          rw [r265, m3 _ (by omega), ← q6.2.2]
          have : bit (0 : Int32) i = false := BitVec.getLsbD_zero
          rw [this]; rfl⟩
        have s1' : X6_growRow n (X6_growRowBy n 9) 1 0 0 0 (zN (be 22)) hw' = some ((), h2) := s1
        have s2' : X12_goLeast_97 n (X12_goLeast n 8) n 3 0 0 (zN (3 * be 23)) (zN (be 22)) (zN (be (3 * be 23))) 0 g2 = some ((), g3) := s2
        rw [s1', bd_some, s2', bd_some]
        rcases s5.2 with ⟨z1, z2, z3, z4⟩ | ⟨z1, r, r1, r2, z2, z3, z4⟩
        · rw [z2, if_pos (show zN 0 ≤ 0 by decide), bd_some, if_neg (show ¬ (false = true) by decide), z3, z4, ite_self]
          exact ⟨_, h2, g3, rfl, rfl, ex _ _ s3 s4⟩
        · rw [z2, if_neg (show ¬ zN r ≤ 0 by rw [zN_lit, zN_le (by omega) (by decide)]; omega), bd_some, if_pos rfl, z3, z4, s5.1, z2]
          obtain rfl | rfl : w = 0 ∨ w = 1 := by omega
          · exact ⟨_, h2, g3, rfl, rfl, ex _ _ s3 s4⟩
          · exact ⟨_, h2, g3, rfl, rfl, ex _ _ s3 s4⟩
      · rw [if_neg (show ¬ zN (be 22) < zN (nm 1) by rw [zN_lt (by omega) (by omega)]; exact y), decide_eq_true (show nm 1 ≤ be 22 by omega), if_pos rfl, e41, if_pos rfl]
        unfold X12_goLeast_47
        rw [bd_some]
        have kg3 : KG n nl hd f g0 (wI (wI g2 251 41 0) 251 42 0) := (kg2.f (k := 41) rfl (by decide) (by decide)).f (k := 42) rfl (by decide) (by decide)
        refine ⟨0, h, _, rfl, ?_, ex _ _ x.c kg3⟩
        have a1 : (wI (wI g2 251 41 0) 251 42 0).1 251 41 = 0 := by rw [w_eq, u_ne (by decide), w_eq, u_eq]
        have a2 : (wI (wI g2 251 41 0) 251 42 0).1 251 42 = 0 := by rw [w_eq, u_eq]
        rw [a1, a2, ite_self]
    · rw [m_out (m := 1) (L := 0) (U := 1) hx rfl rfl]
      refine ⟨-1, h, g0, ?_, rfl, hR0⟩
      exact ifout (m := 1) hx
