/-! a whole law -/
def LX (k : Nat) (c : List Int32) (ans : (Nat → Int32) → Option Int32) : Prop :=
  ∀ (n row f : Nat) (h : Mm), 18 ≤ row → row ≤ 21 → At (h.1 row) k c → k + c.length ≤ 240 → h.1 16 7 = zN 0 → Lb (lc h) → c.length < f → ∃ h', X4_worthByLaw_55 n f row (zN (k + c.length)) (zN k) h = some ((ans (lc h)).getD 0, h') ∧ FrW h h'
theorem LX_one {cl : Nat → List Int32} {ln k : Nat} {ans : (Nat → Int32) → Option Int32} (q : CLX cl ln ans) (hl : ∀ k, (cl k).length = ln) : LX k (cl k) ans := by
  intro n row f h a1 a2 a3 a4 a5 a6 a7
  rw [hl] at a4 a7 ⊢
  obtain ⟨f, rfl⟩ : ∃ m, f = m + 1 + ln := ⟨f - 1 - ln, by omega⟩
  obtain ⟨r1, r2⟩ := q n row (k + ln) k (f + 1) h a1 a2 a3 (Nat.le_refl _) a4 a5 a6
  cases e : ans (lc h) with
  | some v => exact r1 v e
  | none =>
    obtain ⟨h', f', s1, s2, s3, s4⟩ := r2 e
    obtain ⟨f', rfl⟩ : ∃ m, f' = m + 1 := ⟨f' - 1, by omega⟩
    refine ⟨h', ?_, s4⟩
    rw [s2, X4_worthByLaw_55, if_pos (show zN (k + ln) ≤ zN (k + ln) from Int32.le_refl _)]
    rfl
theorem LX_cons {cl : Nat → List Int32} {ln k : Nat} {ans ans' : (Nat → Int32) → Option Int32} {c' : List Int32} (q : CLX cl ln ans) (hl : ∀ k, (cl k).length = ln) (q' : LX (k + ln) c' ans') : LX k (cl k ++ c') (fun L => orA (ans L) (ans' L)) := by
  intro n row f h a1 a2 a3 a4 a5 a6 a7
  rw [List.length_append, hl] at a4 a7 ⊢
  obtain ⟨b1, b2⟩ := (At_app (cl k) c' k).mp a3
  rw [hl] at b2
  obtain ⟨f, rfl⟩ : ∃ m, f = m + 1 + c'.length + ln := ⟨f - 1 - c'.length - ln, by omega⟩
  obtain ⟨r1, r2⟩ := q n row (k + (ln + c'.length)) k (f + 1 + c'.length) h a1 a2 b1 (by omega) a4 a5 a6
  show ∃ h', X4_worthByLaw_55 n (f + 1 + c'.length + ln) row (zN (k + (ln + c'.length))) (zN k) h = some ((orA (ans (lc h)) (ans' (lc h))).getD 0, h') ∧ FrW h h'
  cases e : ans (lc h) with
  | some v => exact r1 v e
  | none =>
    obtain ⟨h', f', s1, s2, s3, s4⟩ := r2 e
    obtain ⟨h2, t1, t2⟩ := q' n row f' h' a1 a2 (by rw [s4.1 row (by omega) (by omega)]; exact b2) (by omega) s3 (by rw [s4.lcc]; exact a6) (by omega)
    refine ⟨h2, ?_, s4.tr t2⟩
    rw [s2, show k + (ln + c'.length) = k + ln + c'.length by omega, t1, s4.lcc]
    rfl
theorem upF_none {g : Mm} : upF g none = g := by unfold upF; split <;> rfl
theorem zM_nz {c : Nat} (hc : c ≤ 255) (h0 : c ≠ 0) : ¬ zM c = -1 := by
  unfold zM; rw [if_neg h0]; exact zN_nm1 (by omega)
theorem law_lp {T : Nat → Nat} {s n a1 : Nat} (hn : 20000 ≤ n) (h240 : s ≤ 240) : ∀ (r p j k q q' : Nat), s - p ≤ r → p ≤ s → k ≤ p → 2 * j ≤ p → r < q → r < q' →
    (∃ Q, Q ≤ s ∧ (∀ h O, CT T s h → ∃ O' k', X3_isRight_15 n q (zN j) (stL h p O k) = some (false, stL h Q O' k')) ∧ (∀ t b0 g, MT T s t b0 g → g.1 251 13 = 121 → ∃ a d' x, bd (X12_clause n (ms g p (-1) (zN 0))) (fun _ h48 => X12_goThrough_32 n a1 q' h48) = some ((), ms (upF g x) a (zN Q) d'))) ∨
    (∃ (c : List Int32) (ans : (Nat → Int32) → Option Int32), k + c.length ≤ s ∧ LX k c ans ∧ (∀ h O, CT T s h → X3_isRight_15 n q (zN j) (stL h p O k) = some (true, stL h s (wrL O k c) (k + c.length))) ∧ (∀ t b0 g, MT T s t b0 g → g.1 251 13 = 121 → bd (X12_clause n (ms g p (-1) (zN 0))) (fun _ h48 => X12_goThrough_32 n a1 q' h48) = some ((), ms (upF g (ans (lm g))) s (-1) (zN 0)))) := by
  intro r
  induction r using Nat.strongRecOn with
  | ind r ih =>
    intro p j k q q' hr hp hk hj hq hq'
    obtain ⟨q, rfl⟩ : ∃ m, q = m + 1 := ⟨q - 1, by omega⟩
    obtain ⟨q', rfl⟩ : ∃ m, q' = m + 1 := ⟨q' - 1, by omega⟩
    have j240 : ¬ (240 : Int32) ≤ zN j := by rw [zN_lit, zN_le (by decide) (by omega)]; omega
    rcases clause_sp (T := T) (n := n) (p := p) hn h240 hp with ⟨Q, c1, c2, c3, c4⟩ | ⟨p', cl, ln, ans, c1, c2, c3, c4, c5, c6, c7⟩
    · refine Or.inl ⟨Q, c2, fun h O ct => ?_, fun t b0 g mt h13 => ?_⟩
      · obtain ⟨O', k', e⟩ := c3 h O k ct hk
        refine ⟨O', k', ?_⟩
        rw [X3_isRight_15, if_neg j240, e, bd_some, if_neg (show ¬ (false = true) by decide)]
      · obtain ⟨a, d', e⟩ := c4 t b0 g mt h13
        refine ⟨a, d', none, ?_⟩
        rw [e, bd_some, X12_goThrough_32]
        unfold X12_goThrough_66
        rw [ms_11, if_neg (zN_nm1 (by omega)), if_neg (zN_nm1 (by omega)), upF_none]
    · have b := skp_b (T := T) c2
      have id2 := skp_id (T := T) c2
      by_cases z : skp T s p' = s
      · have s0 : sg T s s = 0 := by unfold sg; rw [if_neg (by omega)]
        have ss : skp T s s = s := by rw [z] at id2; exact id2
        refine Or.inr ⟨cl k, ans, by rw [c4]; omega, LX_one c5 c4, fun h O ct => ?_, fun t b0 g mt h13 => ?_⟩
        · rw [X3_isRight_15, if_neg j240, c6 h O k ct hk, bd_some, if_pos rfl, st_end hn ct c2, bd_some, decide_eq_true z, if_pos rfl, z, c4]
        · rw [c7 t b0 g mt h13, bd_some, X12_goThrough_32, ms_11, if_pos rfl, m_look (upF_mt mt) hn c2, bd_some, z, s0, if_neg (show ¬ zM 0 = 59 by decide)]
          unfold X12_goThrough_66
          rw [ms_11, if_pos rfl, m_look (upF_mt mt) hn (Nat.le_refl s), bd_some, ss, s0, if_pos (show zM 0 = -1 from rfl)]
      · by_cases w : sg T s (skp T s p') = 59
        · have lt : skp T s p' < s := sg_lt (T := T) (show sg T s (skp T s p') ≠ 0 by omega)
          have cst : ∀ (h : Mm) (O : Nat → Int32), CT T s h → X3_isRight_15 n (q + 1) (zN j) (stL h p O k) = X3_isRight_15 n q (zN (j + 1)) (stL h (skp T s p' + 1) (wrL O k (cl k)) (k + ln)) := fun h O ct => by
            rw [X3_isRight_15, if_neg j240, c6 h O k ct hk, bd_some, if_pos rfl, st_end hn ct c2, bd_some, decide_eq_false z, if_neg (show ¬ (false = true) by decide), show (59 : Int32) = zN 59 from rfl, st_take hn ct b.2 (by decide), id2, if_pos w, bd_some, if_pos rfl, sN1]
          have mst : ∀ (t b0 : Nat) (g : Mm), MT T s t b0 g → g.1 251 13 = 121 → bd (X12_clause n (ms g p (-1) (zN 0))) (fun _ h48 => X12_goThrough_32 n a1 (q' + 1) h48) = bd (X12_clause n (ms (upF g (ans (lm g))) (skp T s p' + 1) (-1) (zN 0))) (fun _ h48 => X12_goThrough_32 n a1 q' h48) := fun t b0 g mt h13 => by
            rw [c7 t b0 g mt h13, bd_some, X12_goThrough_32, ms_11, if_pos rfl, m_look (upF_mt mt) hn c2, bd_some, w, if_pos (show zM 59 = 59 from rfl), ms_inc]
          rcases ih (r - 1) (by omega) (skp T s p' + 1) (j + 1) (k + ln) q q' (by omega) lt (by omega) (by omega) (by omega) (by omega) with ⟨Q, d1, d2, d3⟩ | ⟨c, an, d1, d2, d3, d4⟩
          · refine Or.inl ⟨Q, d1, fun h O ct => ?_, fun t b0 g mt h13 => ?_⟩
            · rw [cst h O ct]; exact d2 h _ ct
            · obtain ⟨a, d', x, e⟩ := d3 t b0 (upF g (ans (lm g))) (upF_mt mt) (by rw [upF_k (by decide) (by decide)]; exact h13)
              refine ⟨a, d', orA (ans (lm g)) x, ?_⟩
              rw [mst t b0 g mt h13, e, upF_upF]
          · refine Or.inr ⟨cl k ++ c, fun L => orA (ans L) (an L), by rw [List.length_append, c4]; omega, LX_cons c5 c4 d2, fun h O ct => ?_, fun t b0 g mt h13 => ?_⟩
            · rw [cst h O ct, d3 h _ ct, wrL_app, List.length_append, c4, Nat.add_assoc]
            · rw [mst t b0 g mt h13, d4 t b0 (upF g (ans (lm g))) (upF_mt mt) (by rw [upF_k (by decide) (by decide)]; exact h13), upF_upF, upF_lm]
        · refine Or.inl ⟨skp T s p', b.2, fun h O ct => ⟨wrL O k (cl k), k + ln, ?_⟩, fun t b0 g mt h13 => ⟨skp T s p', zN 0, ans (lm g), ?_⟩⟩
          · rw [X3_isRight_15, if_neg j240, c6 h O k ct hk, bd_some, if_pos rfl, st_end hn ct c2, bd_some, decide_eq_false z, if_neg (show ¬ (false = true) by decide), show (59 : Int32) = zN 59 from rfl, st_take hn ct b.2 (by decide), id2, if_neg w, bd_some, if_neg (show ¬ (false = true) by decide)]
          · have lt : skp T s p' < s := by omega
            have nz : sg T s (skp T s p') ≠ 0 := by
              unfold sg; rw [if_pos lt]
              have := (mt.2.2.2.2 _ lt).2.1; omega
            rw [c7 t b0 g mt h13, bd_some, X12_goThrough_32, ms_11, if_pos rfl, m_look (upF_mt mt) hn c2, bd_some, if_neg (show ¬ zM (sg T s (skp T s p')) = 59 from fun z => w ((zM_eq (T_le mt _) (by decide) (by decide)).mp z))]
            unfold X12_goThrough_66
            rw [ms_11, if_pos rfl, m_look (upF_mt mt) hn b.2, bd_some, id2, if_neg (zM_nz (T_le mt _) nz), m_fail, bd_some]
/-! what a law kept is worth -/
theorem law_evc {n j : Nat} {c : List Int32} {ans : (Nat → Int32) → Option Int32} {row : Nat → Int32} (hn : 20000 ≤ n) (hj : j < 4) (lx : LX 0 c ans) (hc : c.length ≤ 240) (hr : At row 0 c) : EvC n j row (zN c.length) (fun a b c d e f => (ans (L6 a b c d e f)).getD 0) := by
  intro h h1 h2 h3 h4
  have hat : At (h.1 (18 + j)) 0 c := At_cg c 0 (fun i _ hi => h1 i (by omega)) hr
  have ha : aln (18 + j) = 240 := aln_row (by omega) (by omega)
  obtain ⟨h', r1, r2⟩ := lx n (18 + j) n (wI h 16 7 0) (by omega) (by omega) (by rw [w_ne (by omega)]; exact hat) (by omega) (by rw [w_eq, u_eq]; rfl) (fun i hi => by
    have e : lc (wI h 16 7 0) = lc h := by unfold lc; rw [w_ne (by decide)]
    rw [e, lc_i hi]; exact h4 i hi) (by omega)
  have fw : FrW h (wI h 16 7 0) := ⟨fun i k1 k2 => by rw [w_ne k1], fun k hk => by rw [w_eq, u_ne hk], rfl⟩
  refine ⟨h', ?_, fw.tr r2⟩
  unfold X4_worthByLaw
  have e : lc (wI h 16 7 0) = lc h := by unfold lc; rw [w_ne (by decide)]
  rw [h3, if_neg (show ¬ zN j < 0 from zN_neg0 (by omega)), if_pos (show zN j < 4 by rw [zN_lit, zN_lt (by omega) (by decide)]; exact hj), if_pos (show inB (zN j) 4 from (zN_inB (by omega)).mpr hj), at_22 hj, bp_some, h2, zN_ix (by omega), ha, j_min, bp_some, if_neg (show ¬ Int32.ofNat 240 < zN c.length by rw [show Int32.ofNat 240 = zN 240 from rfl, zN_lt (by decide) (by omega)]; omega)]
  have r1' := r1
  rw [Nat.zero_add, e] at r1'
  exact r1'
def gsM (g : Mm) (a1 b0 s : Nat) : Mm := wR g 251 (fun k => if k = 5 then zN (a1 + 1) else if k = 8 then zN b0 else if k = 9 then zN s else if k = 13 then 121 else if k = 17 then 0 else if k = 14 then 0 else g.1 251 k)
theorem gt_ms {n a1 b0 s : Nat} {g : Mm} : X12_goThrough n a1 (zN b0) (zN s) g = bd (X12_clause n (ms (gsM g a1 b0 s) 0 (-1) (zN 0))) (fun _ h48 => X12_goThrough_32 n a1 n h48) := by
  unfold X12_goThrough X12_starts
  rw [bd_some]
  have e : wI (wI (wI (wI (wI (wI (wI (wI (wI g 251 5 (Int32.ofNat (a1 + 1))) 251 8 (zN b0)) 251 9 (zN s)) 251 10 0) 251 11 (-1)) 251 13 121) 251 12 0) 251 17 0) 251 14 0 = ms (gsM g a1 b0 s) 0 (-1) (zN 0) := by
    unfold ms
    rw [show (gsM g a1 b0 s).1 251 = _ from wr_eq]
    unfold gsM
    rw [wR_wR]
    show wI (wI (wI (wI (wI (wI (wI (wI (wR g 251 (upd (g.1 251) 5 (Int32.ofNat (a1 + 1)))) 251 8 (zN b0)) 251 9 (zN s)) 251 10 0) 251 11 (-1)) 251 13 121) 251 12 0) 251 17 0) 251 14 0 = _
    rw [wI_wR, wI_wR, wI_wR, wI_wR, wI_wR, wI_wR, wI_wR, wI_wR]
    congr 1
    funext k
    by_cases k5 : k = 5
    · subst k5; rfl
    by_cases k8 : k = 8
    · subst k8; rfl
    by_cases k9 : k = 9
    · subst k9; rfl
    by_cases k10 : k = 10
    · subst k10; rfl
    by_cases k11 : k = 11
    · subst k11; rfl
    by_cases k12 : k = 12
    · subst k12; rfl
    by_cases k13 : k = 13
    · subst k13; rfl
    by_cases k14 : k = 14
    · subst k14; rfl
    by_cases k17 : k = 17
    · subst k17; rfl
    rw [u_ne k14, u_ne k17, u_ne k12, u_ne k13, u_ne k11, u_ne k10, u_ne k9, u_ne k8, u_ne k5, if_neg k10, if_neg k11, if_neg k12]
    simp only [if_neg k5, if_neg k8, if_neg k9, if_neg k13, if_neg k17, if_neg k14]
  rw [e]
theorem gs_mt {T : Nat → Nat} {s t b0 : Nat} {g : Mm} (hs : s ≤ 240) (ht : t = 252 ∨ t = 253) (hb : b0 + s ≤ aln t) (hT : ∀ k, k < s → g.1 t (b0 + k) = (zN (T k)).toInt8.toInt32 ∧ 1 ≤ T k ∧ T k ≤ 255) : MT T s t b0 (gsM g t b0 s) := by
  refine ⟨hs, ht, hb, ⟨?_, ?_, ?_⟩, fun k hk => ?_⟩
  · unfold gsM; rw [wr_eq]; rfl
  · unfold gsM; rw [wr_eq]; rfl
  · unfold gsM; rw [wr_eq]; rfl
  · unfold gsM; rw [wr_ne (by omega)]; exact hT k hk
theorem gs_13 {s t b0 : Nat} {g : Mm} : (gsM g t b0 s).1 251 13 = 121 := by unfold gsM; rw [wr_eq]; rfl
theorem gs_i {s t b0 i : Nat} {g : Mm} (hi : i ≠ 251) : (gsM g t b0 s).1 i = g.1 i := by unfold gsM; rw [wr_ne hi]
theorem gs_k {s t b0 k : Nat} {g : Mm} (hk : sc251 k = false) : (gsM g t b0 s).1 251 k = g.1 251 k := by
  unfold sc251 at hk
  simp only [Bool.or_eq_false_iff, beq_eq_false_iff_ne, ne_eq] at hk
  unfold gsM; rw [wr_eq, if_neg (by omega), if_neg (by omega), if_neg (by omega), if_neg (by omega), if_neg (by omega), if_neg (by omega)]
theorem gs_fr {s t b0 p : Nat} {g : Mm} {x : Option Int32} {fl dp : Int32} : FrM g (ms (upF (gsM g t b0 s) x) p fl dp) := by
  refine ⟨fun i hi => by rw [ms_i hi, upF_i hi, gs_i hi], fun k hk => ?_, by show (upF (gsM g t b0 s) x).2 = g.2; rw [upF_2]; rfl⟩
  have hk2 := hk
  unfold sc251 at hk2
  simp only [Bool.or_eq_false_iff, beq_eq_false_iff_ne, ne_eq] at hk2
  rw [ms_k (by omega) (by omega) (by omega), upF_k (by omega) (by omega), gs_k hk]
theorem law_evm {T : Nat → Nat} {s n j : Nat} {ans : (Nat → Int32) → Option Int32} {tx : Nat → Int32} (hj : j < 4) (hs : s ≤ 240) (hT : ∀ k, k < s → tx k = (zN (T k)).toInt8.toInt32 ∧ 1 ≤ T k ∧ T k ≤ 255) (hr : ∀ t b0 g, MT T s t b0 g → g.1 251 13 = 121 → bd (X12_clause n (ms g 0 (-1) (zN 0))) (fun _ h48 => X12_goThrough_32 n 253 n h48) = some ((), ms (upF g (ans (lm g))) s (-1) (zN 0))) : EvM n j tx (zN s) (fun a b c d e f => (ans (L6 a b c d e f)).getD 0) := by
  intro g g1 g2
  have mt : MT T s 253 (240 * j) (gsM g 253 (240 * j) s) := gs_mt hs (Or.inr rfl) (by rw [al_253]; omega) (fun k hk => by rw [g1 k (by omega)]; exact hT k hk)
  refine ⟨_, by rw [gt_ms, hr 253 _ _ mt gs_13], ?_, gs_fr⟩
  have e : lm (gsM g 253 (240 * j) s) = lm g := by unfold lm; rw [gs_i (by decide)]
  have e17 : (gsM g 253 (240 * j) s).1 251 17 = 0 := by unfold gsM; rw [wr_eq]; rfl
  have e14 : (gsM g 253 (240 * j) s).1 251 14 = 0 := by unfold gsM; rw [wr_eq]; rfl
  rw [ms_k (by decide) (by decide) (by decide), e]
  show (upF (gsM g 253 (240 * j) s) (ans (lm g))).1 251 14 = (ans (lm g)).getD 0
  unfold upF
  rw [if_pos e17]
  cases ans (lm g) with
  | none => exact e14
  | some v => show (wI (wI (gsM g 253 (240 * j) s) 251 17 1) 251 14 v).1 251 14 = v; rw [w_eq, u_eq]
