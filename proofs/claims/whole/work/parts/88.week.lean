/-! the tape of a WEEK -/
def FkC (h h' : Mm) : Prop := (∀ i, i ≠ 9 → i ≠ 10 → h'.1 i = h.1 i) ∧ (∀ k, k ≠ 4 → h'.1 9 k = h.1 9 k) ∧ h'.2 = h.2
def FkM (g g' : Mm) : Prop := (∀ i, i ≠ 262 → i ≠ 263 → g'.1 i = g.1 i) ∧ (∀ k, k < 192 → g'.1 262 k = g.1 262 k) ∧ (∀ k, k ≠ 4 → g'.1 263 k = g.1 263 k) ∧ g'.2 = g.2
theorem FkC.rf {h : Mm} : FkC h h := ⟨fun _ _ _ => rfl, fun _ _ => rfl, rfl⟩
theorem FkM.rf {h : Mm} : FkM h h := ⟨fun _ _ _ => rfl, fun _ _ => rfl, fun _ _ => rfl, rfl⟩
theorem FkC.tr {a b c : Mm} (p : FkC a b) (q : FkC b c) : FkC a c := ⟨fun i h1 h2 => (q.1 i h1 h2).trans (p.1 i h1 h2), fun k hk => (q.2.1 k hk).trans (p.2.1 k hk), q.2.2.trans p.2.2⟩
theorem FkM.tr {a b c : Mm} (p : FkM a b) (q : FkM b c) : FkM a c := ⟨fun i h1 h2 => (q.1 i h1 h2).trans (p.1 i h1 h2), fun k hk => (q.2.1 k hk).trans (p.2.1 k hk), fun k hk => (q.2.2.1 k hk).trans (p.2.2.1 k hk), q.2.2.2.trans p.2.2.2⟩
theorem FkC.ct {T : Nat → Nat} {s : Nat} {h h' : Mm} (q : FkC h h') (ct : CT T s h) : CT T s h' := by
  have e1 := q.1 1 (by decide) (by decide)
  have e2 := q.1 2 (by decide) (by decide)
  unfold CT; rw [e1, e2]; exact ct
theorem FkM.mt {T : Nat → Nat} {s : Nat} {g g' : Mm} (q : FkM g g') (mt : MT T s 252 0 g) : MT T s 252 0 g' := by
  have e1 := q.1 251 (by decide) (by decide)
  have e2 := q.1 252 (by decide) (by decide)
  unfold MT; rw [e1, e2]; exact mt
theorem FkC.w10 {h : Mm} {k : Nat} {v : Int32} : FkC h (wI h 10 k v) := ⟨fun i _ h2 => by rw [w_ne h2], fun k _ => by rw [w_ne (by decide)], rfl⟩
theorem FkM.w262 {g : Mm} {k : Nat} {v : Int32} (hk : 192 ≤ k) : FkM g (wI g 262 k v) := ⟨fun i h1 _ => by rw [w_ne h1], fun j hj => by rw [w_eq, u_ne (by omega)], fun j _ => by rw [w_ne (by decide)], rfl⟩
theorem FkM.w263 {g : Mm} {v : Int32} : FkM g (wI g 263 4 v) := ⟨fun i _ h2 => by rw [w_ne h2], fun j hj => by rw [w_ne (by decide)], fun j hj => by rw [w_eq, u_ne hj], rfl⟩
theorem mk_wi {h : Mm} {i k p : Nat} {v : Int32} (hi : i ≠ 1) : wI (mk h p) i k v = mk (wI h i k v) p := wI_comm (Ne.symm hi)
theorem ms_wi {g : Mm} {i k p : Nat} {v fl dp : Int32} (hi : i ≠ 251) : wI (ms g p fl dp) i k v = ms (wI g i k v) p fl dp := by
  have e : (wI g i k v).1 251 = g.1 251 := w_ne (Ne.symm hi)
  unfold ms
  rw [e]
  apply Prod.ext
  · funext a
    by_cases c : a = i
    · subst c; rw [w_eq, wr_ne hi, wr_ne hi, w_eq]
    · rw [w_ne c]
      by_cases c2 : a = 251
      · subst c2; rw [wr_eq, wr_eq]
      · rw [wr_ne c2, wr_ne c2, w_ne c]
  · rfl
theorem c_digit {T : Nat → Nat} {s n p : Nat} {h : Mm} (hn : 20000 ≤ n) (ct : CT T s h) (hp : p ≤ s) : X7_takeDigit n (mk h p) = if dg T s (skp T s p) = true then some (zN (sg T s (skp T s p) - 48), mk h (skp T s p + 1)) else some (-1, mk h (skp T s p)) := by
  unfold X7_takeDigit
  rw [c_sign hn ct hp, bd_some, c_isDigit (sg_le ct _), bp_some]
  show (if dg T s (skp T s p) = true then _ else _) = _
  by_cases d : dg T s (skp T s p) = true
  · rw [if_pos d, if_pos d, mk_inc, show (48 : Int32) = zN 48 from rfl, zN_sub (dg_lt d).2.1]
  · rw [if_neg d, if_neg d]
theorem m_digit {T : Nat → Nat} {s t b0 n p : Nat} {g : Mm} {dp : Int32} (hn : 20000 ≤ n) (mt : MT T s t b0 g) (hp : p ≤ s) : X12_digit n (ms g p (-1) dp) = if dg T s (skp T s p) = true then some (zN (sg T s (skp T s p) - 48), ms g (skp T s p + 1) (-1) dp) else some (0, ms g (skp T s p) (zN (skp T s p)) dp) := by
  have b := skp_b (T := T) hp
  unfold X12_digit
  rw [m_look mt hn hp, bd_some, m_isDig (n := n) mt b.2, bp_some]
  by_cases d : dg T s (skp T s p) = true
  · have d2 := dg_lt d
    rw [if_pos d, if_pos d, ms_inc, show zM (sg T s (skp T s p)) = zN (sg T s (skp T s p)) by unfold zM; rw [if_neg (by omega)], show (48 : Int32) = zN 48 from rfl, zN_sub d2.2.1]
  · rw [if_neg d, if_neg d, m_fail, bd_some]
theorem ix_w : ∀ c, c < 256 → ixN (zN c).toInt8.toInt32 [114, 107, 109, 110, 103] 0 = ixN (zM c) [114, 107, 109, 110, 103] 0 ∧ ((ixN (zM c) [114, 107, 109, 110, 103] 0 = -1) ∨ (c ≠ 0 ∧ (ixN (zM c) [114, 107, 109, 110, 103] 0 = zN 0 ∨ ixN (zM c) [114, 107, 109, 110, 103] 0 = zN 1 ∨ ixN (zM c) [114, 107, 109, 110, 103] 0 = zN 2 ∨ ixN (zM c) [114, 107, 109, 110, 103] 0 = zN 3 ∨ ixN (zM c) [114, 107, 109, 110, 103] 0 = zN 4))) := by decide +kernel
theorem c_65 {n x i a b p : Nat} {h : Mm} (hx : x < 16) : X10_takeStep_65 n (zN x) (zN i) (zN a) (zN b) (mk h p) = if b < 2147483648 then some (true, mk (wI h 10 x (zN (100 * i + 10 * a + b))) p) else X10_takeStep_65 n (zN x) (zN i) (zN a) (zN b) (mk h p) := by
  by_cases c : b < 2147483648
  · rw [if_pos c]
    unfold X10_takeStep_65
    rw [if_pos (show (0 : Int32) ≤ zN b by rw [show (0 : Int32) = zN 0 from rfl, zN_le (by decide) c]; omega), show (100 : Int32) = zN 100 from rfl, show (10 : Int32) = zN 10 from rfl, zN_mul, zN_mul, zN_add, zN_add, pu_10 hx, bd_some, mk_wi (by decide), Nat.mul_comm i 100, Nat.mul_comm a 10]
  · rw [if_neg c]
def G3 (x : Nat) (a b c : Int32) (g g' : Mm) : Prop := FkM g g' ∧ (∀ k, k < 192 + 3 * x → g'.1 262 k = g.1 262 k) ∧ g'.1 262 (192 + 3 * x) = a ∧ g'.1 262 (192 + 3 * x + 1) = b ∧ g'.1 262 (192 + 3 * x + 2) = c
theorem step_sp {T : Nat → Nat} {s n x p : Nat} {h g : Mm} {dp : Int32} (hn : 20000 ≤ n) (h240 : s ≤ 240) (ct : CT T s h) (mt : MT T s 252 0 g) (hp : p ≤ s) (hx : x < 16) :
    (∃ g' Q a, Q ≤ s ∧ X10_takeStep n (zN x) (mk h p) = some (false, mk h Q) ∧ X12_readStep n (zN (192 + 3 * x)) (ms g p (-1) dp) = some ((), ms g' a (zN Q) dp) ∧ FkM g g') ∨
    (∃ v a b c g' p', p < p' ∧ p' ≤ s ∧ stepOK v a b c ∧ X10_takeStep n (zN x) (mk h p) = some (true, mk (wI h 10 x v) p') ∧ X12_readStep n (zN (192 + 3 * x)) (ms g p (-1) dp) = some ((), ms g' p' (-1) dp) ∧ G3 x a b c g g') := by
  have b := skp_b (T := T) hp
  have sl := sg_le ct (skp T s p)
  obtain ⟨i1, i2⟩ := ix_w (sg T s (skp T s p)) (by omega)
  have ec : X10_takeStep n (zN x) (mk h p) = (bd (if ixN (zM (sg T s (skp T s p))) [114, 107, 109, 110, 103] 0 < 0 then some (ixN (zM (sg T s (skp T s p))) [114, 107, 109, 110, 103] 0, mk h (skp T s p)) else some (ixN (zM (sg T s (skp T s p))) [114, 107, 109, 110, 103] 0, mk h (skp T s p + 1))) (fun r32 h34 => (if 0 ≤ r32 then (bp (X11_at 1006 r32 h34) (fun r35 => (if (1 : Int32) ≤ r35 then (bd (X7_takeDigit n h34) (fun r37 h39 => (X10_takeStep_40 n (zN x) r32 r35 r37 h39))) else (X10_takeStep_40 n (zN x) r32 r35 (0 : Int32) h34)))) else (some (false, h34))))) := by
    unfold X10_takeStep
    rw [c_one hn ct hp (show stB 1029 = [114, 107, 109, 110, 103] from rfl) (by decide) (by decide), i1]
  have em : ∀ (gA : Mm), gA = wI (wI (wI g 262 (192 + 3 * x) (ixN (zM (sg T s (skp T s p))) [114, 107, 109, 110, 103] 0)) 262 (192 + 3 * x + 1) (-1)) 262 (192 + 3 * x + 2) (-1) → X12_readStep n (zN (192 + 3 * x)) (ms g p (-1) dp) = if ixN (zM (sg T s (skp T s p))) [114, 107, 109, 110, 103] 0 = -1 then some ((), ms g (skp T s p) (zN (skp T s p)) dp) else if ixN (zM (sg T s (skp T s p))) [114, 107, 109, 110, 103] 0 < 2 then X12_readStep_67 n (zN (192 + 3 * x)) (ixN (zM (sg T s (skp T s p))) [114, 107, 109, 110, 103] 0) (ms gA (skp T s p + 1) (-1) dp) else if ixN (zM (sg T s (skp T s p))) [114, 107, 109, 110, 103] 0 = 4 then X12_readStep_67 n (zN (192 + 3 * x)) (ixN (zM (sg T s (skp T s p))) [114, 107, 109, 110, 103] 0) (ms gA (skp T s p + 1) (-1) dp) else X12_readStep_79 n (zN (192 + 3 * x)) (ixN (zM (sg T s (skp T s p))) [114, 107, 109, 110, 103] 0) (ms gA (skp T s p + 1) (-1) dp) := fun gA eA => by
    unfold X12_readStep X12_spotOf
    rw [m_look mt hn hp, bd_some, show (0 : Int32) = zN 0 from rfl, m_spot (zM (sg T s (skp T s p))) (show stB 1036 = [114, 107, 109, 110, 103] from rfl) (by decide) (chk _ (by
      intro x hx
      simp only [List.mem_cons, List.not_mem_nil, or_false] at hx
      rcases hx with rfl | rfl | rfl | rfl | rfl
      · exact ⟨114, by decide, rfl⟩
      · exact ⟨107, by decide, rfl⟩
      · exact ⟨109, by decide, rfl⟩
      · exact ⟨110, by decide, rfl⟩
      · exact ⟨103, by decide, rfl⟩)) 5 n 0 rfl (by omega), bp_some, List.drop_zero, m_fail, bd_some, show (1 : Int32) = zN 1 from rfl, zN_add, if_pos (show inB (zN (192 + 3 * x)) (aln 262) by rw [al_262, zN_inB (by omega)]; omega), if_pos (show inB (zN (192 + 3 * x + 1)) (aln 262) by rw [al_262, zN_inB (by omega)]; omega), show zN (192 + 3 * x) + (2 : Int32) = zN (192 + 3 * x + 2) from zN_add .., if_pos (show inB (zN (192 + 3 * x + 2)) (aln 262) by rw [al_262, zN_inB (by omega)]; omega), zN_ix (by omega), zN_ix (by omega), zN_ix (by omega), show zN 1 = (1 : Int32) from rfl, ms_inc, ms_wi (by decide), ms_wi (by decide), ms_wi (by decide), eA]
  -- what a sort asks for
  have fa : ∀ (i : Nat), ixN (zM (sg T s (skp T s p))) [114, 107, 109, 110, 103] 0 = zN i → FkM g (wI (wI (wI g 262 (192 + 3 * x) (zN i)) 262 (192 + 3 * x + 1) (-1)) 262 (192 + 3 * x + 2) (-1)) := fun i _ => ((FkM.w262 (by omega)).tr (FkM.w262 (by omega))).tr (FkM.w262 (by omega))
  have a79 : ∀ (gB : Mm) (i q : Nat) (fl : Int32), 2 ≤ i → i < 5 → X12_readStep_79 n (zN (192 + 3 * x)) (zN i) (ms gB q fl dp) = some ((), ms gB q fl dp) := fun gB i q fl h1 h2 => by
    unfold X12_readStep_79
    by_cases c : (ms gB q fl dp).1 251 11 = -1
    · rw [if_pos c, if_pos (show (2 : Int32) ≤ zN i by rw [zN_lit, zN_le (by decide) (by omega)]; exact h1)]
    · rw [if_neg c]
  have a67 : ∀ (gB : Mm) (i q : Nat), MT T s 252 0 gB → q ≤ s → X12_readStep_67 n (zN (192 + 3 * x)) (zN i) (ms gB q (-1) dp) = if dg T s (skp T s q) = true then X12_readStep_79 n (zN (192 + 3 * x)) (zN i) (ms (wI gB 262 (192 + 3 * x + 1) (zN (sg T s (skp T s q) - 48))) (skp T s q + 1) (-1) dp) else some ((), ms (wI gB 262 (192 + 3 * x + 1) 0) (skp T s q) (zN (skp T s q)) dp) := fun gB i q mB hq => by
    unfold X12_readStep_67
    have bq := skp_b (T := T) hq
    rw [m_digit hn mB hq, show zN (192 + 3 * x) + (1 : Int32) = zN (192 + 3 * x + 1) from zN_add ..]
    by_cases d : dg T s (skp T s q) = true
    · rw [if_pos d, if_pos d, bd_some, if_pos (show inB (zN (192 + 3 * x + 1)) (aln 262) by rw [al_262, zN_inB (by omega)]; omega), zN_ix (by omega), ms_wi (by decide)]
    · rw [if_neg d, if_neg d, bd_some, if_pos (show inB (zN (192 + 3 * x + 1)) (aln 262) by rw [al_262, zN_inB (by omega)]; omega), zN_ix (by omega), ms_wi (by decide)]
      unfold X12_readStep_79
      rw [ms_11, if_neg (zN_nm1 (by omega))]
  have a792 : ∀ (gB : Mm) (i q : Nat), MT T s 252 0 gB → q ≤ s → i < 2 → X12_readStep_79 n (zN (192 + 3 * x)) (zN i) (ms gB q (-1) dp) = if dg T s (skp T s q) = true then some ((), ms (wI gB 262 (192 + 3 * x + 2) (zN (sg T s (skp T s q) - 48))) (skp T s q + 1) (-1) dp) else some ((), ms (wI gB 262 (192 + 3 * x + 2) 0) (skp T s q) (zN (skp T s q)) dp) := fun gB i q mB hq hi => by
    unfold X12_readStep_79
    rw [ms_11, if_pos rfl, if_neg (show ¬ (2 : Int32) ≤ zN i by rw [zN_lit, zN_le (by decide) (by omega)]; omega), m_digit hn mB hq, show zN (192 + 3 * x) + (2 : Int32) = zN (192 + 3 * x + 2) from zN_add ..]
    by_cases d : dg T s (skp T s q) = true
    · rw [if_pos d, if_pos d, bd_some, if_pos (show inB (zN (192 + 3 * x + 2)) (aln 262) by rw [al_262, zN_inB (by omega)]; omega), zN_ix (by omega), ms_wi (by decide)]
    · rw [if_neg d, if_neg d, bd_some, if_pos (show inB (zN (192 + 3 * x + 2)) (aln 262) by rw [al_262, zN_inB (by omega)]; omega), zN_ix (by omega), ms_wi (by decide)]
  rcases i2 with e | ⟨nz, i2⟩
  · refine Or.inl ⟨g, skp T s p, skp T s p, b.2, ?_, ?_, FkM.rf⟩
    · rw [ec, e, if_pos (show (-1 : Int32) < 0 by decide), bd_some, if_neg (show ¬ (0 : Int32) ≤ -1 by decide)]
    · rw [em _ rfl, if_pos e]
  · have lt : skp T s p < s := sg_lt nz
    have lt' : skp T s p + 1 ≤ s := lt
    have b1 := skp_b (T := T) (s := s) (p := skp T s p + 1) lt'
    -- two digits
    have two : ∀ i, i < 2 → ixN (zM (sg T s (skp T s p))) [114, 107, 109, 110, 103] 0 = zN i → EX 1006 i = 2 → (∃ g' Q a, Q ≤ s ∧ X10_takeStep n (zN x) (mk h p) = some (false, mk h Q) ∧ X12_readStep n (zN (192 + 3 * x)) (ms g p (-1) dp) = some ((), ms g' a (zN Q) dp) ∧ FkM g g') ∨ (∃ v a b c g' p', p < p' ∧ p' ≤ s ∧ stepOK v a b c ∧ X10_takeStep n (zN x) (mk h p) = some (true, mk (wI h 10 x v) p') ∧ X12_readStep n (zN (192 + 3 * x)) (ms g p (-1) dp) = some ((), ms g' p' (-1) dp) ∧ G3 x a b c g g') := fun i hi e ex => by
      have fA := fa i e
      have mA := fA.mt mt
      have em' := em _ rfl
      rw [e, if_neg (zN_nm1 (by omega)), if_pos (show zN i < 2 by rw [zN_lit, zN_lt (by omega) (by decide)]; exact hi), a67 _ _ _ mA lt'] at em'
      have ec' : X10_takeStep n (zN x) (mk h p) = bd (X7_takeDigit n (mk h (skp T s p + 1))) (fun r37 h39 => (X10_takeStep_40 n (zN x) (zN i) 2 r37 h39)) := by
        rw [ec, e, if_neg (show ¬ zN i < 0 from zN_neg0 (by omega)), bd_some, if_pos (show (0 : Int32) ≤ zN i by rw [show (0 : Int32) = zN 0 from rfl, zN_le (by decide) (by omega)]; omega), at_1006 (by omega), bp_some, ex, if_pos (show (1 : Int32) ≤ 2 by decide)]
      rw [c_digit hn ct lt'] at ec'
      by_cases d : dg T s (skp T s (skp T s p + 1)) = true
      · have d2 := dg_lt d
        have b2 := skp_b (T := T) (s := s) (p := skp T s (skp T s p + 1) + 1) (show skp T s (skp T s p + 1) + 1 ≤ s from d2.1)
        have fB := fA.tr (FkM.w262 (k := 192 + 3 * x + 1) (v := zN (sg T s (skp T s (skp T s p + 1)) - 48)) (by omega))
        rw [if_pos d, a792 _ _ _ (fB.mt mt) (show skp T s (skp T s p + 1) + 1 ≤ s from d2.1) hi] at em'
        rw [if_pos d, bd_some] at ec'
        unfold X10_takeStep_40 at ec'
        rw [if_pos (show (0 : Int32) ≤ zN (sg T s (skp T s (skp T s p + 1)) - 48) by rw [show (0 : Int32) = zN 0 from rfl, zN_le (by decide) (by omega)]; omega), if_pos (show (2 : Int32) ≤ 2 by decide), c_digit hn ct (show skp T s (skp T s p + 1) + 1 ≤ s from d2.1)] at ec'
        by_cases d' : dg T s (skp T s (skp T s (skp T s p + 1) + 1)) = true
        · have d3 := dg_lt d'
          rw [if_pos d'] at em'
          rw [if_pos d', bd_some, c_65 hx, if_pos (by omega)] at ec'
          refine Or.inr ⟨_, zN i, zN (sg T s (skp T s (skp T s p + 1)) - 48), zN (sg T s (skp T s (skp T s (skp T s p + 1) + 1)) - 48), _, _, ?_, ?_, ⟨i, sg T s (skp T s (skp T s p + 1)) - 48, sg T s (skp T s (skp T s (skp T s p + 1) + 1)) - 48, by omega, by omega, by omega, rfl, rfl, Or.inl ⟨by omega, rfl, rfl⟩⟩, ec', em', fB.tr (FkM.w262 (by omega)), ?_, ?_, ?_, ?_⟩
          · omega
          · omega
          · intro k hk; simp (disch := omega) only [w_eq, u_ne]
          · simp (disch := omega) only [w_eq, u_ne, u_eq]
          · simp (disch := omega) only [w_eq, u_ne, u_eq]
          · simp (disch := omega) only [w_eq, u_ne, u_eq]
        · rw [if_neg d'] at em'
          rw [if_neg d', bd_some] at ec'
          exact Or.inl ⟨_, _, _, b2.2, ec', em', fB.tr (FkM.w262 (by omega))⟩
      · rw [if_neg d] at em'
        rw [if_neg d, bd_some] at ec'
        exact Or.inl ⟨_, _, _, b1.2, ec', em', fA.tr (FkM.w262 (by omega))⟩
    have none' : ∀ i, 2 ≤ i → i < 4 → ixN (zM (sg T s (skp T s p))) [114, 107, 109, 110, 103] 0 = zN i → EX 1006 i = 0 → (∃ g' Q a, Q ≤ s ∧ X10_takeStep n (zN x) (mk h p) = some (false, mk h Q) ∧ X12_readStep n (zN (192 + 3 * x)) (ms g p (-1) dp) = some ((), ms g' a (zN Q) dp) ∧ FkM g g') ∨ (∃ v a b c g' p', p < p' ∧ p' ≤ s ∧ stepOK v a b c ∧ X10_takeStep n (zN x) (mk h p) = some (true, mk (wI h 10 x v) p') ∧ X12_readStep n (zN (192 + 3 * x)) (ms g p (-1) dp) = some ((), ms g' p' (-1) dp) ∧ G3 x a b c g g') := fun i h2 hi e ex => by
      have fA := fa i e
      have em' := em _ rfl
      rw [e, if_neg (zN_nm1 (by omega)), if_neg (show ¬ zN i < 2 by rw [zN_lit, zN_lt (by omega) (by decide)]; omega), if_neg (show ¬ zN i = 4 by rw [zN_lit, zN_eq (by omega) (by decide)]; omega), a79 _ _ _ _ h2 (by omega)] at em'
      have ec' : X10_takeStep n (zN x) (mk h p) = X10_takeStep_40 n (zN x) (zN i) 0 (zN 0) (mk h (skp T s p + 1)) := by
        rw [ec, e, if_neg (show ¬ zN i < 0 from zN_neg0 (by omega)), bd_some, if_pos (show (0 : Int32) ≤ zN i by rw [show (0 : Int32) = zN 0 from rfl, zN_le (by decide) (by omega)]; omega), at_1006 (by omega), bp_some, ex, if_neg (show ¬ (1 : Int32) ≤ 0 by decide)]
        rfl
      unfold X10_takeStep_40 at ec'
      rw [if_pos (show (0 : Int32) ≤ zN 0 by decide), if_neg (show ¬ (2 : Int32) ≤ 0 by decide), show (0 : Int32) = zN 0 from rfl, c_65 hx, if_pos (by decide)] at ec'
      refine Or.inr ⟨_, zN i, -1, -1, _, _, ?_, lt', ⟨i, 0, 0, by omega, by omega, by omega, rfl, rfl, Or.inr (Or.inr ⟨by omega, rfl, rfl, rfl, rfl⟩)⟩, ec', em', fA, ?_, ?_, ?_, ?_⟩
      · omega
      · intro k hk; simp (disch := omega) only [w_eq, u_ne]
      · simp (disch := omega) only [w_eq, u_ne, u_eq]
      · simp (disch := omega) only [w_eq, u_ne, u_eq]
      · simp (disch := omega) only [w_eq, u_ne, u_eq]
    rcases i2 with e | e | e | e | e
    · exact two 0 (by omega) e (by decide)
    · exact two 1 (by omega) e (by decide)
    · exact none' 2 (by omega) (by omega) e (by decide)
    · exact none' 3 (by omega) (by omega) e (by decide)
    · have fA := fa 4 e
      have mA := fA.mt mt
      have em' := em _ rfl
      rw [e, if_neg (show ¬ zN 4 = -1 by decide), if_neg (show ¬ zN 4 < 2 by decide), if_pos (show zN 4 = 4 from rfl), a67 _ _ _ mA lt'] at em'
      have ec' : X10_takeStep n (zN x) (mk h p) = bd (X7_takeDigit n (mk h (skp T s p + 1))) (fun r37 h39 => (X10_takeStep_40 n (zN x) (zN 4) 1 r37 h39)) := by
        rw [ec, e, if_neg (show ¬ zN 4 < 0 by decide), bd_some, if_pos (show (0 : Int32) ≤ zN 4 by decide), at_1006 (by omega), bp_some, show EX 1006 4 = 1 by decide, if_pos (show (1 : Int32) ≤ 1 by decide)]
      rw [c_digit hn ct lt'] at ec'
      by_cases d : dg T s (skp T s (skp T s p + 1)) = true
      · have d2 := dg_lt d
        rw [if_pos d, a79 _ _ _ _ (by omega) (by omega)] at em'
        rw [if_pos d, bd_some] at ec'
        unfold X10_takeStep_40 at ec'
        rw [if_pos (show (0 : Int32) ≤ zN (sg T s (skp T s (skp T s p + 1)) - 48) by rw [show (0 : Int32) = zN 0 from rfl, zN_le (by decide) (by omega)]; omega), if_neg (show ¬ (2 : Int32) ≤ 1 by decide), show (0 : Int32) = zN 0 from rfl, c_65 hx, if_pos (by decide)] at ec'
        refine Or.inr ⟨_, zN 4, zN (sg T s (skp T s (skp T s p + 1)) - 48), -1, _, _, ?_, ?_, ⟨4, sg T s (skp T s (skp T s p + 1)) - 48, 0, by omega, by omega, by omega, rfl, rfl, Or.inr (Or.inl ⟨rfl, rfl, rfl, rfl⟩)⟩, ec', em', fA.tr (FkM.w262 (by omega)), ?_, ?_, ?_, ?_⟩
        · omega
        · omega
        · intro k hk; simp (disch := omega) only [w_eq, u_ne]
        · simp (disch := omega) only [w_eq, u_ne, u_eq]
        · simp (disch := omega) only [w_eq, u_ne, u_eq]
        · simp (disch := omega) only [w_eq, u_ne, u_eq]
      · rw [if_neg d] at em'
        rw [if_neg d, bd_some] at ec'
        exact Or.inl ⟨_, _, _, b1.2, ec', em', fA.tr (FkM.w262 (by omega))⟩
