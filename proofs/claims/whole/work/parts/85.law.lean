/-! clauses, laws -/
def upF (g : Mm) (a : Option Int32) : Mm := if g.1 251 17 = 0 then (match a with
  | some v => wI (wI g 251 17 1) 251 14 v
  | none => g) else g
theorem ms_wk {g : Mm} {p k : Nat} {fl dp v : Int32} (h1 : k ≠ 10) (h2 : k ≠ 11) (h3 : k ≠ 12) : wI (ms g p fl dp) 251 k v = ms (wI g 251 k v) p fl dp := by
  unfold ms
  rw [wI_wR]
  show _ = wR (wR g 251 (upd (g.1 251) k v)) 251 _
  rw [wR_wR]
  congr 1
  funext j
  have e : (wI g 251 k v).1 251 j = upd (g.1 251) k v j := by rw [w_eq]
  by_cases c : j = k
  · subst c; rw [u_eq, if_neg h1, if_neg h2, if_neg h3, e, u_eq]
  · rw [u_ne c, e, u_ne c]
theorem upF_k {g : Mm} {a : Option Int32} {k : Nat} (h1 : k ≠ 14) (h2 : k ≠ 17) : (upF g a).1 251 k = g.1 251 k := by
  unfold upF
  by_cases c : g.1 251 17 = 0
  · rw [if_pos c]
    cases a with
    | none => rfl
    | some v => show (wI (wI g 251 17 1) 251 14 v).1 251 k = _; rw [w_eq, u_ne h1, w_eq, u_ne h2]
  · rw [if_neg c]
theorem upF_i {g : Mm} {a : Option Int32} {i : Nat} (hi : i ≠ 251) : (upF g a).1 i = g.1 i := by
  unfold upF
  by_cases c : g.1 251 17 = 0
  · rw [if_pos c]
    cases a with
    | none => rfl
    | some v => show (wI (wI g 251 17 1) 251 14 v).1 i = _; rw [w_ne hi, w_ne hi]
  · rw [if_neg c]
theorem upF_2 {g : Mm} {a : Option Int32} : (upF g a).2 = g.2 := by
  unfold upF
  by_cases c : g.1 251 17 = 0
  · rw [if_pos c]
    cases a <;> rfl
  · rw [if_neg c]
theorem upF_lm {g : Mm} {a : Option Int32} : lm (upF g a) = lm g := by unfold lm; rw [upF_i (by decide)]
theorem upF_mt {T : Nat → Nat} {s t b0 : Nat} {g : Mm} {a : Option Int32} (mt : MT T s t b0 g) : MT T s t b0 (upF g a) := by
  obtain ⟨m1, m2, m3, ⟨m4, m5, m6⟩, m7⟩ := mt
  exact ⟨m1, m2, m3, ⟨by rw [upF_k (by decide) (by decide)]; exact m4, by rw [upF_k (by decide) (by decide)]; exact m5, by rw [upF_k (by decide) (by decide)]; exact m6⟩, fun k hk => by rw [upF_i (by omega)]; exact m7 k hk⟩
def orA : Option Int32 → Option Int32 → Option Int32
  | some v, _ => some v
  | none, b => b
theorem upF_upF {g : Mm} {a b : Option Int32} : upF (upF g a) b = upF g (orA a b) := by
  cases a with
  | none =>
    have e : upF g none = g := by unfold upF; split <;> rfl
    rw [e]; rfl
  | some v =>
    show upF (upF g (some v)) b = upF g (some v)
    by_cases c : g.1 251 17 = 0
    · have e1 : upF g (some v) = wI (wI g 251 17 1) 251 14 v := by unfold upF; rw [if_pos c]
      rw [e1]
      have e2 : (wI (wI g 251 17 1) 251 14 v).1 251 17 = 1 := by rw [w_eq, u_ne (by decide), w_eq, u_eq]
      unfold upF
      rw [e2, if_neg (by decide)]
    · have e1 : ∀ x, upF g x = g := fun x => by unfold upF; rw [if_neg c]
      rw [e1, e1]
/-- a clause, run from a bare stack -/
def CLX (cl : Nat → List Int32) (ln : Nat) (ans : (Nat → Int32) → Option Int32) : Prop :=
  ∀ (n row e k f : Nat) (h : Mm), 18 ≤ row → row ≤ 21 → At (h.1 row) k (cl k) → k + ln ≤ e → e ≤ 240 → h.1 16 7 = zN 0 → Lb (lc h) →
    (∀ v, ans (lc h) = some v → ∃ h', X4_worthByLaw_55 n (f + ln) row (zN e) (zN k) h = some (v, h') ∧ FrW h h') ∧
    (ans (lc h) = none → ∃ h' f', f ≤ f' ∧ X4_worthByLaw_55 n (f + ln) row (zN e) (zN k) h = X4_worthByLaw_55 n f' row (zN e) (zN (k + ln)) h' ∧ h'.1 16 7 = zN 0 ∧ FrW h h')
theorem CLX_sum {c : List Int32} {m : Nat} {v : (Nat → Int32) → Int32} (q : Ex c m v) (hm : m ≤ 60) : CLX (fun _ => c ++ [-17]) (c.length + 1) (fun L => some (v L)) := by
  intro n row e k f h a1 a2 a3 a4 a5 a6 a7
  refine ⟨fun w ew => ?_, fun z => by cases z⟩
  obtain ⟨b1, b2⟩ := (At_app c [-17] k).mp a3
  obtain ⟨h1, r1, r2, r3, r4, r5⟩ := q.1 n row e k 0 (f + 1) h a1 a2 b1 (by omega) a5 (by omega) a6 a7
  have ao : h1.1 row (k + c.length) = -17 := by rw [r5.1 row (by omega) (by omega)]; exact b2.1
  refine ⟨wI h1 16 7 (zN 0), ?_, r5.tr ⟨fun i k1 k2 => by rw [w_ne k1], fun j hj => by rw [w_eq, u_ne hj], rfl⟩⟩
  rw [show f + (c.length + 1) = f + 1 + c.length by omega, r1, X4_worthByLaw_55]
  rw [if_neg (show ¬ zN e ≤ zN (k + c.length) by rw [zN_le (by omega) (by omega)]; omega), if_pos (show inB (zN (k + c.length)) (aln row) by rw [aln_row a1 a2, zN_inB (by omega)]; omega), zN_ix (by omega), ao, if_pos rfl, c_pop (t := 0) r2 (by omega), bd_some, r3]
  rw [Option.some.inj ew]
theorem lp_f {x : Nat} (hx : x ≤ 240) : ¬ (-100 : Int32) - zN x = -17 ∧ ¬ (-100 : Int32) < (-100 : Int32) - zN x ∧ (-100 : Int32) - ((-100 : Int32) - zN x) = zN x := by
  have e : ∀ x, x < 241 → ¬ (-100 : Int32) - zN x = -17 ∧ ¬ (-100 : Int32) < (-100 : Int32) - zN x ∧ (-100 : Int32) - ((-100 : Int32) - zN x) = zN x := by decide +kernel
  exact e x (by omega)
theorem CLX_if {c1 c2 : List Int32} {m1 m2 : Nat} {vb : (Nat → Int32) → Bool} {v : (Nat → Int32) → Int32} (q1 : Ex c1 m1 (fun L => b01 (vb L))) (q2 : Ex c2 m2 v) (hm1 : m1 ≤ 60) (hm2 : m2 ≤ 60) : CLX (fun k => c1 ++ ([(-100 : Int32) - zN (k + (c1.length + 1 + (c2.length + 1)))] ++ (c2 ++ [-17]))) (c1.length + 1 + (c2.length + 1)) (fun L => if vb L = true then some (v L) else none) := by
  intro n row e k f h a1 a2 a3 a4 a5 a6 a7
  obtain ⟨b1, b2⟩ := (At_app c1 _ k).mp a3
  obtain ⟨b3, b4⟩ := (At_app [(-100 : Int32) - zN (k + (c1.length + 1 + (c2.length + 1)))] (c2 ++ [-17]) (k + c1.length)).mp b2
  obtain ⟨h1, r1, r2, r3, r4, r5⟩ := q1.1 n row e k 0 (f + 1 + (c2.length + 1)) h a1 a2 b1 (by omega) a5 (by omega) a6 a7
  have ao : h1.1 row (k + c1.length) = (-100 : Int32) - zN (k + (c1.length + 1 + (c2.length + 1))) := by rw [r5.1 row (by omega) (by omega)]; exact b3.1
  obtain ⟨l1, l2, l3⟩ := lp_f (x := k + (c1.length + 1 + (c2.length + 1))) (by omega)
  have ew : FrW h1 (wI h1 16 7 (zN 0)) := ⟨fun i k1 k2 => by rw [w_ne k1], fun j hj => by rw [w_eq, u_ne hj], rfl⟩
  have step : X4_worthByLaw_55 n (f + (c1.length + 1 + (c2.length + 1))) row (zN e) (zN k) h = (if b01 (vb (lc h)) = 0 then X4_worthByLaw_55 n (f + (c2.length + 1)) row (zN e) (zN (k + (c1.length + 1 + (c2.length + 1)))) (wI h1 16 7 (zN 0)) else X4_worthByLaw_55 n (f + (c2.length + 1)) row (zN e) (zN (k + c1.length + 1)) (wI h1 16 7 (zN 0))) := by
    rw [show f + (c1.length + 1 + (c2.length + 1)) = f + 1 + (c2.length + 1) + c1.length by omega, r1, show f + 1 + (c2.length + 1) = f + (c2.length + 1) + 1 by omega, X4_worthByLaw_55]
    unfold X4_worthByLaw_106 X4_worthByLaw_221
    rw [if_neg (show ¬ zN e ≤ zN (k + c1.length) by rw [zN_le (by omega) (by omega)]; omega), if_pos (show inB (zN (k + c1.length)) (aln row) by rw [aln_row a1 a2, zN_inB (by omega)]; omega), zN_ix (by omega), ao, if_neg l1, if_neg l2, c_pop (t := 0) r2 (by omega), bd_some, r3, l3, sN1, show (1 : Int32) = zN 1 from rfl, zN_sub (by omega), j_max, bp_some, if_pos (show zN (k + c1.length) < zN (k + (c1.length + 1 + (c2.length + 1)) - 1) from (zN_lt (by omega) (by omega)).mpr (by omega)), zN_add, show k + (c1.length + 1 + (c2.length + 1)) - 1 + 1 = k + (c1.length + 1 + (c2.length + 1)) by omega]
  refine ⟨fun w ew2 => ?_, fun z => ?_⟩
  · have ew2 : (if vb (lc h) = true then some (v (lc h)) else none) = some w := ew2
    by_cases y : vb (lc h) = true
    · rw [if_pos y] at ew2
      rw [step, if_neg (show ¬ b01 (vb (lc h)) = 0 by rw [y]; decide)]
      have q3 := (CLX_sum q2 hm2) n row e (k + c1.length + 1) f (wI h1 16 7 (zN 0)) a1 a2 (by rw [w_ne (by omega), r5.1 row (by omega) (by omega)]; exact b4) (by omega) a5 (by rw [w_eq, u_eq]) (by rw [ew.lcc, r5.lcc]; exact a7)
      obtain ⟨h', s1, s2⟩ := q3.1 w (by rw [ew.lcc, r5.lcc]; exact ew2)
      exact ⟨h', s1, (r5.tr ew).tr s2⟩
    · rw [if_neg y] at ew2; cases ew2
  · have z : (if vb (lc h) = true then some (v (lc h)) else none) = none := z
    by_cases y : vb (lc h) = true
    · rw [if_pos y] at z; cases z
    · rw [Bool.not_eq_true] at y
      rw [step, if_pos (show b01 (vb (lc h)) = 0 by rw [y]; rfl)]
      exact ⟨_, f + (c2.length + 1), by omega, rfl, by rw [w_eq, u_eq], r5.tr ew⟩
def CLP (T : Nat → Nat) (s n p : Nat) : Prop :=
  (∃ Q, p ≤ Q ∧ Q ≤ s ∧ (∀ h O k, CT T s h → k ≤ p → ∃ O' k', X3_takeClause n (stL h p O k) = some (false, stL h Q O' k')) ∧ (∀ t b0 g, MT T s t b0 g → g.1 251 13 = 121 → ∃ a d', X12_clause n (ms g p (-1) (zN 0)) = some ((), ms g a (zN Q) d'))) ∨
  (∃ p' cl ln ans, p < p' ∧ p' ≤ s ∧ ln + 1 ≤ p' - p ∧ (∀ k, (cl k).length = ln) ∧ CLX cl ln ans ∧ (∀ h O k, CT T s h → k ≤ p → X3_takeClause n (stL h p O k) = some (true, stL h p' (wrL O k (cl k)) (k + ln))) ∧ (∀ t b0 g, MT T s t b0 g → g.1 251 13 = 121 → X12_clause n (ms g p (-1) (zN 0)) = some ((), ms (upF g (ans (lm g))) p' (-1) (zN 0))))
theorem ix_1024 : ∀ c, c < 256 → ixN (zN c).toInt8.toInt32 [33, 40] 0 = if c = 33 then zN 0 else if c = 40 then zN 1 else -1 := by decide +kernel
theorem m_own {n c : Nat} {g : Mm} (hn : 20000 ≤ n) (hc : c ≤ 255) : X12_isAmong n 1031 (zM c) g = some (decide (c = 121)) := by
  unfold X12_isAmong
  have e : ∀ c, c < 256 → decide (ixN (zM c) [121] 0 ≠ -1) = decide (c = 121) := by decide +kernel
  rw [← e c (by omega)]
  exact m_among (zM c) (show stB 1031 = [121] from rfl) (by decide) (chk _ (by
    intro x hx
    simp only [List.mem_cons, List.not_mem_nil, or_false] at hx
    exact ⟨121, by decide, hx⟩)) 1 n 0 rfl (by omega)
theorem m_134 {n p : Nat} {g : Mm} {b : Bool} {v : Int32} (h13 : g.1 251 13 = 121) : X12_clause_134 n (zN 121) b v (ms g p (-1) (zN 0)) = some ((), ms (upF g (if b = true then some v else none)) p (-1) (zN 0)) := by
  unfold X12_clause_134 upF
  rw [ms_11, if_pos rfl, ms_k (by decide) (by decide) (by decide), ms_k (by decide) (by decide) (by decide), h13]
  by_cases c : g.1 251 17 = 0
  · rw [if_pos c, if_pos c, if_pos (show zN 121 = 121 from rfl), ms_wk (by decide) (by decide) (by decide), ms_wk (by decide) (by decide) (by decide)]
    cases b <;> rfl
  · rw [if_neg c, if_neg c]
theorem m_134f {n p q : Nat} {g : Mm} {b : Bool} {v dp : Int32} {x : Int32} (hq : q < 2147483648) : X12_clause_134 n x b v (ms g p (zN q) dp) = some ((), ms g p (zN q) dp) := by
  unfold X12_clause_134
  rw [ms_11, if_neg (zN_nm1 hq)]
theorem wrL_u : ∀ (c : List Int32) (O : Nat → Int32) (k j : Nat) (v : Int32), j < k → wrL (upd O j v) k c = upd (wrL O k c) j v
  | [], _, _, _, _, _ => rfl
  | o :: c, O, k, j, v, h => by
    show wrL (upd (upd O j v) k o) (k + 1) c = upd (wrL (upd O k o) (k + 1) c) j v
    have e : upd (upd O j v) k o = upd (upd O k o) j v := funext fun q => by
      by_cases c1 : q = k
      · subst c1; rw [u_eq, u_ne (by omega), u_eq]
      · rw [u_ne c1]
        by_cases c2 : q = j
        · subst c2; rw [u_eq, u_eq]
        · rw [u_ne c2, u_ne c2, u_ne c1]
    rw [e, wrL_u c (upd O k o) (k + 1) j v (by omega)]
theorem upd_in (O : Nat → Int32) (a x y : Int32) (j k : Nat) (c : List Int32) (h : j < k) : upd (upd (wrL (upd O j a) k c) (k + c.length) x) j y = upd (wrL (upd O j y) k c) (k + c.length) x := by
  rw [wrL_u c O k j a h, wrL_u c O k j y h]
  funext q
  by_cases c1 : q = j
  · subst c1; rw [u_eq, u_ne (by omega), u_eq]
  · rw [u_ne c1]
    by_cases c2 : q = k + c.length
    · subst c2; rw [u_eq, u_eq]
    · rw [u_ne c2, u_ne c2, u_ne c1, u_ne c1]
/-- behind its condition: a ?, a sum -/
theorem tail88 {T : Nat → Nat} {s n p p0 : Nat} {x1 : Bool} {c0 : List Int32} {FG : Mm → Option (Bool × Mm)} (hn : 20000 ≤ n) (h240 : s ≤ 240) (h2 : 2 ≤ p) (hp0 : p0 + 2 ≤ p) (hc0 : p0 + c0.length + 2 ≤ p) (hb : BG T s 18 (X3_takeCondition n (X3_takeInnerUnit n 9) (zN 0) x1) FG p 0 c0) :
    (∃ Q, p ≤ Q ∧ Q ≤ s ∧ (∀ h O k, CT T s h → k ≤ p0 → ∃ O' k', X3_takeClause_88 n x1 (stL h p (wrL O k c0) (k + c0.length)) = some (false, stL h Q O' k')) ∧ (∀ t b0 g, MT T s t b0 g → g.1 251 13 = 121 → ∃ a d', bd (FG g) (fun r81 h83 => (bd (X12_takes n (63 : Int32) h83) (fun r84 h86 => (if r84 = true then (bd (X12_sum n (X12_atom n 9) h86) (fun r87 h89 => (X12_clause_134 n (zN 121) r81 r87 h89))) else (some ((), h86)))))) = some ((), ms g a (zN Q) d'))) ∨
    (∃ p' cl ln ans, p < p' ∧ p' ≤ s ∧ ln + 1 ≤ p' - p0 ∧ (∀ k, (cl k).length = ln) ∧ CLX cl ln ans ∧ (∀ h O k, CT T s h → k ≤ p0 → X3_takeClause_88 n x1 (stL h p (wrL O k c0) (k + c0.length)) = some (true, stL h p' (wrL O k (cl k)) (k + ln))) ∧ (∀ t b0 g, MT T s t b0 g → g.1 251 13 = 121 → bd (FG g) (fun r81 h83 => (bd (X12_takes n (63 : Int32) h83) (fun r84 h86 => (if r84 = true then (bd (X12_sum n (X12_atom n 9) h86) (fun r87 h89 => (X12_clause_134 n (zN 121) r81 r87 h89))) else (some ((), h86)))))) = some ((), ms (upF g (ans (lm g))) p' (-1) (zN 0)))) := by
  rcases hb with ⟨Q, a1, a2, a3, a4⟩ | ⟨p2, c2, v2, a1, a2, a3, a4, a5, a6⟩
  · refine Or.inl ⟨Q, a1, a2, fun h O k ct hk => ?_, fun t b0 g mt h13 => ?_⟩
    · obtain ⟨O', k', e5⟩ := a3 h O k ct (by omega)
      refine ⟨O', k', ?_⟩
      unfold X3_takeClause_88
      rw [show (0 : Int32) = zN 0 from rfl, e5, bd_some, if_neg (show ¬ (false = true) by decide)]
    · obtain ⟨v, a', d', e5⟩ := a4 t b0 g mt
      rw [e5, bd_some, show (63 : Int32) = zN 63 from rfl, m_takes2 (by omega), bd_some, if_neg (show ¬ (false = true) by decide)]
      exact ⟨a', d', rfl⟩
  · have b2 := skp_b (T := T) a2
    by_cases z : sg T s (skp T s p2) = 63
    · have lt2 : skp T s p2 < s := sg_lt (T := T) (show sg T s (skp T s p2) ≠ 0 by omega)
      have cst : ∀ (h : Mm) (O : Nat → Int32) (k : Nat), CT T s h → k ≤ p0 → X3_takeClause_88 n x1 (stL h p (wrL O k c0) (k + c0.length)) = bd (X3_takeSum n (X3_takeAtom n 9) (zN 0) (stL h (skp T s p2 + 1) (wrL O k (c2 ++ [-100])) (k + (c2.length + 1)))) (fun r86 h88 => (if r86 = true then (bd (X3_order (-17 : Int32) h88) (fun _ h91 => (bd (X11_put 8 (zN (k + c2.length)) ((-100 : Int32) - (h91.1 7 2)) h91) (fun _ h94 => (some (true, h94)))))) else (some (false, h88)))) := fun h O k ct hk => by
        unfold X3_takeClause_88
        rw [show (0 : Int32) = zN 0 from rfl, a5 h O k ct (by omega), bd_some, if_pos rfl]
        show bd (X7_take n 63 (mk (ob h (wrL O k c2) (k + c2.length)) p2)) _ = _
        rw [show (63 : Int32) = zN 63 from rfl, c_take hn ct.ob a2 (by decide), if_pos z, bd_some, if_pos rfl]
        show bd (X3_order (-100) (stL h (skp T s p2 + 1) (wrL O k c2) (k + c2.length))) _ = _
        rw [c_order (by omega), bd_some]
        have e7 : (mk (ob h (wrL O k c2) (k + c2.length)) (skp T s p2 + 1)).1 7 2 = zN (k + c2.length) := st_72
        rw [e7, wrL_app]
        rfl
      rcases sum_all (T := T) (n := n) (d := 0) (p := skp T s p2 + 1) hn h240 (by omega) (by omega) (by omega) with ⟨Q, u1, u2, u3, u4⟩ | ⟨p3, c3, v3, u1, u2, u3, u4, u5, u6⟩
      · refine Or.inl ⟨Q, by omega, u2, fun h O k ct hk => ?_, fun t b0 g mt h13 => ?_⟩
        · obtain ⟨O', k', e5⟩ := u3 h (wrL O k (c2 ++ [-100])) (k + (c2.length + 1)) ct (by omega)
          refine ⟨O', k', ?_⟩
          rw [cst h O k ct hk, e5, bd_some, if_neg (show ¬ (false = true) by decide)]
        · obtain ⟨v, a', d', e5⟩ := u4 t b0 g mt
          rw [a6 t b0 g mt, bd_some, show (63 : Int32) = zN 63 from rfl, m_takes mt hn a2 (by decide) (by decide), if_pos z, bd_some, if_pos rfl, e5, bd_some, m_134f (by omega)]
          exact ⟨a', d', rfl⟩
      · have len : ∀ k, (c2 ++ ([(-100 : Int32) - zN (k + (c2.length + 1 + (c3.length + 1)))] ++ (c3 ++ [-17]))).length = c2.length + 1 + (c3.length + 1) := fun k => by
          rw [List.length_append, List.length_append, List.length_append]
          show c2.length + (1 + (c3.length + 1)) = _
          omega
        refine Or.inr ⟨p3, fun k => c2 ++ ([(-100 : Int32) - zN (k + (c2.length + 1 + (c3.length + 1)))] ++ (c3 ++ [-17])), c2.length + 1 + (c3.length + 1), fun L => if v2 L = true then some (v3 L) else none, by omega, u2, by omega, len, CLX_if a4 u4 (by omega) (by omega), fun h O k ct hk => ?_, fun t b0 g mt h13 => ?_⟩
        · rw [cst h O k ct hk, u5 h _ _ ct (by omega), bd_some, if_pos rfl, c_order (by omega), bd_some, st_72, pu_8 (by omega), bd_some]
          have ek : k + (c2.length + 1) + c3.length + 1 = k + (c2.length + 1 + (c3.length + 1)) := by omega
          rw [ek]
          congr 2
          -- the leap is filled in
          have e1 : ∀ (p k q : Nat) (O : Nat → Int32) (v : Int32), wI (stL h p O k) 8 q v = stL h p (upd O q v) k := fun p k q O v => by
            unfold stL mk ob
            rw [wI_comm (i := 1) (j := 8) (by decide), wI_comm (i := 7) (j := 8) (by decide), wI_wR]
          rw [e1]
          congr 1
          show _ = wrL O k (c2 ++ ([(-100 : Int32) - zN (k + (c2.length + 1 + (c3.length + 1)))] ++ (c3 ++ [-17])))
          rw [wrL_app c2 [-100] O k, wrL_app c2 ([(-100 : Int32) - zN (k + (c2.length + 1 + (c3.length + 1)))] ++ (c3 ++ [-17])) O k]
          show upd (upd (wrL (upd (wrL O k c2) (k + c2.length) (-100)) (k + (c2.length + 1)) c3) (k + (c2.length + 1) + c3.length) (-17)) (k + c2.length) _ = wrL (upd (wrL O k c2) (k + c2.length) _) (k + c2.length + 1) (c3 ++ [-17])
          rw [wrL_app c3 [-17], show k + (c2.length + 1) = k + c2.length + 1 by omega]
          show upd (upd (wrL (upd (wrL O k c2) (k + c2.length) (-100)) (k + c2.length + 1) c3) (k + c2.length + 1 + c3.length) (-17)) (k + c2.length) _ = upd (wrL (upd (wrL O k c2) (k + c2.length) _) (k + c2.length + 1) c3) (k + c2.length + 1 + c3.length) (-17)
          exact upd_in _ _ _ _ _ _ _ (by omega)
        · rw [a6 t b0 g mt, bd_some, show (63 : Int32) = zN 63 from rfl, m_takes mt hn a2 (by decide) (by decide), if_pos z, bd_some, if_pos rfl, u6 t b0 g mt, bd_some, m_134 h13]
    · refine Or.inl ⟨skp T s p2, by omega, b2.2, fun h O k ct hk => ⟨wrL O k c2, k + c2.length, ?_⟩, fun t b0 g mt h13 => ⟨skp T s p2, zN 0, ?_⟩⟩
      · unfold X3_takeClause_88
        rw [show (0 : Int32) = zN 0 from rfl, a5 h O k ct (by omega), bd_some, if_pos rfl]
        show bd (X7_take n 63 (mk (ob h (wrL O k c2) (k + c2.length)) p2)) _ = _
        rw [show (63 : Int32) = zN 63 from rfl, c_take hn ct.ob a2 (by decide), if_neg z, bd_some, if_neg (show ¬ (false = true) by decide)]
        rfl
      · rw [a6 t b0 g mt, bd_some, show (63 : Int32) = zN 63 from rfl, m_takes mt hn a2 (by decide) (by decide), if_neg z, bd_some, if_neg (show ¬ (false = true) by decide)]
