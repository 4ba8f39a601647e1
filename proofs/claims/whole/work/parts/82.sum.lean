/-! the text of a LAW: sums -/
theorem wI_comm {h : Mm} {i j a b : Nat} {v w : Int32} (hij : i ≠ j) : wI (wI h i a v) j b w = wI (wI h j b w) i a v := by
  have e1 : (wI h i a v).1 j = h.1 j := w_ne (fun z => hij z.symm)
  have e2 : (wI h j b w).1 i = h.1 i := w_ne hij
  show wR (wI h i a v) j (upd ((wI h i a v).1 j) b w) = wR (wI h j b w) i (upd ((wI h j b w).1 i) a v)
  rw [e1, e2]
  unfold wI wR
  refine Prod.ext (funext fun q => ?_) rfl
  show (if q = j then upd (h.1 j) b w else if q = i then upd (h.1 i) a v else h.1 q) = (if q = i then upd (h.1 i) a v else if q = j then upd (h.1 j) b w else h.1 q)
  by_cases c : q = j
  · rw [if_pos c, if_neg (by omega), if_pos c]
  · rw [if_neg c, if_neg c]
def ob (h : Mm) (O : Nat → Int32) (k : Nat) : Mm := wI (wR h 8 O) 7 2 (zN k)
def stL (h : Mm) (p : Nat) (O : Nat → Int32) (k : Nat) : Mm := mk (ob h O k) p
theorem ob_i {h : Mm} {O : Nat → Int32} {k i : Nat} (h7 : i ≠ 7) (h8 : i ≠ 8) : (ob h O k).1 i = h.1 i := by unfold ob; rw [w_ne h7, wr_ne h8]
theorem CT.ob {T : Nat → Nat} {s k : Nat} {h : Mm} {O : Nat → Int32} (ct : CT T s h) : CT T s (ob h O k) := by
  obtain ⟨c1, c2, c3⟩ := ct
  refine ⟨c1, by rw [ob_i (by decide) (by decide)]; exact c2, fun j hj => by rw [ob_i (by decide) (by decide)]; exact c3 j hj⟩
theorem st_72 {h : Mm} {p k : Nat} {O : Nat → Int32} : (stL h p O k).1 7 2 = zN k := by unfold stL; rw [mk_i (by decide)]; unfold ob; rw [w_eq, u_eq]
theorem c_order {h : Mm} {p k : Nat} {O : Nat → Int32} {v : Int32} (hk : k < 240) : X3_order v (stL h p O k) = some ((), stL h p (upd O k v) (k + 1)) := by
  unfold X3_order
  have e1 : wI (stL h p O k) 8 k v = mk (wI (wR h 8 (upd O k v)) 7 2 (zN k)) p := by
    unfold stL mk ob
    rw [wI_comm (i := 1) (j := 8) (by decide), wI_comm (i := 7) (j := 8) (by decide), wI_wR]
  rw [st_72, pu_8 hk, bd_some, e1]
  have e2 : (mk (wI (wR h 8 (upd O k v)) 7 2 (zN k)) p).1 7 2 = zN k := by rw [mk_i (by decide), w_eq, u_eq]
  rw [e2, sN1]
  unfold stL mk ob
  rw [wI_comm (i := 1) (j := 7) (by decide), wI_wI]
def wrL : (Nat → Int32) → Nat → List Int32 → (Nat → Int32)
  | O, _, [] => O
  | O, k, o :: c => wrL (upd O k o) (k + 1) c
theorem wrL_app : ∀ (c1 c2 : List Int32) (O : Nat → Int32) (k : Nat), wrL O k (c1 ++ c2) = wrL (wrL O k c1) (k + c1.length) c2
  | [], c2, O, k => rfl
  | o :: c1, c2, O, k => by
    show wrL (upd O k o) (k + 1) (c1 ++ c2) = wrL (wrL (upd O k o) (k + 1) c1) (k + (c1.length + 1)) c2
    rw [wrL_app c1 c2 (upd O k o) (k + 1), show k + (c1.length + 1) = k + 1 + c1.length by omega]
theorem wrL_lt : ∀ (c : List Int32) (O : Nat → Int32) (k j : Nat), j < k → wrL O k c j = O j
  | [], _, _, _, _ => rfl
  | o :: c, O, k, j, h => by
    show wrL (upd O k o) (k + 1) c j = O j
    rw [wrL_lt c (upd O k o) (k + 1) j (by omega), u_ne (by omega)]
theorem wrL_at : ∀ (c : List Int32) (O : Nat → Int32) (k : Nat), At (wrL O k c) k c
  | [], _, _ => trivial
  | o :: c, O, k => ⟨by show wrL (upd O k o) (k + 1) c k = o; rw [wrL_lt c _ _ _ (by omega), u_eq], wrL_at c (upd O k o) (k + 1)⟩
/-- text of one number: how class and model read it -/
def SP (T : Nat → Nat) (s m : Nat) (FC : Mm → Option (Bool × Mm)) (FM : Mm → Option (Int32 × Mm)) (p d : Nat) : Prop :=
  (∃ Q, p ≤ Q ∧ Q ≤ s ∧ (∀ h O k, CT T s h → k + 2 ≤ p → ∃ O' k', FC (stL h p O k) = some (false, stL h Q O' k')) ∧ (∀ t b0 g, MT T s t b0 g → ∃ v a d', FM (ms g p (-1) (zN d)) = some (v, ms g a (zN Q) d'))) ∨
  (∃ p' c v, p < p' ∧ p' ≤ s ∧ c.length ≤ p' - p ∧ Ex c m v ∧ (∀ h O k, CT T s h → k + 2 ≤ p → FC (stL h p O k) = some (true, stL h p' (wrL O k c) (k + c.length))) ∧ (∀ t b0 g, MT T s t b0 g → FM (ms g p (-1) (zN d)) = some (v (lm g), ms g p' (-1) (zN d))))
def LPq (T : Nat → Nat) (s m : Nat) (FC : Mm → Option (Bool × Mm)) (FM : Int32 → Mm → Option (Int32 × Mm)) (p d : Nat) (c0 : List Int32) (v0 : (Nat → Int32) → Int32) : Prop :=
  (∃ Q, p ≤ Q ∧ Q ≤ s ∧ (∀ h O k, CT T s h → k + c0.length + 2 ≤ p → ∃ O' k', FC (stL h p (wrL O k c0) (k + c0.length)) = some (false, stL h Q O' k')) ∧ (∀ t b0 g, MT T s t b0 g → ∃ v a d', FM (v0 (lm g)) (ms g p (-1) (zN d)) = some (v, ms g a (zN Q) d'))) ∨
  (∃ p' c v, p ≤ p' ∧ p' ≤ s ∧ c.length ≤ c0.length + (p' - p) ∧ Ex c m v ∧ (∀ h O k, CT T s h → k + c0.length + 2 ≤ p → FC (stL h p (wrL O k c0) (k + c0.length)) = some (true, stL h p' (wrL O k c) (k + c.length))) ∧ (∀ t b0 g, MT T s t b0 g → FM (v0 (lm g)) (ms g p (-1) (zN d)) = some (v (lm g), ms g p' (-1) (zN d))))
theorem SP.mono {T : Nat → Nat} {s m m' : Nat} {FC : Mm → Option (Bool × Mm)} {FM : Mm → Option (Int32 × Mm)} {p d : Nat} (q : SP T s m FC FM p d) (h : m ≤ m') : SP T s m' FC FM p d := by
  rcases q with q | ⟨p', c, v, q1, q2, q3, q4, q5, q6⟩
  · exact Or.inl q
  · exact Or.inr ⟨p', c, v, q1, q2, q3, q4.mono h, q5, q6⟩
theorem c_one {T : Nat → Nat} {s n p a : Nat} {h : Mm} {l : List Int32} (hn : 20000 ≤ n) (ct : CT T s h) (hp : p ≤ s) (hl : stB a = l) (h9 : l.length < 100) (h1 : 0 < l.length) : X7_takeOneOf n a (mk h p) = if ixN (zN (sg T s (skp T s p))).toInt8.toInt32 l 0 < 0 then some (ixN (zN (sg T s (skp T s p))).toInt8.toInt32 l 0, mk h (skp T s p)) else some (ixN (zN (sg T s (skp T s p))).toInt8.toInt32 l 0, mk h (skp T s p + 1)) := by
  unfold X7_takeOneOf X7_takeOneOf_23
  rw [c_sign hn ct hp, bd_some, j_ix hn hl h9 h1 (sg_le ct _), bp_some, mk_inc]
theorem sg_lt {T : Nat → Nat} {s p : Nat} (h : sg T s p ≠ 0) : p < s := by
  unfold sg at h
  by_cases c : p < s
  · exact c
  · rw [if_neg c] at h; exact absurd rfl h
theorem zM_eq {c k : Nat} (hc : c ≤ 255) (h1 : 1 ≤ k) (h2 : k ≤ 255) : zM c = zN k ↔ c = k := by
  unfold zM
  by_cases d : c = 0
  · rw [if_pos d]
    exact ⟨fun z => absurd z.symm (zN_nm1 (by omega)), fun z => by omega⟩
  · rw [if_neg d]; exact zN_eq (by omega) (by omega)
theorem T_le {T : Nat → Nat} {s t b0 : Nat} {g : Mm} (mt : MT T s t b0 g) (p : Nat) : sg T s p ≤ 255 := by
  unfold sg
  by_cases c : p < s
  · rw [if_pos c]; exact (mt.2.2.2.2 p c).2.2
  · rw [if_neg c]; omega
theorem ix_1026 : ∀ c, c < 256 → ixN (zN c).toInt8.toInt32 [42, 47] 0 = if c = 42 then zN 0 else if c = 47 then zN 1 else -1 := by decide +kernel
theorem ix_1027 : ∀ c, c < 256 → ixN (zN c).toInt8.toInt32 [43, 45] 0 = if c = 43 then zN 0 else if c = 45 then zN 1 else -1 := by decide +kernel
theorem len3 (c0 c : List Int32) (o : Int32) : (c0 ++ (c ++ [o])).length = c0.length + c.length + 1 := by rw [List.length_append, List.length_append]; show c0.length + (c.length + 1) = _; omega

theorem term_loop {T : Nat → Nat} {s n mA d : Nat} {FC : Int32 → Mm → Option (Bool × Mm)} {FM : Mm → Option (Int32 × Mm)} (hn : 20000 ≤ n) (h240 : s ≤ 240) (mA1 : 1 ≤ mA) (hA : ∀ p, 2 ≤ p → p ≤ s → SP T s mA (FC (zN d)) (FM) p d) : ∀ (r p j q q' : Nat) (c0 : List Int32) (v0 : (Nat → Int32) → Int32), s - p ≤ r → p ≤ s → j + 2 ≤ p → r < q → r < q' → Ex c0 (mA + 1) v0 → LPq T s (mA + 1) (X3_takeTerm_12 n FC q (zN d) (zN j)) (X12_term_5 n FM q') p d c0 v0 := by
  intro r
  induction r with
  | zero =>
    intro p j q q' c0 v0 hr hp hj hq hq' e0
    obtain ⟨q, rfl⟩ : ∃ m, q = m + 1 := ⟨q - 1, by omega⟩
    obtain ⟨q', rfl⟩ : ∃ m, q' = m + 1 := ⟨q' - 1, by omega⟩
    have ps : p = s := by omega
    have sk : skp T s p = p := skp_nb (fun z => by omega)
    have s0 : sg T s p = 0 := by unfold sg; rw [if_neg (by omega)]
    refine Or.inr ⟨p, c0, v0, Nat.le_refl _, hp, by omega, e0, fun h O k ct hk => ?_, fun t b0 g mt => ?_⟩
    · unfold X3_takeTerm_12 stL
      rw [if_neg (show ¬ (240 : Int32) ≤ zN j by rw [zN_lit, zN_le (by decide) (by omega)]; omega), c_one hn ct.ob hp (show stB 1026 = [42, 47] from rfl) (by decide) (by decide), ix_1026 _ (by have := sg_le ct (skp T s p); omega), sk, s0]
      rfl
    · unfold X12_term_5 X12_term_94
      rw [ms_11, if_pos rfl, m_look mt hn hp, bd_some, sk, s0, if_neg (show ¬ zM 0 = 42 by decide), m_look mt hn hp, bd_some, sk, s0, if_neg (show ¬ zM 0 = 47 by decide)]
  | succ r ih =>
    intro p j q q' c0 v0 hr hp hj hq hq' e0
    obtain ⟨q, rfl⟩ : ∃ m, q = m + 1 := ⟨q - 1, by omega⟩
    obtain ⟨q', rfl⟩ : ∃ m, q' = m + 1 := ⟨q' - 1, by omega⟩
    have b := skp_b (T := T) hp
    by_cases op : sg T s (skp T s p) = 42 ∨ sg T s (skp T s p) = 47
    · have lt : skp T s p < s := sg_lt (T := T) (show sg T s (skp T s p) ≠ 0 by omega)
      obtain ⟨q'', rfl⟩ : ∃ m, q' = m + 1 := ⟨q' - 1, by omega⟩
      -- which of the two
      have key : ∀ (o : Int32) (w : Int32 → Int32 → Int32) (ci : Nat), ((sg T s (skp T s p) = 42 ∧ o = (-9) ∧ w = opM ∧ ci = 0) ∨ (sg T s (skp T s p) = 47 ∧ o = (-10) ∧ w = opD ∧ ci = 1)) → LPq T s (mA + 1) (X3_takeTerm_12 n FC (q + 1) (zN d) (zN j)) (X12_term_5 n FM (q'' + 1 + 1)) p d c0 v0 := by
        intro o w ci hc
        have ho : ¬ o = -17 ∧ (-100 : Int32) < o ∧ o < 0 ∧ o ≤ -7 ∧ ¬ o = -16 := by
          rcases hc with ⟨-, rfl, -⟩ | ⟨-, rfl, -⟩
          all_goals decide
        have hw : BinO o w := by
          rcases hc with ⟨-, rfl, rfl, -⟩ | ⟨-, rfl, rfl, -⟩
          · exact bo_M
          · exact bo_D
        have hwb : ∀ l r, lbd (w l r) := by
          intro l r
          rcases hc with ⟨-, -, rfl, -⟩ | ⟨-, -, rfl, -⟩
          · exact rk_bd _
          · unfold opD; split <;> exact rk_bd _
        -- the class's step
        have cst : ∀ (h : Mm) (O : Nat → Int32) (k : Nat), CT T s h → X3_takeTerm_12 n FC (q + 1) (zN d) (zN j) (stL h p O k) = bd (FC (zN d) (stL h (skp T s p + 1) O k)) (fun r52 h54 => (if r52 = true then (X3_takeTerm_57 n FC (X3_takeTerm_12 n FC q) (zN d) (zN j) o h54) else (some (false, h54)))) := fun h O k ct => by
          rw [X3_takeTerm_12]
          unfold stL
          rw [if_neg (show ¬ (240 : Int32) ≤ zN j by rw [zN_lit, zN_le (by decide) (by omega)]; omega), c_one hn ct.ob hp (show stB 1026 = [42, 47] from rfl) (by decide) (by decide), ix_1026 _ (by have := sg_le ct (skp T s p); omega)]
          rcases hc with ⟨e1, rfl, -, -⟩ | ⟨e1, rfl, -, -⟩
          · rw [e1, if_pos rfl, if_neg (show ¬ zN 0 < 0 by decide), bd_some, if_pos (show (0 : Int32) ≤ zN 0 by decide)]
            rfl
          · rw [e1, if_neg (show ¬ 47 = 42 by decide), if_pos rfl, if_neg (show ¬ zN 1 < 0 by decide), bd_some, if_pos (show (0 : Int32) ≤ zN 1 by decide)]
            rfl
        -- the model's step
        have mst : ∀ (t b0 : Nat) (g : Mm) (x : Int32), MT T s t b0 g → X12_term_5 n FM (q'' + 1 + 1) x (ms g p (-1) (zN d)) = bd (FM (ms g (skp T s p + 1) (-1) (zN d))) (fun r56 h58 => X12_term_5 n FM (q'' + 1) (w x r56) h58) := fun t b0 g x mt => by
          have T2 := T_le mt (skp T s p)
          rw [X12_term_5]
          unfold X12_term_31 X12_term_45 X12_term_87
          rw [ms_11, if_pos rfl, m_look mt hn hp, bd_some]
          rcases hc with ⟨e1, -, rfl, -⟩ | ⟨e1, -, rfl, -⟩
          · rw [if_pos (show zM (sg T s (skp T s p)) = 42 by rw [e1]; rfl), m_look mt hn b.2, bd_some, skp_id hp, if_pos (show zM (sg T s (skp T s p)) = 42 by rw [e1]; rfl), ms_inc]
            congr 1; funext r56 h58
            rw [if_pos rfl, m_rk, bp_some]; rfl
          · rw [if_neg (show ¬ zM (sg T s (skp T s p)) = 42 by rw [e1]; decide), m_look mt hn b.2, bd_some, skp_id hp, if_pos (show zM (sg T s (skp T s p)) = 47 by rw [e1]; rfl), m_look mt hn b.2, bd_some, skp_id hp, if_neg (show ¬ zM (sg T s (skp T s p)) = 42 by rw [e1]; decide), ms_inc]
            congr 1; funext r56 h58
            rw [if_neg (show ¬ (false = true) by decide)]
            unfold opD
            by_cases z : r56 = 0
            · rw [if_pos ((lg_cmp_eq _ _).mpr (by rw [z]; rfl)), m_rk, bp_some, if_pos z]
            · have z64 : ¬ r56.toInt64 = 0 := fun y => z (by
                have y2 := congrArg Int64.toInt y
                rw [Int32.toInt_toInt64] at y2
                exact Int32.toInt_inj.mp y2)
              rw [if_neg (fun y => z64 ((lg_cmp_eq _ _).mp y)), if_pos z64, m_rk, bp_some, if_neg z]
        rcases hA (skp T s p + 1) (by omega) (by omega) with ⟨Q, a1, a2, a3, a4⟩ | ⟨p2, c2, v2, a1, a2, a3, a4, a5, a6⟩
        · refine Or.inl ⟨Q, by omega, a2, fun h O k ct hk => ?_, fun t b0 g mt => ?_⟩
          · obtain ⟨O', k', e1⟩ := a3 h (wrL O k c0) (k + c0.length) ct (by omega)
            rw [cst h _ _ ct, e1, bd_some]
            exact ⟨O', k', rfl⟩
          · obtain ⟨v, a', d', e1⟩ := a4 t b0 g mt
            rw [mst t b0 g _ mt, e1, bd_some, X12_term_5]
            unfold X12_term_94
            rw [ms_11, if_neg (zN_nm1 (by omega))]
            exact ⟨_, a', d', rfl⟩
        · have ex2 : Ex (c0 ++ (c2 ++ [o])) (mA + 1) (fun L => w (v0 L) (v2 L)) := ⟨(CR_bin e0 a4 mA1 ho hw).mono (by omega), fun L _ => hwb _ _⟩
          rcases ih p2 (j + 1) q (q'' + 1) (c0 ++ (c2 ++ [o])) (fun L => w (v0 L) (v2 L)) (by omega) a2 (by omega) (by omega) (by omega) ex2 with ⟨Q, u1, u2, u3, u4⟩ | ⟨p3, c3, v3, u1, u2, u3, u4, u5, u6⟩
          · refine Or.inl ⟨Q, by omega, u2, fun h O k ct hk => ?_, fun t b0 g mt => ?_⟩
            · have e5 := a5 h (wrL O k c0) (k + c0.length) ct (by omega)
              obtain ⟨O', k', e6⟩ := u3 h O k ct (by rw [len3]; omega)
              rw [len3, wrL_app, wrL_app] at e6
              refine ⟨O', k', ?_⟩
              rw [cst h _ _ ct, e5, bd_some, if_pos rfl]
              unfold X3_takeTerm_57
              rw [c_order (by omega), bd_some, sN1]
              rw [← e6]
              congr 2
              omega
            · obtain ⟨v, a', d', e6⟩ := u4 t b0 g mt
              rw [mst t b0 g _ mt, a6 t b0 g mt, bd_some]
              exact ⟨v, a', d', e6⟩
          · refine Or.inr ⟨p3, c3, v3, by omega, u2, by rw [len3] at u3; omega, u4, fun h O k ct hk => ?_, fun t b0 g mt => ?_⟩
            · have e5 := a5 h (wrL O k c0) (k + c0.length) ct (by omega)
              have e6 := u5 h O k ct (by rw [len3]; omega)
              rw [len3, wrL_app, wrL_app] at e6
              rw [cst h _ _ ct, e5, bd_some, if_pos rfl]
              unfold X3_takeTerm_57
              rw [c_order (by omega), bd_some, sN1]
              rw [← e6]
              congr 2
              omega
            · rw [mst t b0 g _ mt, a6 t b0 g mt, bd_some]
              exact u6 t b0 g mt
      rcases op with e1 | e1
      · exact key (-9) opM 0 (Or.inl ⟨e1, rfl, rfl, rfl⟩)
      · exact key (-10) opD 1 (Or.inr ⟨e1, rfl, rfl, rfl⟩)
    · refine Or.inr ⟨skp T s p, c0, v0, b.1, b.2, by omega, e0, fun h O k ct hk => ?_, fun t b0 g mt => ?_⟩
      · unfold X3_takeTerm_12 stL
        rw [if_neg (show ¬ (240 : Int32) ≤ zN j by rw [zN_lit, zN_le (by decide) (by omega)]; omega), c_one hn ct.ob hp (show stB 1026 = [42, 47] from rfl) (by decide) (by decide), ix_1026 _ (by have := sg_le ct (skp T s p); omega), if_neg (fun z => op (Or.inl z)), if_neg (fun z => op (Or.inr z)), if_pos (show (-1 : Int32) < 0 by decide), bd_some, if_neg (show ¬ (0 : Int32) ≤ -1 by decide)]
      · have T2 := T_le mt (skp T s p)
        unfold X12_term_5 X12_term_94
        rw [ms_11, if_pos rfl, m_look mt hn hp, bd_some, if_neg (show ¬ zM (sg T s (skp T s p)) = 42 from fun z => op (Or.inl ((zM_eq T2 (by decide) (by decide)).mp z))), m_look mt hn b.2, bd_some, skp_id hp, if_neg (show ¬ zM (sg T s (skp T s p)) = 47 from fun z => op (Or.inr ((zM_eq T2 (by decide) (by decide)).mp z)))]
theorem term_sp {T : Nat → Nat} {s n mA d p : Nat} {FC : Int32 → Mm → Option (Bool × Mm)} {FM : Mm → Option (Int32 × Mm)} (hn : 20000 ≤ n) (h240 : s ≤ 240) (mA1 : 1 ≤ mA) (hA : ∀ p, 2 ≤ p → p ≤ s → SP T s mA (FC (zN d)) (FM) p d) (h2 : 2 ≤ p) (hp : p ≤ s) : SP T s (mA + 1) (X3_takeTerm n FC (zN d)) (X12_term n FM) p d := by
  rcases hA p h2 hp with ⟨Q, a1, a2, a3, a4⟩ | ⟨p2, c2, v2, a1, a2, a3, a4, a5, a6⟩
  · refine Or.inl ⟨Q, a1, a2, fun h O k ct hk => ?_, fun t b0 g mt => ?_⟩
    · obtain ⟨O', k', e1⟩ := a3 h O k ct hk
      unfold X3_takeTerm
      rw [e1, bd_some]
      exact ⟨O', k', rfl⟩
    · obtain ⟨v, a', d', e1⟩ := a4 t b0 g mt
      unfold X12_term
      obtain ⟨n', en⟩ : ∃ n', n = n' + 1 := ⟨n - 1, by omega⟩
      rw [e1, bd_some]
      have e2 : ∀ x, X12_term_5 n FM (n' + 1) x (ms g a' (zN Q) d') = some (x, ms g a' (zN Q) d') := fun x => by
        rw [X12_term_5]
        unfold X12_term_94
        rw [ms_11, if_neg (zN_nm1 (by omega))]
      rw [← en] at e2
      exact ⟨_, a', d', e2 v⟩
  · rcases term_loop hn h240 mA1 hA (s - p2) p2 0 n n c2 v2 (Nat.le_refl _) a2 (by omega) (by omega) (by omega) (a4.mono (by omega)) with ⟨Q, u1, u2, u3, u4⟩ | ⟨p3, c3, v3, u1, u2, u3, u4, u5, u6⟩
    · refine Or.inl ⟨Q, by omega, u2, fun h O k ct hk => ?_, fun t b0 g mt => ?_⟩
      · obtain ⟨O', k', e6⟩ := u3 h O k ct (by omega)
        unfold X3_takeTerm
        rw [a5 h O k ct hk, bd_some, if_pos rfl]
        exact ⟨O', k', e6⟩
      · obtain ⟨v, a', d', e6⟩ := u4 t b0 g mt
        unfold X12_term
        rw [a6 t b0 g mt, bd_some]
        exact ⟨v, a', d', e6⟩
    · refine Or.inr ⟨p3, c3, v3, by omega, u2, by omega, u4, fun h O k ct hk => ?_, fun t b0 g mt => ?_⟩
      · unfold X3_takeTerm
        rw [a5 h O k ct hk, bd_some, if_pos rfl]
        exact u5 h O k ct (by omega)
      · unfold X12_term
        rw [a6 t b0 g mt, bd_some]
        exact u6 t b0 g mt

theorem sum_loop {T : Nat → Nat} {s n mA d : Nat} {FC : Int32 → Mm → Option (Bool × Mm)} {FM : Mm → Option (Int32 × Mm)} (hn : 20000 ≤ n) (h240 : s ≤ 240) (mA1 : 1 ≤ mA) (hA : ∀ p, 2 ≤ p → p ≤ s → SP T s mA (X3_takeTerm n FC (zN d)) (X12_term n FM) p d) : ∀ (r p j q q' : Nat) (c0 : List Int32) (v0 : (Nat → Int32) → Int32), s - p ≤ r → p ≤ s → j + 2 ≤ p → r < q → r < q' → Ex c0 (mA + 1) v0 → LPq T s (mA + 1) (X3_takeSum_12 n FC q (zN d) (zN j)) (X12_sum_5 n FM q') p d c0 v0 := by
  intro r
  induction r with
  | zero =>
    intro p j q q' c0 v0 hr hp hj hq hq' e0
    obtain ⟨q, rfl⟩ : ∃ m, q = m + 1 := ⟨q - 1, by omega⟩
    obtain ⟨q', rfl⟩ : ∃ m, q' = m + 1 := ⟨q' - 1, by omega⟩
    have ps : p = s := by omega
    have sk : skp T s p = p := skp_nb (fun z => by omega)
    have s0 : sg T s p = 0 := by unfold sg; rw [if_neg (by omega)]
    refine Or.inr ⟨p, c0, v0, Nat.le_refl _, hp, by omega, e0, fun h O k ct hk => ?_, fun t b0 g mt => ?_⟩
    · unfold X3_takeSum_12 stL
      rw [if_neg (show ¬ (240 : Int32) ≤ zN j by rw [zN_lit, zN_le (by decide) (by omega)]; omega), c_one hn ct.ob hp (show stB 1027 = [43, 45] from rfl) (by decide) (by decide), ix_1027 _ (by have := sg_le ct (skp T s p); omega), sk, s0]
      rfl
    · unfold X12_sum_5 X12_sum_84
      rw [ms_11, if_pos rfl, m_look mt hn hp, bd_some, sk, s0, if_neg (show ¬ zM 0 = 43 by decide), m_look mt hn hp, bd_some, sk, s0, if_neg (show ¬ zM 0 = 45 by decide)]
  | succ r ih =>
    intro p j q q' c0 v0 hr hp hj hq hq' e0
    obtain ⟨q, rfl⟩ : ∃ m, q = m + 1 := ⟨q - 1, by omega⟩
    obtain ⟨q', rfl⟩ : ∃ m, q' = m + 1 := ⟨q' - 1, by omega⟩
    have b := skp_b (T := T) hp
    by_cases op : sg T s (skp T s p) = 43 ∨ sg T s (skp T s p) = 45
    · have lt : skp T s p < s := sg_lt (T := T) (show sg T s (skp T s p) ≠ 0 by omega)
      obtain ⟨q'', rfl⟩ : ∃ m, q' = m + 1 := ⟨q' - 1, by omega⟩
      -- which of the two
      have key : ∀ (o : Int32) (w : Int32 → Int32 → Int32) (ci : Nat), ((sg T s (skp T s p) = 43 ∧ o = (-7) ∧ w = opA ∧ ci = 0) ∨ (sg T s (skp T s p) = 45 ∧ o = (-8) ∧ w = opS ∧ ci = 1)) → LPq T s (mA + 1) (X3_takeSum_12 n FC (q + 1) (zN d) (zN j)) (X12_sum_5 n FM (q'' + 1 + 1)) p d c0 v0 := by
        intro o w ci hc
        have ho : ¬ o = -17 ∧ (-100 : Int32) < o ∧ o < 0 ∧ o ≤ -7 ∧ ¬ o = -16 := by
          rcases hc with ⟨-, rfl, -⟩ | ⟨-, rfl, -⟩
          all_goals decide
        have hw : BinO o w := by
          rcases hc with ⟨-, rfl, rfl, -⟩ | ⟨-, rfl, rfl, -⟩
          · exact bo_A
          · exact bo_S
        have hwb : ∀ l r, lbd (w l r) := by
          intro l r
          rcases hc with ⟨-, -, rfl, -⟩ | ⟨-, -, rfl, -⟩
          · exact rk_bd _
          · exact rk_bd _
        -- the class's step
        have cst : ∀ (h : Mm) (O : Nat → Int32) (k : Nat), CT T s h → X3_takeSum_12 n FC (q + 1) (zN d) (zN j) (stL h p O k) = bd (X3_takeTerm n FC (zN d) (stL h (skp T s p + 1) O k)) (fun r52 h54 => (if r52 = true then (X3_takeSum_57 n FC (X3_takeSum_12 n FC q) (zN d) (zN j) o h54) else (some (false, h54)))) := fun h O k ct => by
          rw [X3_takeSum_12]
          unfold stL
          rw [if_neg (show ¬ (240 : Int32) ≤ zN j by rw [zN_lit, zN_le (by decide) (by omega)]; omega), c_one hn ct.ob hp (show stB 1027 = [43, 45] from rfl) (by decide) (by decide), ix_1027 _ (by have := sg_le ct (skp T s p); omega)]
          rcases hc with ⟨e1, rfl, -, -⟩ | ⟨e1, rfl, -, -⟩
          · rw [e1, if_pos rfl, if_neg (show ¬ zN 0 < 0 by decide), bd_some, if_pos (show (0 : Int32) ≤ zN 0 by decide)]
            rfl
          · rw [e1, if_neg (show ¬ 45 = 43 by decide), if_pos rfl, if_neg (show ¬ zN 1 < 0 by decide), bd_some, if_pos (show (0 : Int32) ≤ zN 1 by decide)]
            rfl
        -- the model's step
        have mst : ∀ (t b0 : Nat) (g : Mm) (x : Int32), MT T s t b0 g → X12_sum_5 n FM (q'' + 1 + 1) x (ms g p (-1) (zN d)) = bd (X12_term n FM (ms g (skp T s p + 1) (-1) (zN d))) (fun r56 h58 => X12_sum_5 n FM (q'' + 1) (w x r56) h58) := fun t b0 g x mt => by
          have T2 := T_le mt (skp T s p)
          rw [X12_sum_5]
          unfold X12_sum_31 X12_sum_45 X12_sum_77
          rw [ms_11, if_pos rfl, m_look mt hn hp, bd_some]
          rcases hc with ⟨e1, -, rfl, -⟩ | ⟨e1, -, rfl, -⟩
          · rw [if_pos (show zM (sg T s (skp T s p)) = 43 by rw [e1]; rfl), m_look mt hn b.2, bd_some, skp_id hp, if_pos (show zM (sg T s (skp T s p)) = 43 by rw [e1]; rfl), ms_inc]
            congr 1; funext r56 h58
            rw [if_pos rfl, m_rk, bp_some]; rfl
          · rw [if_neg (show ¬ zM (sg T s (skp T s p)) = 43 by rw [e1]; decide), m_look mt hn b.2, bd_some, skp_id hp, if_pos (show zM (sg T s (skp T s p)) = 45 by rw [e1]; rfl), m_look mt hn b.2, bd_some, skp_id hp, if_neg (show ¬ zM (sg T s (skp T s p)) = 43 by rw [e1]; decide), ms_inc]
            congr 1; funext r56 h58
            rw [if_neg (show ¬ (false = true) by decide), m_rk, bp_some]; rfl
        rcases hA (skp T s p + 1) (by omega) (by omega) with ⟨Q, a1, a2, a3, a4⟩ | ⟨p2, c2, v2, a1, a2, a3, a4, a5, a6⟩
        · refine Or.inl ⟨Q, by omega, a2, fun h O k ct hk => ?_, fun t b0 g mt => ?_⟩
          · obtain ⟨O', k', e1⟩ := a3 h (wrL O k c0) (k + c0.length) ct (by omega)
            rw [cst h _ _ ct, e1, bd_some]
            exact ⟨O', k', rfl⟩
          · obtain ⟨v, a', d', e1⟩ := a4 t b0 g mt
            rw [mst t b0 g _ mt, e1, bd_some, X12_sum_5]
            unfold X12_sum_84
            rw [ms_11, if_neg (zN_nm1 (by omega))]
            exact ⟨_, a', d', rfl⟩
        · have ex2 : Ex (c0 ++ (c2 ++ [o])) (mA + 1) (fun L => w (v0 L) (v2 L)) := ⟨(CR_bin e0 a4 mA1 ho hw).mono (by omega), fun L _ => hwb _ _⟩
          rcases ih p2 (j + 1) q (q'' + 1) (c0 ++ (c2 ++ [o])) (fun L => w (v0 L) (v2 L)) (by omega) a2 (by omega) (by omega) (by omega) ex2 with ⟨Q, u1, u2, u3, u4⟩ | ⟨p3, c3, v3, u1, u2, u3, u4, u5, u6⟩
          · refine Or.inl ⟨Q, by omega, u2, fun h O k ct hk => ?_, fun t b0 g mt => ?_⟩
            · have e5 := a5 h (wrL O k c0) (k + c0.length) ct (by omega)
              obtain ⟨O', k', e6⟩ := u3 h O k ct (by rw [len3]; omega)
              rw [len3, wrL_app, wrL_app] at e6
              refine ⟨O', k', ?_⟩
              rw [cst h _ _ ct, e5, bd_some, if_pos rfl]
              unfold X3_takeSum_57
              rw [c_order (by omega), bd_some, sN1]
              rw [← e6]
              congr 2
              omega
            · obtain ⟨v, a', d', e6⟩ := u4 t b0 g mt
              rw [mst t b0 g _ mt, a6 t b0 g mt, bd_some]
              exact ⟨v, a', d', e6⟩
          · refine Or.inr ⟨p3, c3, v3, by omega, u2, by rw [len3] at u3; omega, u4, fun h O k ct hk => ?_, fun t b0 g mt => ?_⟩
            · have e5 := a5 h (wrL O k c0) (k + c0.length) ct (by omega)
              have e6 := u5 h O k ct (by rw [len3]; omega)
              rw [len3, wrL_app, wrL_app] at e6
              rw [cst h _ _ ct, e5, bd_some, if_pos rfl]
              unfold X3_takeSum_57
              rw [c_order (by omega), bd_some, sN1]
              rw [← e6]
              congr 2
              omega
            · rw [mst t b0 g _ mt, a6 t b0 g mt, bd_some]
              exact u6 t b0 g mt
      rcases op with e1 | e1
      · exact key (-7) opA 0 (Or.inl ⟨e1, rfl, rfl, rfl⟩)
      · exact key (-8) opS 1 (Or.inr ⟨e1, rfl, rfl, rfl⟩)
    · refine Or.inr ⟨skp T s p, c0, v0, b.1, b.2, by omega, e0, fun h O k ct hk => ?_, fun t b0 g mt => ?_⟩
      · unfold X3_takeSum_12 stL
        rw [if_neg (show ¬ (240 : Int32) ≤ zN j by rw [zN_lit, zN_le (by decide) (by omega)]; omega), c_one hn ct.ob hp (show stB 1027 = [43, 45] from rfl) (by decide) (by decide), ix_1027 _ (by have := sg_le ct (skp T s p); omega), if_neg (fun z => op (Or.inl z)), if_neg (fun z => op (Or.inr z)), if_pos (show (-1 : Int32) < 0 by decide), bd_some, if_neg (show ¬ (0 : Int32) ≤ -1 by decide)]
      · have T2 := T_le mt (skp T s p)
        unfold X12_sum_5 X12_sum_84
        rw [ms_11, if_pos rfl, m_look mt hn hp, bd_some, if_neg (show ¬ zM (sg T s (skp T s p)) = 43 from fun z => op (Or.inl ((zM_eq T2 (by decide) (by decide)).mp z))), m_look mt hn b.2, bd_some, skp_id hp, if_neg (show ¬ zM (sg T s (skp T s p)) = 45 from fun z => op (Or.inr ((zM_eq T2 (by decide) (by decide)).mp z)))]
theorem sum_sp {T : Nat → Nat} {s n mA d p : Nat} {FC : Int32 → Mm → Option (Bool × Mm)} {FM : Mm → Option (Int32 × Mm)} (hn : 20000 ≤ n) (h240 : s ≤ 240) (mA1 : 1 ≤ mA) (hA : ∀ p, 2 ≤ p → p ≤ s → SP T s mA (X3_takeTerm n FC (zN d)) (X12_term n FM) p d) (h2 : 2 ≤ p) (hp : p ≤ s) : SP T s (mA + 1) (X3_takeSum n FC (zN d)) (X12_sum n FM) p d := by
  rcases hA p h2 hp with ⟨Q, a1, a2, a3, a4⟩ | ⟨p2, c2, v2, a1, a2, a3, a4, a5, a6⟩
  · refine Or.inl ⟨Q, a1, a2, fun h O k ct hk => ?_, fun t b0 g mt => ?_⟩
    · obtain ⟨O', k', e1⟩ := a3 h O k ct hk
      unfold X3_takeSum
      rw [e1, bd_some]
      exact ⟨O', k', rfl⟩
    · obtain ⟨v, a', d', e1⟩ := a4 t b0 g mt
      unfold X12_sum
      obtain ⟨n', en⟩ : ∃ n', n = n' + 1 := ⟨n - 1, by omega⟩
      rw [e1, bd_some]
      have e2 : ∀ x, X12_sum_5 n FM (n' + 1) x (ms g a' (zN Q) d') = some (x, ms g a' (zN Q) d') := fun x => by
        rw [X12_sum_5]
        unfold X12_sum_84
        rw [ms_11, if_neg (zN_nm1 (by omega))]
      rw [← en] at e2
      exact ⟨_, a', d', e2 v⟩
  · rcases sum_loop hn h240 mA1 hA (s - p2) p2 0 n n c2 v2 (Nat.le_refl _) a2 (by omega) (by omega) (by omega) (a4.mono (by omega)) with ⟨Q, u1, u2, u3, u4⟩ | ⟨p3, c3, v3, u1, u2, u3, u4, u5, u6⟩
    · refine Or.inl ⟨Q, by omega, u2, fun h O k ct hk => ?_, fun t b0 g mt => ?_⟩
      · obtain ⟨O', k', e6⟩ := u3 h O k ct (by omega)
        unfold X3_takeSum
        rw [a5 h O k ct hk, bd_some, if_pos rfl]
        exact ⟨O', k', e6⟩
      · obtain ⟨v, a', d', e6⟩ := u4 t b0 g mt
        unfold X12_sum
        rw [a6 t b0 g mt, bd_some]
        exact ⟨v, a', d', e6⟩
    · refine Or.inr ⟨p3, c3, v3, by omega, u2, by omega, u4, fun h O k ct hk => ?_, fun t b0 g mt => ?_⟩
      · unfold X3_takeSum
        rw [a5 h O k ct hk, bd_some, if_pos rfl]
        exact u5 h O k ct (by omega)
      · unfold X12_sum
        rw [a6 t b0 g mt, bd_some]
        exact u6 t b0 g mt
