/-! a reading -/
def cadd (c : Nat) (w : Int32) : Nat := min 99 ((c : Int) + w.toInt).toNat
theorem cadd_le (c : Nat) (w : Int32) : cadd c w ≤ 99 := by unfold cadd; omega
def pgs (W : Nat → Int32) (c : Nat) : Nat → Nat
  | 0 => c
  | m + 1 => cadd (pgs W c m) (W m)
theorem pgs_le {W : Nat → Int32} {c : Nat} (hc : c ≤ 99) : ∀ m, pgs W c m ≤ 99
  | 0 => hc
  | m + 1 => cadd_le _ _
theorem wv_rng (hd : Int32) (f : Nat → F6) (c v b p nn t : Nat) : -9 ≤ (wv hd f c v b p nn t).toInt ∧ (wv hd f c v b p nn t).toInt ≤ 20 := clmp_rng _
theorem zN_addw (c : Nat) (w : Int32) : zN c + w = zI ((c : Int) + w.toInt) := by rw [← zN_addI, zI_self]
theorem c_cadd {c : Nat} {w : Int32} {h : Mm} (hc : c ≤ 99) (h1 : -9 ≤ w.toInt) (h2 : w.toInt ≤ 40) : X11_heldCalm (zN c + w) h = some (zN (cadd c w)) := by
  rw [zN_addw, c_held (by omega) (by omega)]; rfl
theorem m_cadd {c : Nat} {w : Int32} {h : Mm} (hc : c ≤ 99) (h1 : -9 ≤ w.toInt) (h2 : w.toInt ≤ 40) : X12_held (zN c + w) h = some (zN (cadd c w)) := by
  rw [zN_addw, m_held (by omega) (by omega)]; rfl
/-- what a row of pages is worth, each behind the other -/
def wr6 (hd : Int32) (f : Nat → F6) (cc v b nn t p : Nat) : Int32 := wv hd f cc v b p nn (t + p)
theorem c_pages16 {n nl : Nat} {hd : Int32} {f : Nat → F6} {cc v b nn t m c : Nat} (h1 : cc ≤ 9) (h2 : v ≤ 9) (h3 : b ≤ 9) (h5 : nn < 16384) (hm : m ≤ 9) (h6 : t + m ≤ 60) (hc : c ≤ 99) : ∀ (d q k : Nat) (h : Mm), k + d = m → d < q → LawC n nl hd f h →
    ∃ h', X9_calmBehind_16 n q (zN m) (zN v) (zN b) (zN nn) (zN t) (zN cc) (zN (pgs (wr6 hd f cc v b nn t) c k)) (zN k) h = some (zN (pgs (wr6 hd f cc v b nn t) c m), h') ∧ LawC n nl hd f h' ∧ QC h h' := by
  intro d
  induction d with
  | zero =>
    intro q k h hk hq hC
    obtain ⟨q, rfl⟩ : ∃ m, q = m + 1 := ⟨q - 1, by omega⟩
    obtain rfl : k = m := by omega
    unfold X9_calmBehind_16
    simp (disch := omega) only [zN_le, if_pos (Nat.le_refl k)]
    exact ⟨h, rfl, hC, QC.rf⟩
  | succ d ih =>
    intro q k h hk hq hC
    obtain ⟨q, rfl⟩ : ∃ m, q = m + 1 := ⟨q - 1, by omega⟩
    unfold X9_calmBehind_16
    simp (disch := omega) only [zN_le, if_neg (show ¬ m ≤ k by omega), zN_add, zN_lit]
    obtain ⟨h1, e1, e2, e3⟩ := c_worth hC (c := cc) (v := v) (b := b) (p := k) (nn := nn) (t := t + k) h1 h2 h3 (by omega) h5 (by omega)
    have rg := wv_rng hd f cc v b k nn (t + k)
    rw [e1, bd_some, c_cadd (pgs_le hc k) rg.1 (by omega), bp_some]
    obtain ⟨h2, g1, g2, g3⟩ := ih q (k + 1) h1 (by omega) (by omega) e2
    exact ⟨h2, g1, g2, e3.tr g3⟩
theorem QC.land {B H : Nat} {nm : Nat → Nat} {h g h' : Mm} (q : LandR B H nm (h.1 14) (h.1 15) (g.1 251) (g.1 256) (g.1 258) (g.1 260)) (z : QC h h') : LandR B H nm (h'.1 14) (h'.1 15) (g.1 251) (g.1 256) (g.1 258) (g.1 260) := q.cc (z.1 14 (by decide) (by decide) (by decide)) (z.1 15 (by decide) (by decide) (by decide))
theorem QM.land {B H : Nat} {nm : Nat → Nat} {h g g' : Mm} (q : LandR B H nm (h.1 14) (h.1 15) (g.1 251) (g.1 256) (g.1 258) (g.1 260)) (z : QM g g') : LandR B H nm (h.1 14) (h.1 15) (g'.1 251) (g'.1 256) (g'.1 258) (g'.1 260) := q.mm (z.2.1 26 rfl) (z.2.1 27 rfl) (z.1 256 (by decide) (by decide) (by decide)) (z.1 258 (by decide) (by decide) (by decide)) (z.1 260 (by decide) (by decide) (by decide))
theorem c_calmBehind {n nl B H : Nat} {nm : Nat → Nat} {hd : Int32} {f : Nat → F6} {x v b nn t m c : Nat} {h g : Mm} (hn : 20000 ≤ n) (hL : LandR B H nm (h.1 14) (h.1 15) (g.1 251) (g.1 256) (g.1 258) (g.1 260)) (hC : LawC n nl hd f h) (hx : x < B) (h2 : v ≤ 9) (h3 : b ≤ 9) (h5 : nn < 16384) (hm : m ≤ 9) (h6 : t + m ≤ 60) (hc : c ≤ 99) :
    ∃ h', X9_calmBehind n (zN c) (zN x) (zN m) (zN v) (zN b) (zN nn) (zN t) h = some (zN (pgs (wr6 hd f (nm (3 + (3 * x + 1))) v b nn t) c m), h') ∧ LawC n nl hd f h' ∧ QC h h' := by
  unfold X9_calmBehind
  rw [c_calming hL hx, bp_some]
  exact c_pages16 (hL.2.2.2.2.2.2.1 x hx).2.2.1 h2 h3 h5 hm h6 hc m n 0 h (by omega) (by omega) hC
/-- the model's pages -/
theorem m_pages35 {n nl B H r : Nat} {nm : Nat → Nat} {hd : Int32} {f : Nat → F6} {x v b nn t m c k fa : Nat} {p : Int32} {sk : Bool} {g h : Mm} (K : Int32 → Int32 → Bool → Int32 → Int32 → Int32 → Mm → Option (Unit × Mm)) (hL : LandR B H nm (h.1 14) (h.1 15) (g.1 251) (g.1 256) (g.1 258) (g.1 260)) (hM : LawM n nl hd f g) (hr : aln r = 211) (hr2 : r = 264 ∨ r = 265) (hx : x < B) (hf : fa < 6) (h2 : v ≤ 9) (h3 : b ≤ 9) (h5 : nn < 16384) (hm : m ≤ 9) (h6 : t + m ≤ 60) (hc : c ≤ 99) (hk : k < m) (kd : Nat) (hkd : kd < 4)
    (e22 : g.1 r 22 = zN c) (ev : g.1 r (3 * fa + 1) = zN v) (eb : g.1 r (18 + kd) = zN b) (e29 : g.1 r 29 = zN nn) (et : g.1 r (3 * fa) = zN (t + k)) :
    ∃ g', X12_reads_35 n K r (zN x) p sk (zN (3 * fa)) (zN (18 + kd)) (zN k) (zN k) (zN m) g = K (zN x) p sk (zN (3 * fa)) (zN (18 + kd)) (zN (k + 1)) (wI (wI g' r 22 (zN (cadd c (wr6 hd f (nm (3 + (3 * x + 1))) v b nn t k)))) r (3 * fa) (zN (t + (k + 1)))) ∧ LawM n nl hd f g' ∧ QM g g' := by
  obtain ⟨g', e1, e2, e3⟩ := m_page hL hM (x := x) (v := v) (b := b) (p := k) (nn := nn) (t := t + k) hx h2 h3 (by omega) h5 (by omega)
  have rg := wv_rng hd f (nm (3 + (3 * x + 1))) v b k nn (t + k)
  have er : g'.1 r = g.1 r := e3.1 r (by omega) (by omega) (by omega)
  refine ⟨g', ?_, e2, e3⟩
  unfold X12_reads_35
  simp (disch := omega) only [zN_lit, zN_add, zN_mul, bp_some, bd_some, w_eq, w_2, wl_1, u_eq, wr_eq, wr_2, Nat.reduceAdd, Nat.reduceMul, Nat.reduceSub, Nat.add_zero, hr, zN_le, zN_inB, zN_ix, if_neg (show ¬ m ≤ k by omega), if_pos (show 22 < 211 by decide), if_pos (show 3 * fa + 1 < 211 by omega), if_pos (show 18 + kd < 211 by omega), if_pos (show 29 < 211 by decide), if_pos (show 3 * fa < 211 by omega), e22, ev, eb, e29, et, e1, m_cadd hc rg.1 (by omega : (wv hd f (nm (3 + (3 * x + 1))) v b k nn (t + k)).toInt ≤ 40), u_ne, er]
  rfl
def QMr (r : Nat) (g g' : Mm) : Prop := (∀ i, i ≠ 251 → i ≠ 255 → i ≠ 267 → i ≠ r → g'.1 i = g.1 i) ∧ (∀ k, sc251 k = false → g'.1 251 k = g.1 251 k) ∧ ∀ i, i ≠ 266 → g'.2 i = g.2 i
theorem QMr.rf {r : Nat} {h : Mm} : QMr r h h := ⟨fun _ _ _ _ _ => rfl, fun _ _ => rfl, fun _ _ => rfl⟩
theorem QMr.tr {r : Nat} {a b c : Mm} (p : QMr r a b) (q : QMr r b c) : QMr r a c := ⟨fun i h1 h2 h3 h4 => (q.1 i h1 h2 h3 h4).trans (p.1 i h1 h2 h3 h4), fun k hk => (q.2.1 k hk).trans (p.2.1 k hk), fun i hi => (q.2.2 i hi).trans (p.2.2 i hi)⟩
theorem QM.mr {r : Nat} {a b : Mm} (p : QM a b) : QMr r a b := ⟨fun i h1 h2 h3 _ => p.1 i h1 h2 h3, p.2.1, p.2.2⟩
theorem QMr.w {r k : Nat} {v : Int32} {a : Mm} (h1 : r ≠ 251) : QMr r a (wI a r k v) := ⟨fun i _ _ _ h4 => w_ne h4, fun k _ => by rw [w_ne (fun z => h1 z.symm)], fun i _ => rfl⟩
theorem QMr.land {r B H : Nat} {nm : Nat → Nat} {h g g' : Mm} (q : LandR B H nm (h.1 14) (h.1 15) (g.1 251) (g.1 256) (g.1 258) (g.1 260)) (z : QMr r g g') (hr : 261 ≤ r) : LandR B H nm (h.1 14) (h.1 15) (g'.1 251) (g'.1 256) (g'.1 258) (g'.1 260) := q.mm (z.2.1 26 rfl) (z.2.1 27 rfl) (z.1 256 (by decide) (by decide) (by decide) (by omega)) (z.1 258 (by decide) (by decide) (by decide) (by omega)) (z.1 260 (by decide) (by decide) (by decide) (by omega))
theorem LawM.wr {n nl r k : Nat} {hd : Int32} {f : Nat → F6} {g : Mm} {v : Int32} (hM : LawM n nl hd f g) (hr : r = 264 ∨ r = 265) : LawM n nl hd f (wI g r k v) := hM.cg (by rw [w_ne (by omega)]) (by rw [w_ne (by omega)]) (w_ne (by omega)) (w_ne (by omega)) rfl (w_ne (by omega))
def fin (sk : Bool) (c : Nat) : Nat := if sk then c - 5 else c
theorem fin_le {sk : Bool} {c : Nat} (h : c ≤ 99) : fin sk c ≤ 99 := by unfold fin; cases sk <;> simp <;> omega
theorem m_reads111 {n r x kd b : Nat} {g : Mm} (hr : aln r = 211) (hkd : kd < 4) (hb : b ≤ 9) (eb : g.1 r (18 + kd) = zN b) : X12_reads_111 n r (zN x) (zN (18 + kd)) g = some ((), wI (wI g r (18 + kd) (zN (min 9 (b + 1)))) r 24 (g.1 r 24 ||| ((1 : Int32) <<< (zN x &&& 31)))) := by
  unfold X12_reads_111
  have i0 : inB (zN (18 + kd)) (aln r) := by rw [hr, zN_inB (by omega)]; omega
  have i1 : inB (24 : Int32) (aln r) := by rw [hr]; decide
  have t1 : (24 : Int32).toNatClampNeg = 24 := by decide
  rw [if_pos i0, zN_ix (by omega), eb, show (1 : Int32) = zN 1 from rfl, zN_add, j_min, bp_some, if_pos i0, if_pos i1, if_pos i1, t1, w_eq, u_ne (by omega)]
  congr 3
  simp (disch := omega) only [zN_lit, zN_lt]
  by_cases c : b + 1 < 9
  · rw [if_pos c, Nat.min_eq_right (by omega)]
  · rw [if_neg c, Nat.min_eq_left (by omega)]
theorem m_skip {c : Nat} {g : Mm} (hc : c ≤ 99) : X12_held (zN c - (5 : Int32)) g = some (zN (c - 5)) := by
  rw [show (5 : Int32) = zN 5 from rfl, zN_subI, m_held (by omega) (by omega)]; congr 2; omega
theorem c_skip {c : Nat} {g : Mm} (hc : c ≤ 99) : X11_heldCalm (zN c - (5 : Int32)) g = some (zN (c - 5)) := by
  rw [show (5 : Int32) = zN 5 from rfl, zN_subI, c_held (by omega) (by omega)]; congr 2; omega
theorem m_reads21 {n nl B H r : Nat} {nm : Nat → Nat} {hd : Int32} {f : Nat → F6} {x v b nn t m c fa p : Nat} {sk : Bool} {h : Mm} (hr : aln r = 211) (hr2 : r = 264 ∨ r = 265) (hx : x < B) (hf : fa < 6) (h2 : v ≤ 9) (h3 : b ≤ 9) (h5 : nn < 16384) (hm : m ≤ 9) (h6 : t + m ≤ 60) (hc : c ≤ 99) (kd : Nat) (hkd : kd < 4) (hp : p = if sk then m + 1 else m) : ∀ (d q k : Nat) (g : Mm), k + d = m → d < q →
    LandR B H nm (h.1 14) (h.1 15) (g.1 251) (g.1 256) (g.1 258) (g.1 260) → LawM n nl hd f g → g.1 r 22 = zN (pgs (wr6 hd f (nm (3 + (3 * x + 1))) v b nn t) c k) → g.1 r (3 * fa + 1) = zN v → g.1 r (18 + kd) = zN b → g.1 r 29 = zN nn → g.1 r (3 * fa) = zN (t + k) →
    ∃ g', X12_reads_21 n r q (zN x) (zN p) sk (zN (3 * fa)) (zN (18 + kd)) (zN k) g = some ((), g') ∧ LawM n nl hd f g' ∧ QMr r g g' ∧ g'.1 r 22 = zN (fin sk (pgs (wr6 hd f (nm (3 + (3 * x + 1))) v b nn t) c m)) ∧ g'.1 r (3 * fa) = zN (t + m) ∧ g'.1 r (18 + kd) = zN (min 9 (b + 1)) ∧ g'.1 r 24 = g.1 r 24 ||| ((1 : Int32) <<< (zN x &&& 31)) ∧ ∀ j, j ≠ 22 → j ≠ 3 * fa → j ≠ 18 + kd → j ≠ 24 → g'.1 r j = g.1 r j := by
  intro d
  induction d with
  | zero =>
    intro q k g hk hq hL hM e22 ev eb e29 et
    obtain ⟨q, rfl⟩ : ∃ m, q = m + 1 := ⟨q - 1, by omega⟩
    obtain rfl : k = m := by omega
    have key : X12_reads_21 n r (q + 1) (zN x) (zN p) sk (zN (3 * fa)) (zN (18 + kd)) (zN k) g = some ((), wI (wI (wI g r 22 (zN (fin sk (pgs (wr6 hd f (nm (3 + (3 * x + 1))) v b nn t) c k)))) r (18 + kd) (zN (min 9 (b + 1)))) r 24 (g.1 r 24 ||| ((1 : Int32) <<< (zN x &&& 31)))) := by
      have i1 : inB (22 : Int32) (aln r) := by rw [hr]; decide
      have t1 : (22 : Int32).toNatClampNeg = 22 := by decide
      have c9 := pgs_le (W := wr6 hd f (nm (3 + (3 * x + 1))) v b nn t) hc k
      unfold X12_reads_21
      cases sk with
      | true =>
        have e0 : zN p - (1 : Int32) = zN k := by rw [show (1 : Int32) = zN 1 from rfl, hp, zN_sub (by simp)]; rfl
        rw [if_pos rfl, e0]
        unfold X12_reads_35
        rw [if_pos ((zN_le (by omega) (by omega)).mpr (Nat.le_refl k)), if_pos rfl, if_pos i1, t1, e22, m_skip c9, bp_some, if_pos i1, m_reads111 hr hkd h3 (by rw [w_eq, u_ne (by omega)]; exact eb), w_eq, u_ne (by omega)]
        rfl
      | false =>
        have e0 : zN p = zN k := by rw [hp]; rfl
        rw [if_neg (by decide), e0]
        unfold X12_reads_35
        rw [if_pos ((zN_le (by omega) (by omega)).mpr (Nat.le_refl k)), if_neg (by decide), m_reads111 hr hkd h3 eb]
        have e1 : wI g r 22 (zN (fin false (pgs (wr6 hd f (nm (3 + (3 * x + 1))) v b nn t) c k))) = g := by
          show wI g r 22 (zN (pgs (wr6 hd f (nm (3 + (3 * x + 1))) v b nn t) c k)) = g
          rw [← e22]
          unfold wI wR upd
          refine Prod.ext (funext fun i => ?_) rfl
          show (if i = r then (fun j => if j = 22 then g.1 r 22 else g.1 r j) else g.1 i) = g.1 i
          by_cases d : i = r
          · subst d; rw [if_pos rfl]; funext j
            by_cases d2 : j = 22
            · subst d2; rw [if_pos rfl]
            · rw [if_neg d2]
          · rw [if_neg d]
        rw [e1]
    rw [key]
    refine ⟨_, rfl, ((hM.wr hr2).wr hr2).wr hr2, ((QMr.w (by omega)).tr (QMr.w (by omega))).tr (QMr.w (by omega)), ?_, ?_, ?_, ?_, fun j j1 j2 j3 j4 => ?_⟩
    · simp (disch := omega) only [w_eq, u_ne, u_eq]
    · simp (disch := omega) only [w_eq, u_ne, u_eq]; exact et
    · simp (disch := omega) only [w_eq, u_ne, u_eq]
    · simp (disch := omega) only [w_eq, u_ne, u_eq]
    · simp (disch := omega) only [w_eq, u_ne]
  | succ d ih =>
    intro q k g hk hq hL hM e22 ev eb e29 et
    obtain ⟨q, rfl⟩ : ∃ m, q = m + 1 := ⟨q - 1, by omega⟩
    obtain ⟨g1, e1, e2, e3⟩ := m_pages35 (p := zN p) (sk := sk) (X12_reads_21 n r q) hL hM hr hr2 hx hf h2 h3 h5 hm h6 (pgs_le hc k) (show k < m by omega) kd hkd e22 ev eb e29 et
    have key : X12_reads_21 n r (q + 1) (zN x) (zN p) sk (zN (3 * fa)) (zN (18 + kd)) (zN k) g = X12_reads_35 n (X12_reads_21 n r q) r (zN x) (zN p) sk (zN (3 * fa)) (zN (18 + kd)) (zN k) (zN k) (zN m) g := by
      rw [X12_reads_21]
      cases sk with
      | true => rw [if_pos rfl, show zN p - (1 : Int32) = zN m by rw [show (1 : Int32) = zN 1 from rfl, hp, zN_sub (by simp)]; rfl]
      | false => rw [if_neg (by decide), show p = m from hp]
    rw [key, e1]
    have er : g1.1 r = g.1 r := e3.1 r (by omega) (by omega) (by omega)
    obtain ⟨g2, s1, s2, s3, s4, s5, s6, s7, s8⟩ := ih q (k + 1) (wI (wI g1 r 22 (zN (cadd (pgs (wr6 hd f (nm (3 + (3 * x + 1))) v b nn t) c k) (wr6 hd f (nm (3 + (3 * x + 1))) v b nn t k)))) r (3 * fa) (zN (t + (k + 1)))) (by omega) (by omega)
      (QMr.land hL ((e3.mr.tr (QMr.w (by omega))).tr (QMr.w (by omega))) (by omega)) ((e2.wr hr2).wr hr2) (by simp (disch := omega) only [w_eq, u_ne, u_eq]; rfl) (by simp (disch := omega) only [w_eq, u_ne, er]; exact ev) (by simp (disch := omega) only [w_eq, u_ne, er]; exact eb) (by simp (disch := omega) only [w_eq, u_ne, er]; exact e29) (by simp (disch := omega) only [w_eq, u_eq])
    refine ⟨g2, s1, s2, ((e3.mr.tr (QMr.w (by omega))).tr (QMr.w (by omega))).tr s3, s4, s5, s6, ?_, fun j j1 j2 j3 j4 => ?_⟩
    · rw [s7]; simp (disch := omega) only [w_eq, u_ne, er]
    · rw [s8 j j1 j2 j3 j4]; simp (disch := omega) only [w_eq, u_ne, er]
theorem m_reads {n nl B H r : Nat} {nm : Nat → Nat} {hd : Int32} {f : Nat → F6} {x v b nn t m c fa p : Nat} {sk : Bool} {h g : Mm} (hn : 20000 ≤ n) (hr : aln r = 211) (hr2 : r = 264 ∨ r = 265) (hx : x < B) (hf : fa < 6) (h2 : v ≤ 9) (h3 : b ≤ 9) (h5 : nn < 16384) (hm : m ≤ 9) (h6 : t + m ≤ 60) (hc : c ≤ 99) (hp : p = if sk then m + 1 else m) (hL : LandR B H nm (h.1 14) (h.1 15) (g.1 251) (g.1 256) (g.1 258) (g.1 260)) (hM : LawM n nl hd f g) (e23 : g.1 r 23 = zN fa) (e22 : g.1 r 22 = zN c) (ev : g.1 r (3 * fa + 1) = zN v) (eb : g.1 r (18 + nm (3 + (3 * x + 2))) = zN b) (e29 : g.1 r 29 = zN nn) (et : g.1 r (3 * fa) = zN t) :
    ∃ g', X12_reads n r (zN x) (zN p) sk g = some ((), g') ∧ LawM n nl hd f g' ∧ QMr r g g' ∧ g'.1 r 22 = zN (fin sk (pgs (wr6 hd f (nm (3 + (3 * x + 1))) v b nn t) c m)) ∧ g'.1 r (3 * fa) = zN (t + m) ∧ g'.1 r (18 + nm (3 + (3 * x + 2))) = zN (min 9 (b + 1)) ∧ g'.1 r 24 = g.1 r 24 ||| ((1 : Int32) <<< (zN x &&& 31)) ∧ ∀ j, j ≠ 22 → j ≠ 3 * fa → j ≠ 18 + nm (3 + (3 * x + 2)) → j ≠ 24 → g'.1 r j = g.1 r j := by
  have kk := (hL.2.2.2.2.2.2.1 x hx).2.2.2
  unfold X12_reads
  have i1 : inB (23 : Int32) (aln r) := by rw [hr]; decide
  have t1 : (23 : Int32).toNatClampNeg = 23 := by decide
  rw [if_pos i1, m_kind hL hx, bp_some, t1, e23, show (3 : Int32) = zN 3 from rfl, show (18 : Int32) = zN 18 from rfl, zN_mul, zN_add]
  exact m_reads21 hr hr2 hx hf h2 h3 h5 hm h6 hc _ (by omega) hp m n 0 g (by omega) (by omega) hL hM e22 ev eb e29 et
