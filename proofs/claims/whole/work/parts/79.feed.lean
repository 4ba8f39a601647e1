/-! feed -/
theorem sh_u (x : Int32) (s : Nat) (hs : s = 0 ∨ s = 8 ∨ s = 16 ∨ s = 24) : (x.toUInt32 >>> ((zN s).toUInt32 &&& Int32.toUInt32 31)).toInt32.toBitVec = x.toBitVec.ushiftRight s := by
  rcases hs with rfl | rfl | rfl | rfl
  all_goals rfl
theorem sh_s (x : Int32) (s : Nat) (hs : s = 0 ∨ s = 8 ∨ s = 16 ∨ s = 24) : (x >>> (zN s &&& 31)).toBitVec = x.toBitVec.sshiftRight s := by
  rcases hs with rfl | rfl | rfl | rfl
  all_goals rfl
theorem b255 : ∀ i, i < 32 → (255#32).getLsbD i = decide (i < 8) := by decide
theorem by_u (x : Int32) (s : Nat) (hs : s = 0 ∨ s = 8 ∨ s = 16 ∨ s = 24) : (x.toUInt32 >>> ((zN s).toUInt32 &&& Int32.toUInt32 31)).toInt32 &&& (255 : Int32) = (x >>> (zN s &&& 31)) &&& (255 : Int32) := by
  apply Int32.toBitVec_inj.mp
  have e1 : ((x.toUInt32 >>> ((zN s).toUInt32 &&& Int32.toUInt32 31)).toInt32 &&& (255 : Int32)).toBitVec = (x.toUInt32 >>> ((zN s).toUInt32 &&& Int32.toUInt32 31)).toInt32.toBitVec &&& 255#32 := rfl
  have e2 : ((x >>> (zN s &&& 31)) &&& (255 : Int32)).toBitVec = (x >>> (zN s &&& 31)).toBitVec &&& 255#32 := rfl
  rw [e1, e2, sh_u x s hs, sh_s x s hs]
  apply BitVec.eq_of_getLsbD_eq
  intro j hj
  rw [BitVec.getLsbD_and, BitVec.getLsbD_and, b255 j hj]
  by_cases c : j < 8
  · have e3 : (x.toBitVec.ushiftRight s).getLsbD j = x.toBitVec.getLsbD (s + j) := BitVec.getLsbD_ushiftRight ..
    rw [e3, BitVec.getLsbD_sshiftRight, if_pos (show s + j < 32 by omega)]
    rw [decide_eq_false (show ¬ 32 ≤ j by omega)]; rfl
  · rw [decide_eq_false c, Bool.and_false, Bool.and_false]
theorem and255 (w : Int32) : ∃ k, k ≤ 255 ∧ w &&& (255 : Int32) = zN k := by
  refine ⟨(w.toBitVec &&& 255#32).toNat, ?_, ?_⟩
  · rw [BitVec.toNat_and]; exact Nat.and_le_right
  · apply Int32.toBitVec_inj.mp
    show w.toBitVec &&& 255#32 = BitVec.ofNat 32 (w.toBitVec &&& 255#32).toNat
    simp
theorem i8_and (w : Int32) : (w &&& (255 : Int32)).toInt8 = w.toInt8 := by
  apply Int8.toBitVec_inj.mp
  show (w.toBitVec &&& 255#32).signExtend 8 = w.toBitVec.signExtend 8
  apply BitVec.eq_of_getLsbD_eq
  intro i hi
  rw [BitVec.getLsbD_signExtend, BitVec.getLsbD_signExtend, if_pos (show i < 32 by omega), if_pos (show i < 32 by omega), BitVec.getLsbD_and, b255 i (by omega), decide_eq_true hi, Bool.and_true]
theorem narc_k : ∀ k, k < 256 → vp_nar .char ((zN k).toUInt32 % 65536).toInt32 = zN k := by decide +kernel
theorem narb_k : ∀ k, k < 256 → vp_nar .byte (zN k).toInt8.toInt32 = (zN k).toInt8.toInt32 := by decide +kernel
def FeC (h h' : Mm) : Prop := (∀ i, i ≠ 1 → i ≠ 2 → h'.1 i = h.1 i) ∧ (∀ k, k ≠ 1 → h'.1 1 k = h.1 1 k) ∧ h'.2 = h.2
def FeM (g g' : Mm) : Prop := (∀ i, i ≠ 251 → i ≠ 252 → g'.1 i = g.1 i) ∧ (∀ k, k ≠ 6 → g'.1 251 k = g.1 251 k) ∧ g'.2 = g.2
theorem FeC.rf {h : Mm} : FeC h h := ⟨fun _ _ _ => rfl, fun _ _ => rfl, rfl⟩
theorem FeM.rf {h : Mm} : FeM h h := ⟨fun _ _ _ => rfl, fun _ _ => rfl, rfl⟩
theorem FeC.tr {a b c : Mm} (p : FeC a b) (q : FeC b c) : FeC a c := ⟨fun i h1 h2 => (q.1 i h1 h2).trans (p.1 i h1 h2), fun k hk => (q.2.1 k hk).trans (p.2.1 k hk), q.2.2.trans p.2.2⟩
theorem FeM.tr {a b c : Mm} (p : FeM a b) (q : FeM b c) : FeM a c := ⟨fun i h1 h2 => (q.1 i h1 h2).trans (p.1 i h1 h2), fun k hk => (q.2.1 k hk).trans (p.2.1 k hk), q.2.2.trans p.2.2⟩
def nb (x : Int32) (s : Nat) : Nat := if (x >>> (zN s &&& 31)) &&& (255 : Int32) = 0 then 0 else 1
def cnt (x : Int32) : Nat := nb x 24 + nb x 16 + nb x 8 + nb x 0
theorem nb_le (x : Int32) (s : Nat) : nb x s ≤ 1 := by unfold nb; split <;> omega
theorem add1 {n sh s f f' : Nat} {x : Int32} {tp : Nat → Nat} {h g : Mm} (hsh : sh = 0 ∨ sh = 8 ∨ sh = 16 ∨ sh = 24) (ht : TapeR s tp (h.1 1) (h.1 2) (g.1 251) (g.1 252)) (hs : s + nb x sh ≤ 240) : ∃ h' g' tp', X7_add_3 n (f + 1) x (zN sh) h = X7_add_3 n f x (zN sh + (-8)) h' ∧ X12_put_3 n (f' + 1) x (zN sh) g = X12_put_3 n f' x (zN sh + (-8)) g' ∧ TapeR (s + nb x sh) tp' (h'.1 1) (h'.1 2) (g'.1 251) (g'.1 252) ∧ FeC h h' ∧ FeM g g' := by
  obtain ⟨⟨t1, t2, t3⟩, t4⟩ := id ht
  unfold nb at hs
  rw [X7_add_3, X12_put_3]
  unfold X7_add_59 X12_put_43
  rw [if_neg (show ¬ zN sh < 0 from zN_neg0 (by omega)), if_neg (show ¬ zN sh < 0 from zN_neg0 (by omega)), by_u x sh hsh]
  by_cases z : (x >>> (zN sh &&& 31)) &&& (255 : Int32) = 0
  · rw [if_pos z, if_pos z]
    have e : nb x sh = 0 := by unfold nb; rw [if_pos z]
    rw [e]
    exact ⟨h, g, tp, rfl, rfl, ht, FeC.rf, FeM.rf⟩
  · have e : nb x sh = 1 := by unfold nb; rw [if_neg z]
    rw [if_neg z] at hs
    obtain ⟨k, hk, ek⟩ := and255 (x >>> (zN sh &&& 31))
    have k1 : 1 ≤ k := by
      cases k with
      | zero => exact absurd ek z
      | succ k => omega
    have e8 : (x >>> (zN sh &&& 31)).toInt8 = (zN k).toInt8 := by rw [← ek]; exact (i8_and _).symm
    rw [if_neg z, if_neg z, t2, t3, if_neg (show ¬ zN s < 0 from zN_neg0 (by omega)), if_neg (show ¬ (240 : Int32) ≤ zN s by rw [zN_lit, zN_le (by decide) (by omega)]; omega), if_pos (show inB (zN s) (aln 2) by rw [al_2, zN_inB (by omega)]; omega), if_pos (show inB (zN s) (aln 252) by rw [al_252, zN_inB (by omega)]; omega), zN_ix (by omega), ek, narc_k k (by omega), e8, narb_k k (by omega), w_ne (by decide : (1 : Nat) ≠ 2), t2, w_ne (by decide : (251 : Nat) ≠ 252), t3, sN1, e]
    refine ⟨_, _, uN tp s k, rfl, rfl, ⟨⟨by omega, by rw [w_eq, u_eq], by rw [w_eq, u_eq]⟩, fun j hj => ?_⟩, ⟨fun i i1 i2 => by rw [w_ne i1, w_ne i2], fun j hj => by rw [w_eq, u_ne hj, w_ne (by decide)], rfl⟩, fun i i1 i2 => by rw [w_ne i1, w_ne i2], fun j hj => by rw [w_eq, u_ne hj, w_ne (by decide)], rfl⟩
    by_cases c : j = s
    · subst c
      rw [uN_eq, w_ne (by decide), w_eq, u_eq, w_ne (by decide), w_eq, u_eq]
      exact ⟨k1, hk, rfl, rfl⟩
    · rw [uN_ne c, w_ne (by decide), w_eq, u_ne c, w_ne (by decide), w_eq, u_ne c]
      exact t4 j (by omega)
theorem add_both {n s : Nat} {x : Int32} {tp : Nat → Nat} {h g : Mm} (hn : 20000 ≤ n) (ht : TapeR s tp (h.1 1) (h.1 2) (g.1 251) (g.1 252)) (hs : s + cnt x ≤ 240) : ∃ h' g' tp', X7_add n x h = some ((), h') ∧ X12_put n x g = some ((), g') ∧ TapeR (s + cnt x) tp' (h'.1 1) (h'.1 2) (g'.1 251) (g'.1 252) ∧ FeC h h' ∧ FeM g g' := by
  obtain ⟨m, em⟩ : ∃ m, n = m + 5 := ⟨n - 5, by omega⟩
  unfold cnt at hs
  unfold X7_add X12_put cnt
  have key : ∀ N, N = m + 5 → ∃ h' g' tp', X7_add_3 n N x (24 : Int32) h = some ((), h') ∧ X12_put_3 n N x (24 : Int32) g = some ((), g') ∧ TapeR (s + (nb x 24 + nb x 16 + nb x 8 + nb x 0)) tp' (h'.1 1) (h'.1 2) (g'.1 251) (g'.1 252) ∧ FeC h h' ∧ FeM g g' := by
    intro N eN
    subst eN
    obtain ⟨h1, g1, tp1, a1, a2, a3, a4, a5⟩ := add1 (n := n) (x := x) (f := m + 4) (f' := m + 4) (sh := 24) (by omega) ht (by omega)
    obtain ⟨h2, g2, tp2, b1, b2, b3, b4, b5⟩ := add1 (n := n) (x := x) (f := m + 3) (f' := m + 3) (sh := 16) (by omega) a3 (by omega)
    obtain ⟨h3, g3, tp3, c1, c2, c3, c4, c5⟩ := add1 (n := n) (x := x) (f := m + 2) (f' := m + 2) (sh := 8) (by omega) b3 (by omega)
    obtain ⟨h4, g4, tp4, d1, d2, d3, d4, d5⟩ := add1 (n := n) (x := x) (f := m + 1) (f' := m + 1) (sh := 0) (by omega) c3 (by omega)
    refine ⟨h4, g4, tp4, ?_, ?_, ?_, ((a4.tr b4).tr c4).tr d4, ((a5.tr b5).tr c5).tr d5⟩
    · rw [show (24 : Int32) = zN 24 from rfl, a1, show zN 24 + (-8) = zN 16 by decide, b1, show zN 16 + (-8) = zN 8 by decide, c1, show zN 8 + (-8) = zN 0 by decide, d1, X7_add_3, if_pos (show zN 0 + (-8) < 0 by decide)]
    · rw [show (24 : Int32) = zN 24 from rfl, a2, show zN 24 + (-8) = zN 16 by decide, b2, show zN 16 + (-8) = zN 8 by decide, c2, show zN 8 + (-8) = zN 0 by decide, d2, X12_put_3, if_pos (show zN 0 + (-8) < 0 by decide)]
    · have e : s + (nb x 24 + nb x 16 + nb x 8 + nb x 0) = s + nb x 24 + nb x 16 + nb x 8 + nb x 0 := by omega
      rw [e]; exact d3
  exact key n em
theorem c_bytes {n : Nat} (x : Int32) (h : Mm) (hn : 20000 ≤ n) : X7_bytesOf n x h = some (zN (cnt x)) := by
  have st : ∀ (f c sh : Nat), (sh = 0 ∨ sh = 8 ∨ sh = 16 ∨ sh = 24) → X7_bytesOf_5 n (f + 1) x (zN c) (zN sh) h = X7_bytesOf_5 n f x (zN (c + nb x sh)) (zN sh + (-8)) h := fun f c sh hsh => by
    rw [X7_bytesOf_5]
    unfold X7_bytesOf_25 nb
    rw [if_neg (show ¬ zN sh < 0 from zN_neg0 (by omega)), by_u x sh hsh]
    by_cases z : (x >>> (zN sh &&& 31)) &&& (255 : Int32) = 0
    · rw [if_pos z, if_pos z, b2i_f, zN_add]
    · rw [if_neg z, if_neg z, b2i_t, zN_add]
  obtain ⟨m, em⟩ : ∃ m, n = m + 5 := ⟨n - 5, by omega⟩
  have key : ∀ N, N = m + 5 → X7_bytesOf_5 n N x (zN 0) (zN 24) h = some (zN (cnt x)) := by
    intro N eN
    subst eN
    rw [st (m + 4) 0 24 (by omega), show zN 24 + (-8) = zN 16 by decide, st (m + 3) _ 16 (by omega), show zN 16 + (-8) = zN 8 by decide, st (m + 2) _ 8 (by omega), show zN 8 + (-8) = zN 0 by decide, st (m + 1) _ 0 (by omega), X7_bytesOf_5, if_pos (show zN 0 + (-8) < 0 by decide)]
    unfold cnt; rw [Nat.zero_add]
  exact key n em
theorem m_bytes {n : Nat} (x : Int32) (h : Mm) (hn : 20000 ≤ n) : X12_bytesIn n x h = some (zN (cnt x)) := by
  have st : ∀ (f c sh : Nat), (sh = 0 ∨ sh = 8 ∨ sh = 16 ∨ sh = 24) → X12_bytesIn_5 n (f + 1) x (zN c) (zN sh) h = X12_bytesIn_5 n f x (zN (c + nb x sh)) (zN sh + (-8)) h := fun f c sh hsh => by
    rw [X12_bytesIn_5]
    unfold X12_bytesIn_25 nb
    rw [if_neg (show ¬ zN sh < 0 from zN_neg0 (by omega))]
    by_cases z : (x >>> (zN sh &&& 31)) &&& (255 : Int32) = 0
    · rw [if_pos z, if_pos z, b2i_f, zN_add]
    · rw [if_neg z, if_neg z, b2i_t, zN_add]
  obtain ⟨m, em⟩ : ∃ m, n = m + 5 := ⟨n - 5, by omega⟩
  have key : ∀ N, N = m + 5 → X12_bytesIn_5 n N x (zN 0) (zN 24) h = some (zN (cnt x)) := by
    intro N eN
    subst eN
    rw [st (m + 4) 0 24 (by omega), show zN 24 + (-8) = zN 16 by decide, st (m + 3) _ 16 (by omega), show zN 16 + (-8) = zN 8 by decide, st (m + 2) _ 8 (by omega), show zN 8 + (-8) = zN 0 by decide, st (m + 1) _ 0 (by omega), X12_bytesIn_5, if_pos (show zN 0 + (-8) < 0 by decide)]
    unfold cnt; rw [Nat.zero_add]
  exact key n em
theorem RW.tape {n B H : Nat} {nm : Nat → Nat} {A nx : Nat} {E : Nat → Nat} {nw sn s s' : Nat} {tp tp' : Nat → Nat} {nl : Nat} {hd : Int32} {f : Nat → F6} {h g h' g' : Mm} (q : RW n B H nm A nx E nw sn s tp nl hd f h g) (fc : FeC h h') (fm : FeM g g') (ht : TapeR s' tp' (h'.1 1) (h'.1 2) (g'.1 251) (g'.1 252)) : RW n B H nm A nx E nw sn s' tp' nl hd f h' g' := by
  obtain ⟨hL, hP, hI, hW, hS, hT, hC, hM, hu⟩ := q
  obtain ⟨c1, c2, c3⟩ := fc
  obtain ⟨m1, m2, m3⟩ := fm
  refine ⟨hL.ag (c1 14 (by decide) (by decide)) (c1 15 (by decide) (by decide)) (m2 26 (by decide)) (m2 27 (by decide)) (m1 256 (by decide) (by decide)) (m1 258 (by decide) (by decide)) (m1 260 (by decide) (by decide)), hP.ag (fun i h1 h2 => c1 i (by omega) (by omega)) (fun i h1 h2 => c1 i (by omega) (by omega)) (c1 39 (by decide) (by decide)) (by rw [c1 37 (by decide) (by decide)]) (by rw [c1 37 (by decide) (by decide)]) (m2 39 (by decide)) (m1 264 (by decide) (by decide)) (m1 268 (by decide) (by decide)), hI.ag (fun i h1 h2 => c1 i (by omega) (by omega)) (by rw [c1 37 (by decide) (by decide)]) (m2 50 (by decide)) (m1 272 (by decide) (by decide)), hW.ag (by rw [c1 9 (by decide) (by decide)]) (c1 11 (by decide) (by decide)) (c1 12 (by decide) (by decide)) (m2 30 (by decide)) (m1 262 (by decide) (by decide)) (m1 263 (by decide) (by decide)), hS.ag (by rw [c1 249 (by decide) (by decide)]) (c1 250 (by decide) (by decide)) (m2 47 (by decide)) (m1 270 (by decide) (by decide)), ht, hC.cg (by rw [c1 16 (by decide) (by decide)]) (by rw [c1 16 (by decide) (by decide)]) (fun i h1 h2 => c1 i (by omega) (by omega)) (by rw [c3]), hM.cg (m2 7 (by decide)) (m2 34 (by decide)) (m1 253 (by decide) (by decide)) (m1 254 (by decide) (by decide)) (by rw [m3]) (m1 267 (by decide) (by decide)), ?_⟩
  rw [c1 0 (by decide) (by decide), m2 35 (by decide)]; exact hu
theorem sim_feed (n : Nat) (hn : 20000 ≤ n) : Sim_feed n (R n) := by
  intro x1 x2 x3 x4 x5 h g hR
  have hR0 := hR.thr 0
  obtain ⟨B, H, nm, A, nx, E, nw, sn, s, tp, nl, hd, f, hR1⟩ := id hR0
  have hQ : RW n B H nm A nx E nw sn s tp nl hd f h (wI g 251 0 0) := hR1
  unfold X11_feed X7_takesIn X12_feed
  generalize wI g 251 0 (0 : Int32) = g0 at *
  have ht := hQ.2.2.2.2.2.1
  obtain ⟨⟨t1, t2, t3⟩, -⟩ := id ht
  have c1 : cnt x1 ≤ 4 := by have := nb_le x1 24; have := nb_le x1 16; have := nb_le x1 8; have := nb_le x1 0; unfold cnt; omega
  have c2 : cnt x2 ≤ 4 := by have := nb_le x2 24; have := nb_le x2 16; have := nb_le x2 8; have := nb_le x2 0; unfold cnt; omega
  have c3 : cnt x3 ≤ 4 := by have := nb_le x3 24; have := nb_le x3 16; have := nb_le x3 8; have := nb_le x3 0; unfold cnt; omega
  have c4 : cnt x4 ≤ 4 := by have := nb_le x4 24; have := nb_le x4 16; have := nb_le x4 8; have := nb_le x4 0; unfold cnt; omega
  have c5 : cnt x5 ≤ 4 := by have := nb_le x5 24; have := nb_le x5 16; have := nb_le x5 8; have := nb_le x5 0; unfold cnt; omega
  rw [c_bytes x1 h hn, c_bytes x2 h hn, c_bytes x3 h hn, c_bytes x4 h hn, c_bytes x5 h hn, m_bytes x1 g0 hn, m_bytes x2 g0 hn, m_bytes x3 g0 hn, m_bytes x4 g0 hn, m_bytes x5 g0 hn]
  simp only [bp_some, t2, t3, zN_add]
  by_cases z : s + cnt x1 + cnt x2 + cnt x3 + cnt x4 + cnt x5 ≤ 240
  · rw [if_pos (show zN (s + cnt x1 + cnt x2 + cnt x3 + cnt x4 + cnt x5) ≤ 240 from (zN_le (b := 240) (by omega) (by decide)).mpr z), if_pos (show zN (s + cnt x1 + cnt x2 + cnt x3 + cnt x4 + cnt x5) ≤ 240 from (zN_le (b := 240) (by omega) (by decide)).mpr z)]
    obtain ⟨h1, g1, tp1, a1, a2, a3, a4, a5⟩ := add_both (x := x1) hn ht (by omega)
    obtain ⟨h2, g2, tp2, b1, b2, b3, b4, b5⟩ := add_both (x := x2) hn a3 (by omega)
    obtain ⟨h3, g3, tp3, d1, d2, d3, d4, d5⟩ := add_both (x := x3) hn b3 (by omega)
    obtain ⟨h4, g4, tp4, e1, e2, e3, e4, e5⟩ := add_both (x := x4) hn d3 (by omega)
    obtain ⟨h5, g5, tp5, f1, f2, f3, f4, f5⟩ := add_both (x := x5) hn e3 (by omega)
    rw [a1, bd_some, b1, bd_some, d1, bd_some, e1, bd_some, f1, bd_some, bd_some, if_pos rfl, a2, bd_some, b2, bd_some, d2, bd_some, e2, bd_some, f2, bd_some, f3.1.2.1, f3.1.2.2]
    exact ⟨_, h5, g5, rfl, rfl, (hQ.tape ((((a4.tr b4).tr d4).tr e4).tr f4) ((((a5.tr b5).tr d5).tr e5).tr f5) f3).r⟩
  · rw [if_neg (show ¬ zN (s + cnt x1 + cnt x2 + cnt x3 + cnt x4 + cnt x5) ≤ 240 by rw [zN_lit, zN_le (by omega) (by decide)]; exact z), if_neg (show ¬ zN (s + cnt x1 + cnt x2 + cnt x3 + cnt x4 + cnt x5) ≤ 240 by rw [zN_lit, zN_le (by omega) (by decide)]; exact z)]
    exact ⟨_, h, g0, rfl, rfl, hR0⟩
