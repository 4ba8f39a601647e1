/-! Int64 as naturals -/
def qN (k : Nat) : Int64 := Int64.ofNat k
theorem qN_ti {k : Nat} (h : k < 9223372036854775808) : (qN k).toInt = (k : Int) := Int64.toInt_ofNat_of_lt h
theorem q64 {a : Nat} (ha : a < 2147483648) : (zN a).toInt64 = qN a := by
  apply Int64.toInt_inj.mp
  rw [Int32.toInt_toInt64, zN_ti ha, qN_ti (by omega)]
theorem qN_lit (n : Nat) : (@OfNat.ofNat Int64 n _) = qN (@OfNat.ofNat Nat n (instOfNatNat n)) := by exact Eq.trans rfl rfl
theorem qN_add (a b : Nat) : qN a + qN b = qN (a + b) := (Int64.ofNat_add a b).symm
theorem qN_mul (a b : Nat) : qN a * qN b = qN (a * b) := (Int64.ofNat_mul a b).symm
theorem qN_eq {a b : Nat} (ha : a < 9223372036854775808) (hb : b < 9223372036854775808) : qN a = qN b ↔ a = b := by
  rw [← Int64.toInt_inj, qN_ti ha, qN_ti hb]; omega
theorem qN_32 (a : Nat) : (qN a).toInt32 = zN a := Int64.toInt32_ofNat'
theorem qI_N (k : Nat) : Int64.ofInt (k : Int) = qN k := Int64.ofInt_eq_ofNat
theorem qN_sub {a b : Nat} (h : b ≤ a) : qN a - qN b = qN (a - b) := by
  rw [← qI_N, ← qI_N, ← qI_N, ← Int64.ofInt_sub]; congr 1; omega
theorem qN_div {a b : Nat} (ha : a < 9223372036854775808) (hb : b < 9223372036854775808) : qN a / qN b = qN (a / b) := by
  apply Int64.toInt_inj.mp
  rw [Int64.toInt_div, qN_ti ha, qN_ti hb, qN_ti (Nat.lt_of_le_of_lt (Nat.div_le_self a b) ha), ← Int.ofNat_tdiv]
  have h1 := Nat.div_le_self a b
  generalize a / b = q at *
  exact Int.bmod_eq_of_le (by omega) (by omega)
theorem qN_mod {a b : Nat} (ha : a < 9223372036854775808) (hb : b < 9223372036854775808) : qN a - qN a / qN b * qN b = qN (a % b) := by
  rw [qN_div ha hb, qN_mul, qN_sub (Nat.div_mul_le_self a b)]
  congr 1
  have := Nat.div_add_mod a b
  rw [Nat.mul_comm] at this
  omega
theorem qN_sar5 {m : Nat} (hm : m < 9223372036854775808) : qN m >>> ((5 : Int32).toInt64 &&& 63) = qN (m / 32) := by
  apply Int64.toBitVec_inj.mp
  have e1 : (((5 : Int32).toInt64 &&& 63 : Int64).toBitVec.smod 64).toNat = 5 := by decide +kernel
  show (BitVec.ofNat 64 m).sshiftRight ((((5 : Int32).toInt64 &&& 63 : Int64).toBitVec.smod 64).toNat) = BitVec.ofNat 64 (m / 32)
  rw [e1, BitVec.sshiftRight_eq_of_msb_false (by rw [BitVec.msb_eq_false_iff_two_mul_lt, BitVec.toNat_ofNat]; omega)]
  apply BitVec.eq_of_toNat_eq
  rw [BitVec.toNat_ushiftRight, BitVec.toNat_ofNat, BitVec.toNat_ofNat, Nat.shiftRight_eq_div_pow]
  omega
theorem qN_and31 (m : Nat) : qN m &&& 31 = qN (m % 32) := by
  apply Int64.toBitVec_inj.mp
  show BitVec.ofNat 64 m &&& BitVec.ofNat 64 31 = BitVec.ofNat 64 (m % 32)
  have e : ∀ x : Nat, x &&& 31 = x % 32 := fun x => Nat.and_two_pow_sub_one_eq_mod x 5
  apply BitVec.eq_of_toNat_eq
  rw [BitVec.toNat_and, BitVec.toNat_ofNat, BitVec.toNat_ofNat, BitVec.toNat_ofNat, show 31 % 2 ^ 64 = 31 from by decide, e]
  omega
theorem qN_shl5 (m : Nat) : qN m <<< ((5 : Int32).toInt64 &&& 63) = qN (m * 32) := by
  apply Int64.toBitVec_inj.mp
  have e1 : (((5 : Int32).toInt64 &&& 63 : Int64).toBitVec.smod 64).toNat = 5 := by decide +kernel
  show (BitVec.ofNat 64 m) <<< ((((5 : Int32).toInt64 &&& 63 : Int64).toBitVec.smod 64).toNat) = BitVec.ofNat 64 (m * 32)
  rw [e1]
  apply BitVec.eq_of_toNat_eq
  rw [BitVec.toNat_shiftLeft, BitVec.toNat_ofNat, BitVec.toNat_ofNat, Nat.shiftLeft_eq]
  omega
/-! what a page is worth -/
def kE (hd x1 x2 x3 x4 x5 x6 : Int32) : Int64 := ((((((((((((hd.toInt64 * (10 : Int64)) + x1.toInt64) * (10 : Int64)) + x2.toInt64) * (64 : Int64)) + x6.toInt64) * (10 : Int64)) + x3.toInt64) * (10 : Int64)) + x4.toInt64) * (16384 : Int64)) + x5.toInt64)
def sE (k : Int64) : Int32 := (((k * (-7046029254386353131 : Int64)).toUInt64 >>> ((53 : Int32).toInt64.toUInt64 &&& Int64.toUInt64 63)).toInt64).toInt32
theorem sE_ex (k : Int64) : ∃ s, s < 2048 ∧ sE k = zN s := by
  unfold sE
  generalize (k * (-7046029254386353131 : Int64)).toUInt64 = x
  have hx := x.toNat_lt
  refine ⟨x.toNat / 9007199254740992, by omega, ?_⟩
  have e : x >>> ((53 : Int32).toInt64.toUInt64 &&& Int64.toUInt64 63) = UInt64.ofNat (x.toNat / 9007199254740992) := by
    apply UInt64.toNat_inj.mp
    have e2 : (UInt64.ofNat (x.toNat / 9007199254740992)).toNat = x.toNat / 9007199254740992 := UInt64.toNat_ofNat_of_lt' (by have := Nat.div_le_self x.toNat 9007199254740992; have e3 : UInt64.size = 18446744073709551616 := rfl; omega)
    rw [UInt64.toNat_shiftRight, show ((53 : Int32).toInt64.toUInt64 &&& Int64.toUInt64 63).toNat % 64 = 53 from by decide +kernel, Nat.shiftRight_eq_div_pow, e2]
  rw [e, UInt64.toInt64_ofNat']
  exact Int64.toInt32_ofNat'
theorem c_wf (n : Nat) (x1 x2 x3 x4 x5 x6 : Int32) (h : Mm) : X4_worthOf n x1 x2 x3 x4 x5 x6 h = (if 0 ≤ (h.1 16 6) then (if sE (kE (h.1 16 6) x1 x2 x3 x4 x5 x6) < 0 then (some ((-9 : Int32), h)) else (if sE (kE (h.1 16 6) x1 x2 x3 x4 x5 x6) < (2048 : Int32) then (if inB (sE (kE (h.1 16 6) x1 x2 x3 x4 x5 x6)) (aln 25) then (if (lg_cmp ((h.2 25 (sE (kE (h.1 16 6) x1 x2 x3 x4 x5 x6)).toNatClampNeg) >>> ((5 : Int32).toInt64 &&& 63)) (kE (h.1 16 6) x1 x2 x3 x4 x5 x6)) = 0 then (if inB (sE (kE (h.1 16 6) x1 x2 x3 x4 x5 x6)) (aln 25) then (if (lg_cmp (h.2 25 (sE (kE (h.1 16 6) x1 x2 x3 x4 x5 x6)).toNatClampNeg) (0 : Int64)) = 0 then (X4_worthOf_135 n x1 x2 x3 x4 x5 x6 (kE (h.1 16 6) x1 x2 x3 x4 x5 x6) (sE (kE (h.1 16 6) x1 x2 x3 x4 x5 x6)) h) else (X4_worthOf_220 n (sE (kE (h.1 16 6) x1 x2 x3 x4 x5 x6)) h)) else none) else (X4_worthOf_135 n x1 x2 x3 x4 x5 x6 (kE (h.1 16 6) x1 x2 x3 x4 x5 x6) (sE (kE (h.1 16 6) x1 x2 x3 x4 x5 x6)) h)) else none) else (some ((-9 : Int32), h)))) else (bp (X11_within (-9 : Int32) ((x1 + (x2 / (3 : Int32))) - x3) (20 : Int32) h) (fun r74 => (some (r74, h))))) := by
  exact Eq.trans rfl rfl
theorem c_within (lo x hi : Int32) (h : Mm) : X11_within lo x hi h = some (clmp lo x hi) := by
  unfold X11_within clmp
  by_cases a : lo ≤ x
  · rw [if_pos a, if_neg (Int32.not_lt.mpr a)]
    by_cases b : x ≤ hi
    · rw [if_pos b, if_neg (Int32.not_lt.mpr b)]
    · rw [if_neg b, if_pos (Int32.not_le.mp b)]
  · rw [if_neg a, if_pos (Int32.not_le.mp a)]
theorem clmp_rng (x : Int32) : -9 ≤ (clmp (-9) x 20).toInt ∧ (clmp (-9) x 20).toInt ≤ 20 := by
  unfold clmp
  have e1 : (-9 : Int32).toInt = -9 := by decide
  have e2 : (20 : Int32).toInt = 20 := by decide
  by_cases a : x < -9
  · rw [if_pos a, e1]; omega
  · rw [if_neg a]
    by_cases b : (20 : Int32) < x
    · rw [if_pos b, e2]; omega
    · rw [if_neg b]; rw [Int32.lt_iff_toInt_lt] at a b; omega
theorem keyC_lt {j c v b p nn t : Nat} (h0 : j < 4) (h1 : c ≤ 9) (h2 : v ≤ 9) (h3 : b ≤ 9) (h4 : p ≤ 9) (h5 : nn < 16384) (h6 : t < 64) : keyC j c v b p nn t < 100000000000 := by
  unfold keyC; omega
theorem keyC_inj {j c v b p nn t j' c' v' b' p' nn' t' : Nat} (h1 : c ≤ 9) (h2 : v ≤ 9) (h3 : b ≤ 9) (h4 : p ≤ 9) (h5 : nn < 16384) (h6 : t < 64) (k1 : c' ≤ 9) (k2 : v' ≤ 9) (k3 : b' ≤ 9) (k4 : p' ≤ 9) (k5 : nn' < 16384) (k6 : t' < 64) (e : keyC j c v b p nn t = keyC j' c' v' b' p' nn' t') : j = j' ∧ c = c' ∧ v = v' ∧ b = b' ∧ p = p' ∧ nn = nn' ∧ t = t' := by
  unfold keyC at e
  have e1 : nn = nn' := by omega
  subst e1
  have e2 : ((((j * 10 + c) * 10 + v) * 64 + t) * 10 + b) * 10 + p = ((((j' * 10 + c') * 10 + v') * 64 + t') * 10 + b') * 10 + p' := by omega
  have e3 : p = p' := by omega
  subst e3
  have e4 : (((j * 10 + c) * 10 + v) * 64 + t) * 10 + b = (((j' * 10 + c') * 10 + v') * 64 + t') * 10 + b' := by omega
  have e5 : b = b' := by omega
  subst e5
  have e6 : ((j * 10 + c) * 10 + v) * 64 + t = ((j' * 10 + c') * 10 + v') * 64 + t' := by omega
  have e7 : t = t' := by omega
  subst e7
  have e8 : (j * 10 + c) * 10 + v = (j' * 10 + c') * 10 + v' := by omega
  omega
theorem keyM_lt {j c v b p nn t : Nat} (h0 : j < 4) (h1 : c ≤ 9) (h2 : v ≤ 9) (h3 : b ≤ 9) (h4 : p ≤ 9) (h5 : nn < 100000) (h6 : t < 100) : keyM j c v b p nn t < 1000000000000 ∧ 1 ≤ keyM j c v b p nn t := by
  unfold keyM; omega
theorem keyM_inj {j c v b p nn t j' c' v' b' p' nn' t' : Nat} (h1 : c ≤ 9) (h2 : v ≤ 9) (h3 : b ≤ 9) (h4 : p ≤ 9) (h5 : nn < 100000) (h6 : t < 100) (k1 : c' ≤ 9) (k2 : v' ≤ 9) (k3 : b' ≤ 9) (k4 : p' ≤ 9) (k5 : nn' < 100000) (k6 : t' < 100) (e : keyM j c v b p nn t = keyM j' c' v' b' p' nn' t') : j = j' ∧ c = c' ∧ v = v' ∧ b = b' ∧ p = p' ∧ nn = nn' ∧ t = t' := by
  unfold keyM at e
  have e1 : nn = nn' := by omega
  subst e1
  have e2 : (((((1 + j) * 10 + c) * 10 + v) * 10 + b) * 10 + p) * 100 + t = (((((1 + j') * 10 + c') * 10 + v') * 10 + b') * 10 + p') * 100 + t' := by omega
  have e3 : t = t' := by omega
  subst e3
  have e4 : ((((1 + j) * 10 + c) * 10 + v) * 10 + b) * 10 + p = ((((1 + j') * 10 + c') * 10 + v') * 10 + b') * 10 + p' := by omega
  have e5 : p = p' := by omega
  subst e5
  have e6 : (((1 + j) * 10 + c) * 10 + v) * 10 + b = (((1 + j') * 10 + c') * 10 + v') * 10 + b' := by omega
  omega
theorem kv_val {w : Int32} (h1 : -9 ≤ w.toInt) (h2 : w.toInt ≤ 20) (K : Nat) : ∃ u, 1 ≤ u ∧ u ≤ 30 ∧ Int64.ofInt ((K : Int) * 32 + w.toInt + 10) = qN (K * 32 + u) ∧ zN u - (10 : Int32) = w := by
  refine ⟨(w.toInt + 10).toNat, by omega, by omega, ?_, ?_⟩
  · rw [← qI_N]; congr 1; omega
  · rw [show (10 : Int32) = zN 10 from rfl, zN_subI]
    have e : (((w.toInt + 10).toNat : Nat) : Int) - (10 : Nat) = w.toInt := by omega
    rw [e, zI_self]
theorem kv_new (w : Int32) (K : Nat) : (qN K <<< ((5 : Int32).toInt64 &&& 63)) + w.toInt64 + (10 : Int64) = Int64.ofInt ((K : Int) * 32 + w.toInt + 10) := by
  rw [qN_shl5, Int64.ofInt_add, Int64.ofInt_add, Int64.ofInt_int32ToInt, ← qI_N]
  rfl
/-- what reckoning a page's worth may change -/
def QC (h h' : Mm) : Prop := (∀ i, i ≠ 16 → i ≠ 23 → i ≠ 24 → h'.1 i = h.1 i) ∧ (∀ k, k ≠ 7 → h'.1 16 k = h.1 16 k) ∧ ∀ i, i ≠ 25 → h'.2 i = h.2 i
def QM (g g' : Mm) : Prop := (∀ i, i ≠ 251 → i ≠ 255 → i ≠ 267 → g'.1 i = g.1 i) ∧ (∀ k, sc251 k = false → g'.1 251 k = g.1 251 k) ∧ ∀ i, i ≠ 266 → g'.2 i = g.2 i
theorem QC.rf {h : Mm} : QC h h := ⟨fun _ _ _ _ => rfl, fun _ _ => rfl, fun _ _ => rfl⟩
theorem QM.rf {h : Mm} : QM h h := ⟨fun _ _ _ _ => rfl, fun _ _ => rfl, fun _ _ => rfl⟩
theorem QC.tr {a b c : Mm} (p : QC a b) (q : QC b c) : QC a c := ⟨fun i h1 h2 h3 => (q.1 i h1 h2 h3).trans (p.1 i h1 h2 h3), fun k hk => (q.2.1 k hk).trans (p.2.1 k hk), fun i hi => (q.2.2 i hi).trans (p.2.2 i hi)⟩
theorem QM.tr {a b c : Mm} (p : QM a b) (q : QM b c) : QM a c := ⟨fun i h1 h2 h3 => (q.1 i h1 h2 h3).trans (p.1 i h1 h2 h3), fun k hk => (q.2.1 k hk).trans (p.2.1 k hk), fun i hi => (q.2.2 i hi).trans (p.2.2 i hi)⟩
theorem lbN {k : Nat} (h : k ≤ 100000) : lbd (zN k) := by unfold lbd; rw [zN_ti (by omega)]; omega
theorem c_135 {n nl j : Nat} {f : Nat → F6} {h : Mm} (hC : LawC n nl (zN j) f h) (hj : j < nl) {c v b p nn t s : Nat} (h1 : c ≤ 9) (h2 : v ≤ 9) (h3 : b ≤ 9) (h4 : p ≤ 9) (h5 : nn < 16384) (h6 : t < 64) (hs : s < 2048) :
    ∃ h', X4_worthOf_135 n (zN c) (zN v) (zN b) (zN p) (zN nn) (zN t) (qN (keyC j c v b p nn t)) (zN s) h = some (clmp (-9) (f j (zN c) (zN v) (zN b) (zN p) (zN nn) (zN t)) 20, h') ∧ LawC n nl (zN j) f h' ∧ QC h h' := by
  obtain ⟨⟨z1, z2, z3, z4⟩, q2, q3⟩ := id hC
  have i3 : inB (zN s) (aln 25) := by rw [al_25, zN_inB (by omega)]; exact hs
  have ix : (zN s).toNatClampNeg = s := zN_ix (by omega)
  unfold X4_worthOf_135
  rw [show ∀ h, X11_put 23 (0 : Int32) (zN c) h = some ((), wI h 23 0 (zN c)) from fun h => pu_23 (x := 0) (by decide), bd_some,
    show ∀ h, X11_put 23 (1 : Int32) (zN v) h = some ((), wI h 23 1 (zN v)) from fun h => pu_23 (x := 1) (by decide), bd_some,
    show ∀ h, X11_put 23 (2 : Int32) (zN b) h = some ((), wI h 23 2 (zN b)) from fun h => pu_23 (x := 2) (by decide), bd_some,
    show ∀ h, X11_put 23 (3 : Int32) (zN p) h = some ((), wI h 23 3 (zN p)) from fun h => pu_23 (x := 3) (by decide), bd_some,
    show ∀ h, X11_put 23 (4 : Int32) (zN nn) h = some ((), wI h 23 4 (zN nn)) from fun h => pu_23 (x := 4) (by decide), bd_some,
    show ∀ h, X11_put 23 (5 : Int32) (zN t) h = some ((), wI h 23 5 (zN t)) from fun h => pu_23 (x := 5) (by decide), bd_some]
  obtain ⟨h7, ev, fr1, fr2, fr3⟩ := q2 j hj (wI (wI (wI (wI (wI (wI h 23 0 (zN c)) 23 1 (zN v)) 23 2 (zN b)) 23 3 (zN p)) 23 4 (zN nn)) 23 5 (zN t)) (fun k _ => by simp (disch := omega) only [w_ne]) (by simp (disch := omega) only [w_ne]) (by simp (disch := omega) only [w_ne]; exact z3) (fun i hi => by
    obtain rfl | rfl | rfl | rfl | rfl | rfl : i = 0 ∨ i = 1 ∨ i = 2 ∨ i = 3 ∨ i = 4 ∨ i = 5 := by omega
    all_goals (simp (disch := omega) only [w_eq, u_ne, u_eq]; exact lbN (by omega)))
  simp (disch := omega) only [w_eq, u_ne, u_eq] at ev
  rw [ev, bd_some, c_within, bp_some, if_pos i3, ix]
  have rg := clmp_rng (f j (zN c) (zN v) (zN b) (zN p) (zN nn) (zN t))
  generalize ew : clmp (-9) (f j (zN c) (zN v) (zN b) (zN p) (zN nn) (zN t)) 20 = w at *
  obtain ⟨u, u1, u2, e1, e2⟩ := kv_val rg.1 rg.2 (keyC j c v b p nn t)
  rw [kv_new]
  unfold X4_worthOf_220
  rw [if_pos i3, ix, wl_eq, ul_eq]
  have val : (Int64.ofInt ((keyC j c v b p nn t : Int) * 32 + w.toInt + 10) &&& 31).toInt32 - 10 = w := by
    rw [e1, qN_and31, qN_32, show (keyC j c v b p nn t * 32 + u) % 32 = u by omega, e2]
  rw [val]
  refine ⟨_, rfl, ⟨⟨z1, ?_, ?_, z4⟩, fun j' hj' => ?_, fun s' hs' => ?_⟩, fun i q16 q23 q24 => ?_, fun k hk => ?_, fun i hi => ?_⟩
  · rw [wl_1, fr2 5 (by decide)]; simp (disch := omega) only [w_ne]; exact z2
  · rw [wl_1, fr2 6 (by decide)]; simp (disch := omega) only [w_ne]; exact z3
  · rw [wl_1, fr1 (18 + j') (by omega) (by omega), fr1 22 (by omega) (by omega)]; simp (disch := omega) only [w_ne]; exact q2 j' hj'
  · rw [wl_eq]
    by_cases d : s' = s
    · subst d
      rw [ul_eq]
      exact Or.inr ⟨j, c, v, b, p, nn, t, hj, h1, h2, h3, h4, h5, h6, by rw [ew]⟩
    · rw [ul_ne d, fr3]; exact q3 s' hs'
  · rw [wl_1, fr1 i q16 q24]; simp (disch := omega) only [w_ne]
  · rw [wl_1, fr2 k hk]; simp (disch := omega) only [w_ne]
  · rw [wl_ne hi, fr3]; rfl
theorem c_worth {n nl : Nat} {hd : Int32} {f : Nat → F6} {h : Mm} (hC : LawC n nl hd f h) {c v b p nn t : Nat} (h1 : c ≤ 9) (h2 : v ≤ 9) (h3 : b ≤ 9) (h4 : p ≤ 9) (h5 : nn < 16384) (h6 : t < 64) :
    ∃ h', X4_worthOf n (zN c) (zN v) (zN b) (zN p) (zN nn) (zN t) h = some (wv hd f c v b p nn t, h') ∧ LawC n nl hd f h' ∧ QC h h' := by
  obtain ⟨⟨z1, z2, z3, z4⟩, q2, q3⟩ := id hC
  rcases z4 with z4 | ⟨j, hj, z4⟩
  · refine ⟨h, ?_, hC, QC.rf⟩
    rw [c_wf, z3, z4, if_neg (by decide), c_within, bp_some]
    unfold wv; rw [if_pos rfl]; rfl
  · subst z4
    have eK : kE (h.1 16 6) (zN c) (zN v) (zN b) (zN p) (zN nn) (zN t) = qN (keyC j c v b p nn t) := by
      rw [z3]; unfold kE keyC; simp (disch := omega) only [q64, qN_lit, qN_add, qN_mul]
    obtain ⟨s, hs, es⟩ := sE_ex (qN (keyC j c v b p nn t))
    have i3 : inB (zN s) (aln 25) := by rw [al_25, zN_inB (by omega)]; exact hs
    have ix : (zN s).toNatClampNeg = s := zN_ix (by omega)
    have kl := keyC_lt (j := j) (by omega) h1 h2 h3 h4 h5 h6
    have ev : wv (zN j) f c v b p nn t = clmp (-9) (f j (zN c) (zN v) (zN b) (zN p) (zN nn) (zN t)) 20 := by
      unfold wv
      rw [if_neg (fun q => by have := congrArg Int32.toInt q; rw [zN_ti (by omega)] at this; have e9 : (-1 : Int32).toInt = -1 := by decide
                              omega), zN_ix (by omega)]
    have comp := c_135 hC hj h1 h2 h3 h4 h5 h6 hs
    rw [c_wf, eK, es, z3, if_pos (show (0 : Int32) ≤ zN j from (zN_le (a := 0) (by decide) (by omega)).mpr (by omega)), if_neg (show ¬ zN s < 0 from zN_neg0 (by omega)), if_pos (show zN s < 2048 from (zN_lt (b := 2048) (by omega) (by decide)).mpr hs), if_pos i3, if_pos i3, ix, ev]
    rcases q3 s hs with q | ⟨j', c', v', b', p', nn', t', hj', k1, k2, k3, k4, k5, k6, q⟩
    · rw [if_pos ((lg_cmp_eq _ _).mpr q)]
      by_cases d : lg_cmp (h.2 25 s >>> ((5 : Int32).toInt64 &&& 63)) (qN (keyC j c v b p nn t)) = 0
      · rw [if_pos d]; exact comp
      · rw [if_neg d]; exact comp
    · have rg := clmp_rng (f j' (zN c') (zN v') (zN b') (zN p') (zN nn') (zN t'))
      generalize ew : clmp (-9) (f j' (zN c') (zN v') (zN b') (zN p') (zN nn') (zN t')) 20 = w at *
      obtain ⟨u, u1, u2, e1, e2⟩ := kv_val rg.1 rg.2 (keyC j' c' v' b' p' nn' t')
      have kl' := keyC_lt (j := j') (by omega) k1 k2 k3 k4 k5 k6
      rw [q, e1, qN_sar5 (by omega), show (keyC j' c' v' b' p' nn' t' * 32 + u) / 32 = keyC j' c' v' b' p' nn' t' by omega]
      by_cases d : keyC j' c' v' b' p' nn' t' = keyC j c v b p nn t
      · rw [d, if_pos ((lg_cmp_eq _ _).mpr rfl), if_neg (fun z => by rw [lg_cmp_eq, qN_lit, qN_eq (by omega) (by decide)] at z; omega)]
        obtain ⟨rfl, rfl, rfl, rfl, rfl, rfl, rfl⟩ := keyC_inj k1 k2 k3 k4 k5 k6 h1 h2 h3 h4 h5 h6 d
        unfold X4_worthOf_220
        rw [if_pos i3, ix, q, e1, qN_and31, qN_32, show (keyC j' c' v' b' p' nn' t' * 32 + u) % 32 = u by omega, e2, ew]
        exact ⟨h, rfl, hC, QC.rf⟩
      · rw [if_neg (fun z => by rw [lg_cmp_eq, qN_eq (by omega) (by omega)] at z; exact d z)]
        exact comp
/-! the model's -/
def kF (law c x2 x3 x4 x5 x6 : Int32) : Int64 := (((100000 : Int64) * (((100 : Int64) * (((10 : Int64) * (((10 : Int64) * (((10 : Int64) * (((10 : Int64) * ((1 : Int64) + law.toInt64)) + c.toInt64)) + x2.toInt64)) + x3.toInt64)) + x4.toInt64)) + x6.toInt64)) + x5.toInt64)
def sF (k : Int64) : Int32 := (k - k / (8191 : Int64) * (8191 : Int64)).toInt32
def m6 (h : Mm) (c x2 x3 x4 x5 x6 : Int32) : Mm := wI (wI (wI (wI (wI (wI h 255 (99 : Int32).toNatClampNeg c) 255 (118 : Int32).toNatClampNeg x2) 255 (98 : Int32).toNatClampNeg x3) 255 (112 : Int32).toNatClampNeg x4) 255 (110 : Int32).toNatClampNeg x5) 255 (116 : Int32).toNatClampNeg x6
def m7 (h6 : Mm) (K : Int64) : Mm := wI (wL h6 266 (sF K).toNatClampNeg K) 267 (sF K).toNatClampNeg ((wL h6 266 (sF K).toNatClampNeg K).1 251 14)
theorem m_pw (n : Nat) (x1 x2 x3 x4 x5 x6 : Int32) (h : Mm) : X12_pageWorth n x1 x2 x3 x4 x5 x6 h = (if (h.1 251 34) = (-1 : Int32) then (if inB (((3 : Int32) * x1) + (1 : Int32)) (aln 258) then (some ((((h.1 258 (((3 : Int32) * x1) + (1 : Int32)).toNatClampNeg) + (x2 / (3 : Int32))) - x3), h)) else none) else (if inB (((3 : Int32) * x1) + (1 : Int32)) (aln 258) then (if inB (sF (kF (h.1 251 34) (h.1 258 (((3 : Int32) * x1) + (1 : Int32)).toNatClampNeg) x2 x3 x4 x5 x6)) (aln 266) then (if (lg_cmp (h.2 266 (sF (kF (h.1 251 34) (h.1 258 (((3 : Int32) * x1) + (1 : Int32)).toNatClampNeg) x2 x3 x4 x5 x6)).toNatClampNeg) (kF (h.1 251 34) (h.1 258 (((3 : Int32) * x1) + (1 : Int32)).toNatClampNeg) x2 x3 x4 x5 x6)) = 0 then (if inB (sF (kF (h.1 251 34) (h.1 258 (((3 : Int32) * x1) + (1 : Int32)).toNatClampNeg) x2 x3 x4 x5 x6)) (aln 267) then (some ((h.1 267 (sF (kF (h.1 251 34) (h.1 258 (((3 : Int32) * x1) + (1 : Int32)).toNatClampNeg) x2 x3 x4 x5 x6)).toNatClampNeg), h)) else none) else (if inB (((3 : Int32) * x1) + (1 : Int32)) (aln 258) then (if inB (99 : Int32) (aln 255) then (if inB (118 : Int32) (aln 255) then (if inB (98 : Int32) (aln 255) then (if inB (112 : Int32) (aln 255) then (if inB (110 : Int32) (aln 255) then (if inB (116 : Int32) (aln 255) then (if inB ((m6 h (h.1 258 (((3 : Int32) * x1) + (1 : Int32)).toNatClampNeg) x2 x3 x4 x5 x6).1 251 34) (aln 254) then (bd (X12_goThrough n 253 ((240 : Int32) * ((m6 h (h.1 258 (((3 : Int32) * x1) + (1 : Int32)).toNatClampNeg) x2 x3 x4 x5 x6).1 251 34)) ((m6 h (h.1 258 (((3 : Int32) * x1) + (1 : Int32)).toNatClampNeg) x2 x3 x4 x5 x6).1 254 ((m6 h (h.1 258 (((3 : Int32) * x1) + (1 : Int32)).toNatClampNeg) x2 x3 x4 x5 x6).1 251 34).toNatClampNeg) (m6 h (h.1 258 (((3 : Int32) * x1) + (1 : Int32)).toNatClampNeg) x2 x3 x4 x5 x6)) (fun _ h6 => (if inB (sF (kF (h.1 251 34) (h.1 258 (((3 : Int32) * x1) + (1 : Int32)).toNatClampNeg) x2 x3 x4 x5 x6)) (aln 266) then (if inB (sF (kF (h.1 251 34) (h.1 258 (((3 : Int32) * x1) + (1 : Int32)).toNatClampNeg) x2 x3 x4 x5 x6)) (aln 267) then (some ((m7 h6 (kF (h.1 251 34) (h.1 258 (((3 : Int32) * x1) + (1 : Int32)).toNatClampNeg) x2 x3 x4 x5 x6)).1 251 14, m7 h6 (kF (h.1 251 34) (h.1 258 (((3 : Int32) * x1) + (1 : Int32)).toNatClampNeg) x2 x3 x4 x5 x6))) else none) else none))) else none) else none) else none) else none) else none) else none) else none) else none)) else none) else none)) := by
  exact Eq.trans rfl rfl
theorem m_worth {n nl B H : Nat} {hd : Int32} {f : Nat → F6} {nm : Nat → Nat} {h g : Mm} (hL : LandR B H nm (h.1 14) (h.1 15) (g.1 251) (g.1 256) (g.1 258) (g.1 260)) (hM : LawM n nl hd f g) {x v b p nn t : Nat} (hx : x < B) (h2 : v ≤ 9) (h3 : b ≤ 9) (h4 : p ≤ 9) (h5 : nn < 16384) (h6 : t < 64) :
    ∃ g', X12_pageWorth n (zN x) (zN v) (zN b) (zN p) (zN nn) (zN t) g = some ((if hd = -1 then zN (nm (3 + (3 * x + 1))) + zN v / zN 3 - zN b else f hd.toNatClampNeg (zN (nm (3 + (3 * x + 1)))) (zN v) (zN b) (zN p) (zN nn) (zN t)), g') ∧ LawM n nl hd f g' ∧ QM g g' := by
  obtain ⟨⟨z1, z2, z3, z4⟩, q2, q3⟩ := id hM
  have hB := hL.2.1.1
  have ec := (hL.2.2.2.1 (3 * x + 1) (by omega)).2
  have h1 := (hL.2.2.2.2.2.2.1 x hx).2.2.1
  generalize nm (3 + (3 * x + 1)) = c at *
  have ei : ((3 : Int32) * zN x) + (1 : Int32) = zN (3 * x + 1) := by simp only [zN_lit, zN_mul, zN_add]
  have ib : inB (zN (3 * x + 1)) (aln 258) := by rw [al_258, zN_inB (by omega)]; omega
  rcases z4 with z4 | ⟨j, hj, z4⟩
  · refine ⟨g, ?_, hM, QM.rf⟩
    rw [m_pw, z3, z4, if_pos rfl, if_pos rfl, ei, if_pos ib, zN_ix (by omega), ec]; rfl
  · subst z4
    have eK : kF (zN j) (zN c) (zN v) (zN b) (zN p) (zN nn) (zN t) = qN (keyM j c v b p nn t) := by
      unfold kF
      simp (disch := omega) only [q64, qN_lit, qN_add, qN_mul]
      congr 1; unfold keyM; omega
    obtain ⟨kl, kl1⟩ := keyM_lt (j := j) (nn := nn) (t := t) (by omega) h1 h2 h3 h4 (by omega) (by omega)
    have es : sF (qN (keyM j c v b p nn t)) = zN (keyM j c v b p nn t % 8191) := by
      unfold sF
      rw [show (8191 : Int64) = qN 8191 from rfl, qN_mod (by omega) (by decide), qN_32]
    have hs : keyM j c v b p nn t % 8191 < 8191 := Nat.mod_lt _ (by decide)
    have ix : (zN (keyM j c v b p nn t % 8191)).toNatClampNeg = keyM j c v b p nn t % 8191 := zN_ix (by omega)
    have i6 : inB (zN (keyM j c v b p nn t % 8191)) (aln 266) := by rw [al_266, zN_inB (by omega)]; exact hs
    have i7 : inB (zN (keyM j c v b p nn t % 8191)) (aln 267) := by rw [al_267, zN_inB (by omega)]; exact hs
    have nh : ¬ zN j = -1 := fun q => by
      have := congrArg Int32.toInt q; rw [zN_ti (by omega)] at this; have e9 : (-1 : Int32).toInt = -1 := by decide
      omega
    rw [m_pw, z3, if_neg nh, if_neg nh, ei, if_pos ib, zN_ix (by omega), ec, eK, es, if_pos i6, ix, if_pos i7, zN_ix (by omega)]
    generalize eKK : keyM j c v b p nn t = K at *
    generalize ess : K % 8191 = s at *
    have comp : ∃ g', (if inB (zN (3 * x + 1)) (aln 258) then (if inB (99 : Int32) (aln 255) then (if inB (118 : Int32) (aln 255) then (if inB (98 : Int32) (aln 255) then (if inB (112 : Int32) (aln 255) then (if inB (110 : Int32) (aln 255) then (if inB (116 : Int32) (aln 255) then (if inB ((m6 g (zN c) (zN v) (zN b) (zN p) (zN nn) (zN t)).1 251 34) (aln 254) then (bd (X12_goThrough n 253 ((240 : Int32) * ((m6 g (zN c) (zN v) (zN b) (zN p) (zN nn) (zN t)).1 251 34)) ((m6 g (zN c) (zN v) (zN b) (zN p) (zN nn) (zN t)).1 254 ((m6 g (zN c) (zN v) (zN b) (zN p) (zN nn) (zN t)).1 251 34).toNatClampNeg) (m6 g (zN c) (zN v) (zN b) (zN p) (zN nn) (zN t))) (fun _ h6 => (if inB (zN s) (aln 266) then (if inB (zN s) (aln 267) then (some ((m7 h6 (qN K)).1 251 14, m7 h6 (qN K))) else none) else none))) else none) else none) else none) else none) else none) else none) else none) else none) = some (f j (zN c) (zN v) (zN b) (zN p) (zN nn) (zN t), g') ∧ LawM n nl (zN j) f g' ∧ QM g g' := by
      have a255 : aln 255 = 128 := al_255
      rw [if_pos ib, if_pos (by rw [a255]; decide), if_pos (by rw [a255]; decide), if_pos (by rw [a255]; decide), if_pos (by rw [a255]; decide), if_pos (by rw [a255]; decide), if_pos (by rw [a255]; decide)]
      obtain ⟨g7, ev, ef, fr1, fr2, fr3⟩ := q2 j hj (m6 g (zN c) (zN v) (zN b) (zN p) (zN nn) (zN t)) (fun k _ => by unfold m6; simp (disch := omega) only [w_ne]) (by
        have t1 : (99 : Int32).toNatClampNeg = 99 := by decide
        have t2 : (118 : Int32).toNatClampNeg = 118 := by decide
        have t3 : (98 : Int32).toNatClampNeg = 98 := by decide
        have t4 : (112 : Int32).toNatClampNeg = 112 := by decide
        have t5 : (110 : Int32).toNatClampNeg = 110 := by decide
        have t6 : (116 : Int32).toNatClampNeg = 116 := by decide
        unfold m6
        simp (disch := omega) only [t1, t2, t3, t4, t5, t6, w_eq, u_ne, u_eq]
        exact ⟨lbN (by omega), lbN (by omega), lbN (by omega), lbN (by omega), lbN (by omega), lbN (by omega)⟩)
      have n34 : (m6 g (zN c) (zN v) (zN b) (zN p) (zN nn) (zN t)).1 251 34 = zN j := by unfold m6; simp (disch := omega) only [w_ne]; exact z3
      have n54 : (m6 g (zN c) (zN v) (zN b) (zN p) (zN nn) (zN t)).1 254 j = g.1 254 j := by unfold m6; simp (disch := omega) only [w_ne]
      have w255 : ∀ i, i ≠ 255 → (m6 g (zN c) (zN v) (zN b) (zN p) (zN nn) (zN t)).1 i = g.1 i := fun i hi => by unfold m6; simp (disch := omega) only [w_ne]
      rw [n34, if_pos (by rw [al_254, zN_inB (by omega)]; omega), zN_ix (by omega), n54, show (240 : Int32) * zN j = zN (240 * j) by simp only [zN_lit, zN_mul], ev, bd_some, if_pos i6, if_pos i7]
      have ef' : g7.1 251 14 = f j (zN c) (zN v) (zN b) (zN p) (zN nn) (zN t) := by
        rw [ef]
        have t1 : (99 : Int32).toNatClampNeg = 99 := by decide
        have t2 : (118 : Int32).toNatClampNeg = 118 := by decide
        have t3 : (98 : Int32).toNatClampNeg = 98 := by decide
        have t4 : (112 : Int32).toNatClampNeg = 112 := by decide
        have t5 : (110 : Int32).toNatClampNeg = 110 := by decide
        have t6 : (116 : Int32).toNatClampNeg = 116 := by decide
        unfold m6
        simp (disch := omega) only [t1, t2, t3, t4, t5, t6, w_eq, u_ne, u_eq]
      have e7 : m7 g7 (qN K) = wI (wL g7 266 s (qN K)) 267 s (g7.1 251 14) := by
        unfold m7; rw [es, ix, wl_1]
      rw [e7]
      refine ⟨_, by rw [w_ne (by decide), wl_1, ef'], ⟨⟨z1, ?_, ?_, Or.inr ⟨j, hj, rfl⟩⟩, ?_, fun s' hs' => ?_⟩, fun i i1 i2 i3 => ?_, fun k hk => ?_, fun i hi => ?_⟩
      · rw [w_ne (by decide), wl_1, fr2 7 rfl, w255 _ (by decide)]; exact z2
      · rw [w_ne (by decide), wl_1, fr2 34 rfl, w255 _ (by decide)]; exact z3
      · rw [w_ne (by decide), w_ne (by decide), wl_1, fr1 253 (by decide), fr1 254 (by decide), w255 _ (by decide), w255 _ (by decide)]; exact q2
      · rw [w_2, wl_eq, w_eq, wl_1]
        by_cases d : s' = s
        · subst d
          rw [ul_eq, u_eq]
          exact Or.inr ⟨j, c, v, b, p, nn, t, hj, h1, h2, h3, h4, by omega, by omega, by rw [eKK]; rfl, rfl⟩
        · rw [ul_ne d, u_ne d, fr3, fr1 267 (by decide), w255 _ (by decide)]; exact q3 s' hs'
      · rw [w_ne i3, wl_1, fr1 i i1, w255 i i2]
      · rw [w_ne (by decide), wl_1, fr2 k hk, w255 _ (by decide)]
      · rw [w_2, wl_ne hi, fr3]; rfl
    rcases q3 s hs with q | ⟨j', c', v', b', p', nn', t', hj', k1, k2, k3, k4, k5, k6, q, q'⟩
    · rw [if_neg (fun z => by rw [lg_cmp_eq, q, qN_lit, qN_eq (by decide) (by omega)] at z; omega)]
      exact comp
    · obtain ⟨kl', -⟩ := keyM_lt (j := j') (by omega) k1 k2 k3 k4 k5 k6
      by_cases d : keyM j' c' v' b' p' nn' t' = K
      · rw [if_pos ((lg_cmp_eq _ _).mpr (by rw [q, d]; rfl))]
        rw [← eKK] at d
        obtain ⟨rfl, rfl, rfl, rfl, rfl, rfl, rfl⟩ := keyM_inj k1 k2 k3 k4 k5 k6 h1 h2 h3 h4 (by omega) (by omega) d
        exact ⟨g, by rw [q'], hM, QM.rf⟩
      · rw [if_neg (fun z => by rw [lg_cmp_eq, q, show Int64.ofNat (keyM j' c' v' b' p' nn' t') = qN (keyM j' c' v' b' p' nn' t') from rfl, qN_eq (by omega) (by omega)] at z; exact d z)]
        exact comp
theorem m_page {n nl B H : Nat} {hd : Int32} {f : Nat → F6} {nm : Nat → Nat} {h g : Mm} (hL : LandR B H nm (h.1 14) (h.1 15) (g.1 251) (g.1 256) (g.1 258) (g.1 260)) (hM : LawM n nl hd f g) {x v b p nn t : Nat} (hx : x < B) (h2 : v ≤ 9) (h3 : b ≤ 9) (h4 : p ≤ 9) (h5 : nn < 16384) (h6 : t < 64) :
    ∃ g', X12_page n (zN x) (zN v) (zN b) (zN p) (zN nn) (zN t) g = some (wv hd f (nm (3 + (3 * x + 1))) v b p nn t, g') ∧ LawM n nl hd f g' ∧ QM g g' := by
  obtain ⟨g', e, r1, r2⟩ := m_worth hL hM hx h2 h3 h4 h5 h6
  refine ⟨g', ?_, r1, r2⟩
  unfold X12_page wv
  rw [e, bd_some]
  generalize (if hd = -1 then zN (nm (3 + (3 * x + 1))) + zN v / zN 3 - zN b else f hd.toNatClampNeg (zN (nm (3 + (3 * x + 1)))) (zN v) (zN b) (zN p) (zN nn) (zN t)) = y
  rw [j_min, bp_some, j_max, bp_some]
  have e1 : (-9 : Int32).toInt = -9 := by decide
  have e2 : (20 : Int32).toInt = 20 := by decide
  unfold clmp
  simp only [Int32.lt_iff_toInt_lt, e1, e2]
  by_cases a : y.toInt < -9
  · rw [if_pos a, if_pos (show y.toInt < 20 by omega), if_neg (by omega)]
  · rw [if_neg a]
    by_cases d : (20 : Int) < y.toInt
    · rw [if_pos d, if_neg (show ¬ y.toInt < 20 by omega), if_pos (by rw [e2]; omega)]
    · rw [if_neg d]
      by_cases d2 : y.toInt < 20
      · rw [if_pos d2]
        by_cases d3 : (-9 : Int) < y.toInt
        · rw [if_pos d3]
        · rw [if_neg d3, show y = -9 from Int32.toInt_inj.mp (by rw [e1]; omega)]
      · rw [if_neg d2, if_pos (by rw [e2]; omega), show y = 20 from Int32.toInt_inj.mp (by rw [e2]; omega)]
