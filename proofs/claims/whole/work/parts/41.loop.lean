theorem dL_law_23 : decode cL_law 23 = .ok (.iload 4, 2) := by decide +kernel
theorem dL_law_25 : decode cL_law 25 = .ok (.aload_n 0, 1) := by decide +kernel
theorem dL_law_26 : decode cL_law 26 = .ok (.arraylength, 1) := by decide +kernel
theorem dL_law_27 : decode cL_law 27 = .ok (.bipush 7, 2) := by decide +kernel
theorem dL_law_29 : decode cL_law 29 = .ok (.isub, 1) := by decide +kernel
theorem dL_law_30 : decode cL_law 30 = .ok (.if_icmp .gt 1601, 3) := by decide +kernel
theorem dL_law_33 : decode cL_law 33 = .ok (.aload_n 0, 1) := by decide +kernel
theorem dL_law_34 : decode cL_law 34 = .ok (.iload 4, 2) := by decide +kernel
theorem dL_law_36 : decode cL_law 36 = .ok (.iaload, 1) := by decide +kernel
theorem dL_law_37 : decode cL_law 37 = .ok (.bipush 63, 2) := by decide +kernel
theorem dL_law_39 : decode cL_law 39 = .ok (.iand, 1) := by decide +kernel
theorem dL_law_40 : decode cL_law 40 = .ok (.tableswitch 1585 0 39 #[176, 249, 274, 299, 324, 349, 386, 454, 479, 504, 529, 594, 607, 632, 669, 682, 751, 764, 801, 850, 887, 912, 949, 974, 1011, 1048, 1137, 1162, 1199, 1236, 1323, 1384, 1421, 1446, 1459, 1484, 1509, 1534, 1547, 1560], 176) := by decide +kernel
theorem dL_law_426 : decode cL_law 426 = .ok (.aload_n 1, 1) := by decide +kernel
theorem dL_law_427 : decode cL_law 427 = .ok (.aload_n 0, 1) := by decide +kernel
theorem dL_law_428 : decode cL_law 428 = .ok (.iload 4, 2) := by decide +kernel
theorem dL_law_430 : decode cL_law 430 = .ok (.iconst 1, 1) := by decide +kernel
theorem dL_law_431 : decode cL_law 431 = .ok (.iadd, 1) := by decide +kernel
theorem dL_law_432 : decode cL_law 432 = .ok (.iaload, 1) := by decide +kernel
theorem dL_law_433 : decode cL_law 433 = .ok (.aload_n 0, 1) := by decide +kernel
theorem dL_law_434 : decode cL_law 434 = .ok (.iload 4, 2) := by decide +kernel
theorem dL_law_436 : decode cL_law 436 = .ok (.iconst 2, 1) := by decide +kernel
theorem dL_law_437 : decode cL_law 437 = .ok (.iadd, 1) := by decide +kernel
theorem dL_law_438 : decode cL_law 438 = .ok (.iaload, 1) := by decide +kernel
theorem dL_law_439 : decode cL_law 439 = .ok (.aload_n 3, 1) := by decide +kernel
theorem dL_law_440 : decode cL_law 440 = .ok (.invokestatic 46, 3) := by decide +kernel
theorem dL_law_443 : decode cL_law 443 = .ok (.istore 5, 2) := by decide +kernel
theorem dL_law_445 : decode cL_law 445 = .ok (.aload_n 2, 1) := by decide +kernel
theorem dL_law_446 : decode cL_law 446 = .ok (.aload_n 0, 1) := by decide +kernel
theorem dL_law_447 : decode cL_law 447 = .ok (.iload 4, 2) := by decide +kernel
theorem dL_law_449 : decode cL_law 449 = .ok (.iconst 1, 1) := by decide +kernel
theorem dL_law_450 : decode cL_law 450 = .ok (.iadd, 1) := by decide +kernel
theorem dL_law_451 : decode cL_law 451 = .ok (.iaload, 1) := by decide +kernel
theorem dL_law_452 : decode cL_law 452 = .ok (.aload_n 0, 1) := by decide +kernel
theorem dL_law_453 : decode cL_law 453 = .ok (.iload 4, 2) := by decide +kernel
theorem dL_law_455 : decode cL_law 455 = .ok (.iconst 2, 1) := by decide +kernel
theorem dL_law_456 : decode cL_law 456 = .ok (.iadd, 1) := by decide +kernel
theorem dL_law_457 : decode cL_law 457 = .ok (.iaload, 1) := by decide +kernel
theorem dL_law_458 : decode cL_law 458 = .ok (.invokevirtual 51, 3) := by decide +kernel
theorem dL_law_461 : decode cL_law 461 = .ok (.istore 6, 2) := by decide +kernel
theorem dL_law_463 : decode cL_law 463 = .ok (.aload_n 2, 1) := by decide +kernel
theorem dL_law_464 : decode cL_law 464 = .ok (.invokevirtual 52, 3) := by decide +kernel
theorem dL_law_467 : decode cL_law 467 = .ok (.iload 5, 2) := by decide +kernel
theorem dL_law_469 : decode cL_law 469 = .ok (.if_icmp .eq 5, 3) := by decide +kernel
theorem dL_law_474 : decode cL_law 474 = .ok (.iload 5, 2) := by decide +kernel
theorem dL_law_476 : decode cL_law 476 = .ok (.ifCond .ne 15, 3) := by decide +kernel
theorem dL_law_479 : decode cL_law 479 = .ok (.aload_n 3, 1) := by decide +kernel
theorem dL_law_480 : decode cL_law 480 = .ok (.iconst 0, 1) := by decide +kernel
theorem dL_law_481 : decode cL_law 481 = .ok (.laload, 1) := by decide +kernel
theorem dL_law_482 : decode cL_law 482 = .ok (.iload 6, 2) := by decide +kernel
theorem dL_law_484 : decode cL_law 484 = .ok (.i2l, 1) := by decide +kernel
theorem dL_law_485 : decode cL_law 485 = .ok (.lcmp, 1) := by decide +kernel
theorem dL_law_486 : decode cL_law 486 = .ok (.ifCond .eq 5, 3) := by decide +kernel
theorem dL_law_491 : decode cL_law 491 = .ok (.goto 1134, 3) := by decide +kernel
theorem dL_law_1625 : decode cL_law 1625 = .ok (.iinc 4 7, 3) := by decide +kernel
theorem dL_law_1628 : decode cL_law 1628 = .ok (.goto (-1605), 3) := by decide +kernel
set_option maxRecDepth 100000 in
theorem ml_L_46 : Cond.methodLink RL 46 yL_house ∈ gtbl := gin 1405 (by decide +kernel) rfl
set_option maxRecDepth 100000 in
theorem ml_L_51 : Cond.methodLink RL 51 yX12_house ∈ gtbl := gin 1835 (by decide +kernel) rfl
set_option maxRecDepth 100000 in
theorem ml_L_52 : Cond.methodLink RL 52 yX12_thrown ∈ gtbl := gin 1641 (by decide +kernel) rfl
set_option maxRecDepth 100000 in
theorem st_L_house : Cond.static yL_house ∈ gtbl := gin 1406 (by decide +kernel) rfl
set_option maxRecDepth 100000 in
theorem in_L : Cond.initialized RL ∈ gtbl := gin 91 (by decide +kernel) rfl
set_option maxRecDepth 100000 in
theorem mf_X12_house : mV yX12_house cX12_house 3 (some .int) 2 12 := ⟨⟨gin 1838 (by decide +kernel) rfl, ⟨by decide +kernel, by decide +kernel, by decide +kernel⟩, by decide, gin 104 (by decide +kernel) rfl⟩, gin 1836 (by decide +kernel) rfl, gin 1837 (by decide +kernel) rfl, ⟨TX12, 51, rfl⟩⟩
set_option maxRecDepth 100000 in
theorem mf_X12_thrown : mV yX12_thrown cX12_thrown 1 (some .int) 0 12 := ⟨⟨gin 1644 (by decide +kernel) rfl, ⟨by decide +kernel, by decide +kernel, by decide +kernel⟩, by decide, gin 104 (by decide +kernel) rfl⟩, gin 1642 (by decide +kernel) rfl, gin 1643 (by decide +kernel) rfl, ⟨TX12, 51, rfl⟩⟩
theorem V.callH {X : WX} {G : GX} {own : String} {cc : ByteArray} {nL : Nat} {ret : Option FieldType} {D cells slots : Nat} {Q : State → Prop} {pc : Nat} {lv : List (Nat × Value)} {st st0 : List Value} {x1 x2 v : Int32} {h g g' : Mm} {idx : Nat} (hEX : EXU X (gs G)) (hM : SatH X x1 x2 h g v g') (hw : Cond.methodLink own idx yL_house ∈ gtbl) (hd : 23 ≤ D) (hst : .ref (xa X 273) :: .int x2 :: .int x1 :: .ref (xa X 0) :: st = st0) (hW : (st.map fun v => v.category).sum ≤ 8) (hcs : cells + 1 ≤ (gR G).cells ∧ slots + 6 ≤ (gR G).slots) (hdg : decode cc pc = .ok (.invokestatic idx, 3)) (kk : V X G own cc nL ret D (cells + 1) (slots + 6) Q false h (pc + 3) lv (.int v :: st) g') : V X G own cc nL ret D cells slots Q false h pc lv st0 g := by
  intro C H locs ls hR hl T hT XS
  have C0 := C
  obtain ⟨hx, hb, hml, hown, hts, hlk, hr, hK, hE, hD, hA, hfr, hlo⟩ := C0
  have gd : GoodIn gtbl (va_wsS own idx yL_house mwl) := by
    intro w hw2
    have z : w ∈ gtbl := by
      simp only [va_wsS, List.mem_append, List.mem_cons, List.not_mem_nil, or_false] at hw2
      rcases hw2 with (rfl | rfl | rfl) | hw2
      · exact hw
      · exact st_L_house
      · exact in_L
      · exact (mwl_good w hw2).1
    exact ⟨z, tbl_in z⟩
  have hrun := vx_runSW (As := [.ref (xa X 0), .int x1, .int x2, .ref (xa X 273)]) (rest := st) (g := F0 (gm G) pc ls st0) (H := H) (locs := locs) (cells := cells) (slots := slots) (R := gR G) (e := ge G) (below := gb G) (meth := gt G) ⟨hx, hb, hml, hown, hts⟩ hM (vx_cwSW (bytes := cL_house) (maxL := 5) (ret := some .int) (hh := hhT) 4 hts gd rfl rfl rfl ⟨by decide, by decide, by decide +kernel⟩ ⟨by show 22 + 1 ≤ _; omega, by show 8 + (5 + 11) + 64 * 22 ≤ _; omega⟩)
    ⟨PreH.blind, fun U hU hWm => ⟨rfl, PreR.at C hR U hU hWm, hEX.warm hWm (fun a h1 h2 => by rw [hU]; exact hR.2.1.2.1 a h1 h2)⟩⟩ rfl rfl hl.1 hst.symm (lv_room hW) hdg hcs
  obtain ⟨v', st₀, t, T', L, h0, X', hL, e1, e2, ⟨hv, hP, hFx, hF⟩, go⟩ := hrun T hT XS
  cases hv
  obtain ⟨f1, f2⟩ := hF
  rw [h0] at f1 f2
  have hS : va_S (xA X) (gs G).heap T'.heap (locs ++ L) := ⟨Nat.le_trans hR.2.1.1 (by rw [e1]; exact f1), fun q h1 h2 => by rw [e1, f2 q (Nat.lt_of_lt_of_le h1 hR.2.1.1) h2]; exact hR.2.1.2.1 q h1 h2, fun q hq => by
    rcases List.mem_append.mp hq with z | z
    · exact hR.2.1.2.2 q z
    · exact hL q z⟩
  obtain ⟨t2, a1, b1⟩ := kk C T'.heap (locs ++ L) ls ⟨by rw [e1]; exact hP, hS, hFx⟩ hl T' rfl X'
  exact ⟨t2, go t2 a1, b1⟩
/-- house: as both answer, or both refuse -/
def Sim_house (R : Mm → Mm → Prop) : Prop := ∀ (x1 x2 : Int32) (h g : Mm), R h g →
  (∃ (v : Int32) (g2 : Mm), X11_house x1 x2 h = some v ∧ X12_house x1 x2 (wL g 273 0 v.toInt64) = some (v, g2) ∧ g2.1 251 0 = 0 ∧ g2.2 273 0 = v.toInt64 ∧ R h g2) ∨
  (∃ (r : Bool) (v : Int32) (g2 : Mm), X1_hasHouse 13 x1 h = some r ∧ (r = false ∨ x2 < 0 ∨ (4 : Int32) < x2) ∧ X12_house x1 x2 g = some (v, g2) ∧ g2.1 251 0 = 1 ∧ R h g2)
theorem lcmp_rfl (x : Int64) : lg_cmp x x = 0 := by
  unfold lg_cmp
  simp [Int64.lt_irrefl]
set_option maxRecDepth 100000 in
set_option maxHeartbeats 4000000 in
theorem law_case_6 {X : WX} {G : GX} {cells slots : Nat} {Q : State → Prop} {R : Mm → Mm → Prop} {i : Int32} {h g : Mm} (S_house : Sim_house R) (hl0 : (xl X).stackTraces = false) (hEX : EXU X (gs G)) (hR : R h g) (hin : ∀ k : Int32, 0 ≤ k.toInt ∧ k.toInt ≤ 6 → inB (i + k) (xn X)) (hcs : cells + 1 ≤ (gR G).cells ∧ slots + 6 ≤ (gR G).slots) (fin : ∀ h g, R h g → V X G RL cL_law 7 (some .boolean) 120 (cells + 1) (slots + 6) Q true g 1625 [(0, .ref (xa X 1000)), (1, .ref (xa X 0)), (2, .ref (xa X 251)), (3, .ref (xa X 273)), (4, .int i)] [] h) : V X G RL cL_law 7 (some .boolean) 120 cells slots Q true g 426 [(0, .ref (xa X 1000)), (1, .ref (xa X 0)), (2, .ref (xa X 251)), (3, .ref (xa X 273)), (4, .int i)] [] h := by
  refine V.aload_n 1 dL_law_426 rfl rfl ?_
  refine V.aload_n 0 dL_law_427 rfl rfl ?_
  refine V.iload 4 dL_law_428 rfl ?_
  refine V.iconst (v := 1) dL_law_430 rfl ?_
  refine V.iadd dL_law_431 ?_
  refine V.ialdL (hin 1 (by decide)) dL_law_432 ?_
  refine V.aload_n 0 dL_law_433 rfl rfl ?_
  refine V.iload 4 dL_law_434 rfl ?_
  refine V.iconst (v := 2) dL_law_436 rfl ?_
  refine V.iadd dL_law_437 ?_
  refine V.ialdL (hin 2 (by decide)) dL_law_438 ?_
  refine V.aload_n 3 dL_law_439 rfl rfl ?_
  rcases S_house (xs X (i + 1).toNatClampNeg) (xs X (i + 2).toNatClampNeg) h g hR with ⟨v, g2, e1, e2, e3, e4, hR2⟩ | ⟨r, v, g2, e1, hc, e2, e3, hR2⟩
  · refine V.swap (b2 := false) rfl ?_
    refine V.callH hEX (s_L_house_0 e1) ml_L_46 (by decide) rfl (Nat.le_of_ble_eq_true rfl) hcs dL_law_440 ?_
    refine V.istore [(5, .int 0), (0, .ref (xa X 1000)), (1, .ref (xa X 0)), (2, .ref (xa X 251)), (3, .ref (xa X 273)), (4, .int i)] dL_law_443 (by decide) rfl ?_
    refine V.aload_n 3 dL_law_445 rfl rfl ?_
    refine V.aload_n 1 dL_law_446 rfl rfl ?_
    refine V.iload 5 dL_law_447 rfl ?_
    refine V.iconst (v := 1) dL_law_449 rfl ?_
    refine V.iadd dL_law_450 ?_
    refine V.ialdL (hin 1 (by decide)) dL_law_451 ?_
    refine V.aload_n 1 dL_law_452 rfl rfl ?_
    refine V.iload 5 dL_law_453 rfl ?_
    refine V.iconst (v := 2) dL_law_455 rfl ?_
    refine V.iadd dL_law_456 ?_
    refine V.ialdL (hin 2 (by decide)) dL_law_457 ?_
    refine V.callL mf_X12_house ml_L_51 sh_251 (s_X12_house e2) (by decide) rfl rfl (Nat.le_of_ble_eq_true rfl) hcs dL_law_458 ?_
    refine V.istore [(6, .int v), (5, .int 0), (0, .ref (xa X 1000)), (1, .ref (xa X 0)), (2, .ref (xa X 251)), (3, .ref (xa X 273)), (4, .int i)] dL_law_461 (by decide) rfl ?_
    refine V.aload_n 4 dL_law_463 rfl rfl ?_
    refine V.callL mf_X12_thrown ml_L_52 sh_251 (s_X12_thrown (rv := 0) (by unfold X12_thrown; rw [e3])) (by decide) rfl rfl (Nat.le_of_ble_eq_true rfl) hcs dL_law_464 ?_
    refine V.iload 1 dL_law_467 rfl ?_
    refine V.icmp_eq (tgt := 474) dL_law_469 rfl (fun _ => ?_) (fun q => absurd rfl q)
    refine V.iload 1 dL_law_474 rfl ?_
    refine V.if_ne (tgt := 491) dL_law_476 rfl (fun q => absurd rfl q) (fun _ => ?_)
    refine V.aload_n 5 dL_law_479 rfl rfl ?_
    refine V.iconst (v := 0) dL_law_480 rfl ?_
    refine V.lald io_273 (by decide +kernel) dL_law_481 ?_
    refine V.iload 0 dL_law_482 rfl ?_
    refine V.i2l dL_law_484 ?_
    refine V.lcmp dL_law_485 ?_
    refine V.if_eq (tgt := 491) dL_law_486 rfl (fun _ => ?_) (fun q => absurd (by rw [show g2.2 273 (Int32.toNatClampNeg 0) = v.toInt64 from e4]; exact lcmp_rfl _) q)
    refine V.goto (tgt := 1625) dL_law_491 rfl ?_
    refine V.swap (b2 := true) rfl ?_
    exact V.sub (lv2 := [(0, .ref (xa X 1000)), (1, .ref (xa X 0)), (2, .ref (xa X 251)), (3, .ref (xa X 273)), (4, .int i)]) [2, 3, 4, 5, 6] rfl (fin h g2 hR2)
  · refine V.swap (b2 := false) rfl ?_
    refine V.callH hEX (s_L_house_1 hl0 e1 hc) ml_L_46 (by decide) rfl (Nat.le_of_ble_eq_true rfl) hcs dL_law_440 ?_
    refine V.istore [(5, .int 1), (0, .ref (xa X 1000)), (1, .ref (xa X 0)), (2, .ref (xa X 251)), (3, .ref (xa X 273)), (4, .int i)] dL_law_443 (by decide) rfl ?_
    refine V.aload_n 3 dL_law_445 rfl rfl ?_
    refine V.aload_n 1 dL_law_446 rfl rfl ?_
    refine V.iload 5 dL_law_447 rfl ?_
    refine V.iconst (v := 1) dL_law_449 rfl ?_
    refine V.iadd dL_law_450 ?_
    refine V.ialdL (hin 1 (by decide)) dL_law_451 ?_
    refine V.aload_n 1 dL_law_452 rfl rfl ?_
    refine V.iload 5 dL_law_453 rfl ?_
    refine V.iconst (v := 2) dL_law_455 rfl ?_
    refine V.iadd dL_law_456 ?_
    refine V.ialdL (hin 2 (by decide)) dL_law_457 ?_
    refine V.callL mf_X12_house ml_L_51 sh_251 (s_X12_house e2) (by decide) rfl rfl (Nat.le_of_ble_eq_true rfl) hcs dL_law_458 ?_
    refine V.istore [(6, .int v), (5, .int 1), (0, .ref (xa X 1000)), (1, .ref (xa X 0)), (2, .ref (xa X 251)), (3, .ref (xa X 273)), (4, .int i)] dL_law_461 (by decide) rfl ?_
    refine V.aload_n 4 dL_law_463 rfl rfl ?_
    refine V.callL mf_X12_thrown ml_L_52 sh_251 (s_X12_thrown (rv := 1) (by unfold X12_thrown; rw [e3])) (by decide) rfl rfl (Nat.le_of_ble_eq_true rfl) hcs dL_law_464 ?_
    refine V.iload 1 dL_law_467 rfl ?_
    refine V.icmp_eq (tgt := 474) dL_law_469 rfl (fun _ => ?_) (fun q => absurd rfl q)
    refine V.iload 1 dL_law_474 rfl ?_
    refine V.if_ne (tgt := 491) dL_law_476 rfl (fun _ => ?_) (fun q => absurd q (by decide))
    refine V.goto (tgt := 1625) dL_law_491 rfl ?_
    refine V.swap (b2 := true) rfl ?_
    exact V.sub (lv2 := [(0, .ref (xa X 1000)), (1, .ref (xa X 0)), (2, .ref (xa X 251)), (3, .ref (xa X 273)), (4, .int i)]) [2, 3, 4, 5, 6] rfl (fin h g2 hR2)
/-- every method answers alike and keeps R -/
def SimAll (n : Nat) (R : Mm → Mm → Prop) : Prop := Sim_feed n R ∧ Sim_end n R ∧ Sim_fault n R ∧ Sim_text n R ∧ Sim_rule n R ∧ Sim_tome n R ∧ Sim_house R ∧ Sim_bored n R ∧ Sim_law n R ∧ Sim_hush n R ∧ Sim_read n R ∧ Sim_milk n R ∧ Sim_goes n R ∧ Sim_voice n R ∧ Sim_night n R ∧ Sim_years n R ∧ Sim_undo n R ∧ Sim_log n R ∧ Sim_step n R ∧ Sim_run n R ∧ Sim_perform n R ∧ Sim_calms n R ∧ Sim_least n R ∧ Sim_best n R ∧ Sim_roster n R ∧ Sim_seen n R ∧ Sim_likes n R ∧ Sim_probe n R ∧ Sim_which n R ∧ Sim_game n R ∧ Sim_rests n R ∧ Sim_odds n R ∧ Sim_lasts n R ∧ Sim_quiet n R ∧ Sim_all n R ∧ Sim_pages n R ∧ Sim_left n R ∧ Sim_image n R ∧ Sim_back n R ∧ Sim_count n R
theorem law_in {X : WX} {k : Nat} (hk : k + 7 ≤ xn X) (hn : xn X ≤ 3584) : ∀ j : Int32, 0 ≤ j.toInt ∧ j.toInt ≤ 6 → inB (Int32.ofNat k + j) (xn X) := by
  intro j hj
  have e1 : (Int32.ofNat k).toInt = (k : Int) := Int32.toInt_ofNat_of_lt (by omega)
  have e2 : (Int32.ofNat k + j).toInt = (k : Int) + j.toInt := by
    rw [Int32.toInt_add, e1]
    exact Int.bmod_eq_of_le (by omega) (by omega)
  exact ⟨by rw [e2]; omega, by rw [e2]; omega⟩
theorem law_go {X : WX} {k : Nat} (hk : k ≤ xn X) (hn : xn X ≤ 3584) (q : ¬ (Int32.ofNat (xn X) - 7 < Int32.ofNat k)) : k + 7 ≤ xn X := by
  have e1 : (Int32.ofNat k).toInt = (k : Int) := Int32.toInt_ofNat_of_lt (by omega)
  have e3 : (Int32.ofNat (xn X)).toInt = (xn X : Int) := Int32.toInt_ofNat_of_lt (by omega)
  have e2 : (Int32.ofNat (xn X) - 7).toInt = (xn X : Int) - 7 := by
    rw [Int32.toInt_sub, e3]
    exact Int.bmod_eq_of_le (by show _ ≤ (xn X : Int) - 7; omega) (by show (xn X : Int) - 7 < _; omega)
  rw [Int32.lt_iff_toInt_lt, e1, e2] at q
  omega
set_option maxRecDepth 100000 in
set_option maxHeartbeats 4000000 in
theorem law_loop {X : WX} {G : GX} {n CC SS : Nat} {Q : State → Prop} {R : Mm → Mm → Prop} (SA : SimAll n R) (hl0 : (xl X).stackTraces = false) (hEX : EXU X (gs G)) (hn : xn X ≤ 3584) (hCC : CC ≤ (gR G).cells) (hSS : SS ≤ (gR G).slots) (fin : ∀ (h g : Mm) (i : Int32) (cells slots : Nat), cells ≤ CC → slots ≤ SS → V X G RL cL_law 7 (some .boolean) 120 cells slots Q true g 1631 [(0, .ref (xa X 1000)), (1, .ref (xa X 0)), (2, .ref (xa X 251)), (3, .ref (xa X 273)), (4, .int i)] [] h) :
    ∀ (f k cells slots : Nat) (h g : Mm), R h g → k ≤ xn X → xn X < k + 7 * f → cells + f ≤ CC → slots + 6 * f ≤ SS → V X G RL cL_law 7 (some .boolean) 120 cells slots Q true g 23 [(0, .ref (xa X 1000)), (1, .ref (xa X 0)), (2, .ref (xa X 251)), (3, .ref (xa X 273)), (4, .int (Int32.ofNat k))] [] h := by
  intro f
  induction f with
  | zero => intro k cells slots h g _ h1 h2; exact absurd h2 (by omega)
  | succ f ih =>
    intro k cells slots h g hR hk hf hc hs
    refine V.iload 4 dL_law_23 rfl ?_
    refine V.aload_n 0 dL_law_25 rfl rfl ?_
    refine V.alenL dL_law_26 ?_
    refine V.bipush (v := 7) dL_law_27 (by decide) ?_
    refine V.isub dL_law_29 ?_
    refine V.icmp_gt (tgt := 1631) dL_law_30 rfl (fun _ => fin h g _ cells slots (by omega) (by omega)) (fun q => ?_)
    have h7 := law_go hk hn q
    have hin := law_in h7 hn
    have nxt : ∀ h g, R h g → V X G RL cL_law 7 (some .boolean) 120 (cells + 1) (slots + 6) Q true g 1625 [(0, .ref (xa X 1000)), (1, .ref (xa X 0)), (2, .ref (xa X 251)), (3, .ref (xa X 273)), (4, .int (Int32.ofNat k))] [] h := by
      intro h g hR
      refine V.iinc (v := Int32.ofNat (k + 7)) 4 [(4, _), (0, _), (1, _), (2, _), (3, _)] dL_law_1625 rfl (by rw [Int32.ofNat_add]; rfl) (by decide) rfl ?_
      refine V.goto (tgt := 23) dL_law_1628 rfl ?_
      exact V.sub (lv2 := [(0, _), (1, _), (2, _), (3, _), (4, _)]) [1, 2, 3, 4, 0] rfl (ih (k + 7) (cells + 1) (slots + 6) h g hR h7 (by omega) (by omega) (by omega))
    refine V.aload_n 0 dL_law_33 rfl rfl ?_
    refine V.iload 4 dL_law_34 rfl ?_
    refine V.ialdL (by have z := hin 0 (by decide); rwa [Int32.add_zero] at z) dL_law_36 ?_
    rw [show (Int32.ofNat k).toNatClampNeg = (Int32.ofNat k + 0).toNatClampNeg by rw [Int32.add_zero]]
    refine V.bipush (v := 63) dL_law_37 (by decide) ?_
    refine V.iand dL_law_39 ?_
    by_cases c0 : xs X (Int32.ofNat k + 0).toNatClampNeg &&& 63 = 0
    · refine V.tswIn (tgt := 216) c0 dL_law_40 (by decide) (by decide) rfl rfl ?_
      obtain ⟨S, _, _, _, _, _, _, _, _, _, _, _, _, _, _, _, _, _, _, _, _, _, _, _, _, _, _, _, _, _, _, _, _, _, _, _, _, _, _, _⟩ := SA
      exact V.widen (Nat.le_succ _) (Nat.le_add_right _ 6) (law_case_0 S hR hin ⟨by omega, by omega⟩ nxt)
    by_cases c1 : xs X (Int32.ofNat k + 0).toNatClampNeg &&& 63 = 1
    · refine V.tswIn (tgt := 289) c1 dL_law_40 (by decide) (by decide) rfl rfl ?_
      obtain ⟨_, S, _, _, _, _, _, _, _, _, _, _, _, _, _, _, _, _, _, _, _, _, _, _, _, _, _, _, _, _, _, _, _, _, _, _, _, _, _, _⟩ := SA
      exact V.widen (Nat.le_succ _) (Nat.le_add_right _ 6) (law_case_1 S hR hin ⟨by omega, by omega⟩ nxt)
    by_cases c2 : xs X (Int32.ofNat k + 0).toNatClampNeg &&& 63 = 2
    · refine V.tswIn (tgt := 314) c2 dL_law_40 (by decide) (by decide) rfl rfl ?_
      obtain ⟨_, _, S, _, _, _, _, _, _, _, _, _, _, _, _, _, _, _, _, _, _, _, _, _, _, _, _, _, _, _, _, _, _, _, _, _, _, _, _, _⟩ := SA
      exact V.widen (Nat.le_succ _) (Nat.le_add_right _ 6) (law_case_2 S hR hin ⟨by omega, by omega⟩ nxt)
    by_cases c3 : xs X (Int32.ofNat k + 0).toNatClampNeg &&& 63 = 3
    · refine V.tswIn (tgt := 339) c3 dL_law_40 (by decide) (by decide) rfl rfl ?_
      obtain ⟨_, _, _, S, _, _, _, _, _, _, _, _, _, _, _, _, _, _, _, _, _, _, _, _, _, _, _, _, _, _, _, _, _, _, _, _, _, _, _, _⟩ := SA
      exact V.widen (Nat.le_succ _) (Nat.le_add_right _ 6) (law_case_3 S hR hin ⟨by omega, by omega⟩ nxt)
    by_cases c4 : xs X (Int32.ofNat k + 0).toNatClampNeg &&& 63 = 4
    · refine V.tswIn (tgt := 364) c4 dL_law_40 (by decide) (by decide) rfl rfl ?_
      obtain ⟨_, _, _, _, S, _, _, _, _, _, _, _, _, _, _, _, _, _, _, _, _, _, _, _, _, _, _, _, _, _, _, _, _, _, _, _, _, _, _, _⟩ := SA
      exact V.widen (Nat.le_succ _) (Nat.le_add_right _ 6) (law_case_4 S hR hin ⟨by omega, by omega⟩ nxt)
    by_cases c5 : xs X (Int32.ofNat k + 0).toNatClampNeg &&& 63 = 5
    · refine V.tswIn (tgt := 389) c5 dL_law_40 (by decide) (by decide) rfl rfl ?_
      obtain ⟨_, _, _, _, _, S, _, _, _, _, _, _, _, _, _, _, _, _, _, _, _, _, _, _, _, _, _, _, _, _, _, _, _, _, _, _, _, _, _, _⟩ := SA
      exact V.widen (Nat.le_succ _) (Nat.le_add_right _ 6) (law_case_5 S hR hin ⟨by omega, by omega⟩ nxt)
    by_cases c6 : xs X (Int32.ofNat k + 0).toNatClampNeg &&& 63 = 6
    · refine V.tswIn (tgt := 426) c6 dL_law_40 (by decide) (by decide) rfl rfl ?_
      obtain ⟨_, _, _, _, _, _, S, _, _, _, _, _, _, _, _, _, _, _, _, _, _, _, _, _, _, _, _, _, _, _, _, _, _, _, _, _, _, _, _, _⟩ := SA
      exact law_case_6 S hl0 hEX hR hin ⟨by omega, by omega⟩ nxt
    by_cases c7 : xs X (Int32.ofNat k + 0).toNatClampNeg &&& 63 = 7
    · refine V.tswIn (tgt := 494) c7 dL_law_40 (by decide) (by decide) rfl rfl ?_
      obtain ⟨_, _, _, _, _, _, _, S, _, _, _, _, _, _, _, _, _, _, _, _, _, _, _, _, _, _, _, _, _, _, _, _, _, _, _, _, _, _, _, _⟩ := SA
      exact V.widen (Nat.le_succ _) (Nat.le_add_right _ 6) (law_case_7 S hR hin ⟨by omega, by omega⟩ nxt)
    by_cases c8 : xs X (Int32.ofNat k + 0).toNatClampNeg &&& 63 = 8
    · refine V.tswIn (tgt := 519) c8 dL_law_40 (by decide) (by decide) rfl rfl ?_
      obtain ⟨_, _, _, _, _, _, _, _, S, _, _, _, _, _, _, _, _, _, _, _, _, _, _, _, _, _, _, _, _, _, _, _, _, _, _, _, _, _, _, _⟩ := SA
      exact V.widen (Nat.le_succ _) (Nat.le_add_right _ 6) (law_case_8 S hR hin ⟨by omega, by omega⟩ nxt)
    by_cases c9 : xs X (Int32.ofNat k + 0).toNatClampNeg &&& 63 = 9
    · refine V.tswIn (tgt := 544) c9 dL_law_40 (by decide) (by decide) rfl rfl ?_
      obtain ⟨_, _, _, _, _, _, _, _, _, S, _, _, _, _, _, _, _, _, _, _, _, _, _, _, _, _, _, _, _, _, _, _, _, _, _, _, _, _, _, _⟩ := SA
      exact V.widen (Nat.le_succ _) (Nat.le_add_right _ 6) (law_case_9 S hR hin ⟨by omega, by omega⟩ nxt)
    by_cases c10 : xs X (Int32.ofNat k + 0).toNatClampNeg &&& 63 = 10
    · refine V.tswIn (tgt := 569) c10 dL_law_40 (by decide) (by decide) rfl rfl ?_
      obtain ⟨_, _, _, _, _, _, _, _, _, _, S, _, _, _, _, _, _, _, _, _, _, _, _, _, _, _, _, _, _, _, _, _, _, _, _, _, _, _, _, _⟩ := SA
      exact V.widen (Nat.le_succ _) (Nat.le_add_right _ 6) (law_case_10 S hR hin ⟨by omega, by omega⟩ nxt)
    by_cases c11 : xs X (Int32.ofNat k + 0).toNatClampNeg &&& 63 = 11
    · refine V.tswIn (tgt := 634) c11 dL_law_40 (by decide) (by decide) rfl rfl ?_
      obtain ⟨_, _, _, _, _, _, _, _, _, _, _, S, _, _, _, _, _, _, _, _, _, _, _, _, _, _, _, _, _, _, _, _, _, _, _, _, _, _, _, _⟩ := SA
      exact V.widen (Nat.le_succ _) (Nat.le_add_right _ 6) (law_case_11 S hR hin ⟨by omega, by omega⟩ nxt)
    by_cases c12 : xs X (Int32.ofNat k + 0).toNatClampNeg &&& 63 = 12
    · refine V.tswIn (tgt := 647) c12 dL_law_40 (by decide) (by decide) rfl rfl ?_
      obtain ⟨_, _, _, _, _, _, _, _, _, _, _, _, S, _, _, _, _, _, _, _, _, _, _, _, _, _, _, _, _, _, _, _, _, _, _, _, _, _, _, _⟩ := SA
      exact V.widen (Nat.le_succ _) (Nat.le_add_right _ 6) (law_case_12 S hR hin ⟨by omega, by omega⟩ nxt)
    by_cases c13 : xs X (Int32.ofNat k + 0).toNatClampNeg &&& 63 = 13
    · refine V.tswIn (tgt := 672) c13 dL_law_40 (by decide) (by decide) rfl rfl ?_
      obtain ⟨_, _, _, _, _, _, _, _, _, _, _, _, _, S, _, _, _, _, _, _, _, _, _, _, _, _, _, _, _, _, _, _, _, _, _, _, _, _, _, _⟩ := SA
      exact V.widen (Nat.le_succ _) (Nat.le_add_right _ 6) (law_case_13 S hR hin ⟨by omega, by omega⟩ nxt)
    by_cases c14 : xs X (Int32.ofNat k + 0).toNatClampNeg &&& 63 = 14
    · refine V.tswIn (tgt := 709) c14 dL_law_40 (by decide) (by decide) rfl rfl ?_
      obtain ⟨_, _, _, _, _, _, _, _, _, _, _, _, _, _, S, _, _, _, _, _, _, _, _, _, _, _, _, _, _, _, _, _, _, _, _, _, _, _, _, _⟩ := SA
      exact V.widen (Nat.le_succ _) (Nat.le_add_right _ 6) (law_case_14 S hR hin ⟨by omega, by omega⟩ nxt)
    by_cases c15 : xs X (Int32.ofNat k + 0).toNatClampNeg &&& 63 = 15
    · refine V.tswIn (tgt := 722) c15 dL_law_40 (by decide) (by decide) rfl rfl ?_
      obtain ⟨_, _, _, _, _, _, _, _, _, _, _, _, _, _, _, S, _, _, _, _, _, _, _, _, _, _, _, _, _, _, _, _, _, _, _, _, _, _, _, _⟩ := SA
      exact V.widen (Nat.le_succ _) (Nat.le_add_right _ 6) (law_case_15 S hR hin ⟨by omega, by omega⟩ nxt)
    by_cases c16 : xs X (Int32.ofNat k + 0).toNatClampNeg &&& 63 = 16
    · refine V.tswIn (tgt := 791) c16 dL_law_40 (by decide) (by decide) rfl rfl ?_
      obtain ⟨_, _, _, _, _, _, _, _, _, _, _, _, _, _, _, _, S, _, _, _, _, _, _, _, _, _, _, _, _, _, _, _, _, _, _, _, _, _, _, _⟩ := SA
      exact V.widen (Nat.le_succ _) (Nat.le_add_right _ 6) (law_case_16 S hR hin ⟨by omega, by omega⟩ nxt)
    by_cases c17 : xs X (Int32.ofNat k + 0).toNatClampNeg &&& 63 = 17
    · refine V.tswIn (tgt := 804) c17 dL_law_40 (by decide) (by decide) rfl rfl ?_
      obtain ⟨_, _, _, _, _, _, _, _, _, _, _, _, _, _, _, _, _, S, _, _, _, _, _, _, _, _, _, _, _, _, _, _, _, _, _, _, _, _, _, _⟩ := SA
      exact V.widen (Nat.le_succ _) (Nat.le_add_right _ 6) (law_case_17 S hR hin ⟨by omega, by omega⟩ nxt)
    by_cases c18 : xs X (Int32.ofNat k + 0).toNatClampNeg &&& 63 = 18
    · refine V.tswIn (tgt := 841) c18 dL_law_40 (by decide) (by decide) rfl rfl ?_
      obtain ⟨_, _, _, _, _, _, _, _, _, _, _, _, _, _, _, _, _, _, S, _, _, _, _, _, _, _, _, _, _, _, _, _, _, _, _, _, _, _, _, _⟩ := SA
      exact V.widen (Nat.le_succ _) (Nat.le_add_right _ 6) (law_case_18 S hR hin ⟨by omega, by omega⟩ nxt)
    by_cases c19 : xs X (Int32.ofNat k + 0).toNatClampNeg &&& 63 = 19
    · refine V.tswIn (tgt := 890) c19 dL_law_40 (by decide) (by decide) rfl rfl ?_
      obtain ⟨_, _, _, _, _, _, _, _, _, _, _, _, _, _, _, _, _, _, _, S, _, _, _, _, _, _, _, _, _, _, _, _, _, _, _, _, _, _, _, _⟩ := SA
      exact V.widen (Nat.le_succ _) (Nat.le_add_right _ 6) (law_case_19 S hR hin ⟨by omega, by omega⟩ nxt)
    by_cases c20 : xs X (Int32.ofNat k + 0).toNatClampNeg &&& 63 = 20
    · refine V.tswIn (tgt := 927) c20 dL_law_40 (by decide) (by decide) rfl rfl ?_
      obtain ⟨_, _, _, _, _, _, _, _, _, _, _, _, _, _, _, _, _, _, _, _, S, _, _, _, _, _, _, _, _, _, _, _, _, _, _, _, _, _, _, _⟩ := SA
      exact V.widen (Nat.le_succ _) (Nat.le_add_right _ 6) (law_case_20 S hR hin ⟨by omega, by omega⟩ nxt)
    by_cases c21 : xs X (Int32.ofNat k + 0).toNatClampNeg &&& 63 = 21
    · refine V.tswIn (tgt := 952) c21 dL_law_40 (by decide) (by decide) rfl rfl ?_
      obtain ⟨_, _, _, _, _, _, _, _, _, _, _, _, _, _, _, _, _, _, _, _, _, S, _, _, _, _, _, _, _, _, _, _, _, _, _, _, _, _, _, _⟩ := SA
      exact V.widen (Nat.le_succ _) (Nat.le_add_right _ 6) (law_case_21 S hR hin ⟨by omega, by omega⟩ nxt)
    by_cases c22 : xs X (Int32.ofNat k + 0).toNatClampNeg &&& 63 = 22
    · refine V.tswIn (tgt := 989) c22 dL_law_40 (by decide) (by decide) rfl rfl ?_
      obtain ⟨_, _, _, _, _, _, _, _, _, _, _, _, _, _, _, _, _, _, _, _, _, _, S, _, _, _, _, _, _, _, _, _, _, _, _, _, _, _, _, _⟩ := SA
      exact V.widen (Nat.le_succ _) (Nat.le_add_right _ 6) (law_case_22 S hR hin ⟨by omega, by omega⟩ nxt)
    by_cases c23 : xs X (Int32.ofNat k + 0).toNatClampNeg &&& 63 = 23
    · refine V.tswIn (tgt := 1014) c23 dL_law_40 (by decide) (by decide) rfl rfl ?_
      obtain ⟨_, _, _, _, _, _, _, _, _, _, _, _, _, _, _, _, _, _, _, _, _, _, _, S, _, _, _, _, _, _, _, _, _, _, _, _, _, _, _, _⟩ := SA
      exact V.widen (Nat.le_succ _) (Nat.le_add_right _ 6) (law_case_23 S hR hin ⟨by omega, by omega⟩ nxt)
    by_cases c24 : xs X (Int32.ofNat k + 0).toNatClampNeg &&& 63 = 24
    · refine V.tswIn (tgt := 1051) c24 dL_law_40 (by decide) (by decide) rfl rfl ?_
      obtain ⟨_, _, _, _, _, _, _, _, _, _, _, _, _, _, _, _, _, _, _, _, _, _, _, _, S, _, _, _, _, _, _, _, _, _, _, _, _, _, _, _⟩ := SA
      exact V.widen (Nat.le_succ _) (Nat.le_add_right _ 6) (law_case_24 S hR hin ⟨by omega, by omega⟩ nxt)
    by_cases c25 : xs X (Int32.ofNat k + 0).toNatClampNeg &&& 63 = 25
    · refine V.tswIn (tgt := 1088) c25 dL_law_40 (by decide) (by decide) rfl rfl ?_
      obtain ⟨_, _, _, _, _, _, _, _, _, _, _, _, _, _, _, _, _, _, _, _, _, _, _, _, _, S, _, _, _, _, _, _, _, _, _, _, _, _, _, _⟩ := SA
      exact V.widen (Nat.le_succ _) (Nat.le_add_right _ 6) (law_case_25 S hR hin ⟨by omega, by omega⟩ nxt)
    by_cases c26 : xs X (Int32.ofNat k + 0).toNatClampNeg &&& 63 = 26
    · refine V.tswIn (tgt := 1177) c26 dL_law_40 (by decide) (by decide) rfl rfl ?_
      obtain ⟨_, _, _, _, _, _, _, _, _, _, _, _, _, _, _, _, _, _, _, _, _, _, _, _, _, _, S, _, _, _, _, _, _, _, _, _, _, _, _, _⟩ := SA
      exact V.widen (Nat.le_succ _) (Nat.le_add_right _ 6) (law_case_26 S hR hin ⟨by omega, by omega⟩ nxt)
    by_cases c27 : xs X (Int32.ofNat k + 0).toNatClampNeg &&& 63 = 27
    · refine V.tswIn (tgt := 1202) c27 dL_law_40 (by decide) (by decide) rfl rfl ?_
      obtain ⟨_, _, _, _, _, _, _, _, _, _, _, _, _, _, _, _, _, _, _, _, _, _, _, _, _, _, _, S, _, _, _, _, _, _, _, _, _, _, _, _⟩ := SA
      exact V.widen (Nat.le_succ _) (Nat.le_add_right _ 6) (law_case_27 S hR hin ⟨by omega, by omega⟩ nxt)
    by_cases c28 : xs X (Int32.ofNat k + 0).toNatClampNeg &&& 63 = 28
    · refine V.tswIn (tgt := 1239) c28 dL_law_40 (by decide) (by decide) rfl rfl ?_
      obtain ⟨_, _, _, _, _, _, _, _, _, _, _, _, _, _, _, _, _, _, _, _, _, _, _, _, _, _, _, _, S, _, _, _, _, _, _, _, _, _, _, _⟩ := SA
      exact V.widen (Nat.le_succ _) (Nat.le_add_right _ 6) (law_case_28 S hR hin ⟨by omega, by omega⟩ nxt)
    by_cases c29 : xs X (Int32.ofNat k + 0).toNatClampNeg &&& 63 = 29
    · refine V.tswIn (tgt := 1276) c29 dL_law_40 (by decide) (by decide) rfl rfl ?_
      obtain ⟨_, _, _, _, _, _, _, _, _, _, _, _, _, _, _, _, _, _, _, _, _, _, _, _, _, _, _, _, _, S, _, _, _, _, _, _, _, _, _, _⟩ := SA
      exact V.widen (Nat.le_succ _) (Nat.le_add_right _ 6) (law_case_29 S hR hin ⟨by omega, by omega⟩ nxt)
    by_cases c30 : xs X (Int32.ofNat k + 0).toNatClampNeg &&& 63 = 30
    · refine V.tswIn (tgt := 1363) c30 dL_law_40 (by decide) (by decide) rfl rfl ?_
      obtain ⟨_, _, _, _, _, _, _, _, _, _, _, _, _, _, _, _, _, _, _, _, _, _, _, _, _, _, _, _, _, _, S, _, _, _, _, _, _, _, _, _⟩ := SA
      exact V.widen (Nat.le_succ _) (Nat.le_add_right _ 6) (law_case_30 S hR hin ⟨by omega, by omega⟩ nxt)
    by_cases c31 : xs X (Int32.ofNat k + 0).toNatClampNeg &&& 63 = 31
    · refine V.tswIn (tgt := 1424) c31 dL_law_40 (by decide) (by decide) rfl rfl ?_
      obtain ⟨_, _, _, _, _, _, _, _, _, _, _, _, _, _, _, _, _, _, _, _, _, _, _, _, _, _, _, _, _, _, _, S, _, _, _, _, _, _, _, _⟩ := SA
      exact V.widen (Nat.le_succ _) (Nat.le_add_right _ 6) (law_case_31 S hR hin ⟨by omega, by omega⟩ nxt)
    by_cases c32 : xs X (Int32.ofNat k + 0).toNatClampNeg &&& 63 = 32
    · refine V.tswIn (tgt := 1461) c32 dL_law_40 (by decide) (by decide) rfl rfl ?_
      obtain ⟨_, _, _, _, _, _, _, _, _, _, _, _, _, _, _, _, _, _, _, _, _, _, _, _, _, _, _, _, _, _, _, _, S, _, _, _, _, _, _, _⟩ := SA
      exact V.widen (Nat.le_succ _) (Nat.le_add_right _ 6) (law_case_32 S hR hin ⟨by omega, by omega⟩ nxt)
    by_cases c33 : xs X (Int32.ofNat k + 0).toNatClampNeg &&& 63 = 33
    · refine V.tswIn (tgt := 1486) c33 dL_law_40 (by decide) (by decide) rfl rfl ?_
      obtain ⟨_, _, _, _, _, _, _, _, _, _, _, _, _, _, _, _, _, _, _, _, _, _, _, _, _, _, _, _, _, _, _, _, _, S, _, _, _, _, _, _⟩ := SA
      exact V.widen (Nat.le_succ _) (Nat.le_add_right _ 6) (law_case_33 S hR hin ⟨by omega, by omega⟩ nxt)
    by_cases c34 : xs X (Int32.ofNat k + 0).toNatClampNeg &&& 63 = 34
    · refine V.tswIn (tgt := 1499) c34 dL_law_40 (by decide) (by decide) rfl rfl ?_
      obtain ⟨_, _, _, _, _, _, _, _, _, _, _, _, _, _, _, _, _, _, _, _, _, _, _, _, _, _, _, _, _, _, _, _, _, _, S, _, _, _, _, _⟩ := SA
      exact V.widen (Nat.le_succ _) (Nat.le_add_right _ 6) (law_case_34 S hR hin ⟨by omega, by omega⟩ nxt)
    by_cases c35 : xs X (Int32.ofNat k + 0).toNatClampNeg &&& 63 = 35
    · refine V.tswIn (tgt := 1524) c35 dL_law_40 (by decide) (by decide) rfl rfl ?_
      obtain ⟨_, _, _, _, _, _, _, _, _, _, _, _, _, _, _, _, _, _, _, _, _, _, _, _, _, _, _, _, _, _, _, _, _, _, _, S, _, _, _, _⟩ := SA
      exact V.widen (Nat.le_succ _) (Nat.le_add_right _ 6) (law_case_35 S hR hin ⟨by omega, by omega⟩ nxt)
    by_cases c36 : xs X (Int32.ofNat k + 0).toNatClampNeg &&& 63 = 36
    · refine V.tswIn (tgt := 1549) c36 dL_law_40 (by decide) (by decide) rfl rfl ?_
      obtain ⟨_, _, _, _, _, _, _, _, _, _, _, _, _, _, _, _, _, _, _, _, _, _, _, _, _, _, _, _, _, _, _, _, _, _, _, _, S, _, _, _⟩ := SA
      exact V.widen (Nat.le_succ _) (Nat.le_add_right _ 6) (law_case_36 S hR hin ⟨by omega, by omega⟩ nxt)
    by_cases c37 : xs X (Int32.ofNat k + 0).toNatClampNeg &&& 63 = 37
    · refine V.tswIn (tgt := 1574) c37 dL_law_40 (by decide) (by decide) rfl rfl ?_
      obtain ⟨_, _, _, _, _, _, _, _, _, _, _, _, _, _, _, _, _, _, _, _, _, _, _, _, _, _, _, _, _, _, _, _, _, _, _, _, _, S, _, _⟩ := SA
      exact V.widen (Nat.le_succ _) (Nat.le_add_right _ 6) (law_case_37 S hR hin ⟨by omega, by omega⟩ nxt)
    by_cases c38 : xs X (Int32.ofNat k + 0).toNatClampNeg &&& 63 = 38
    · refine V.tswIn (tgt := 1587) c38 dL_law_40 (by decide) (by decide) rfl rfl ?_
      obtain ⟨_, _, _, _, _, _, _, _, _, _, _, _, _, _, _, _, _, _, _, _, _, _, _, _, _, _, _, _, _, _, _, _, _, _, _, _, _, _, S, _⟩ := SA
      exact V.widen (Nat.le_succ _) (Nat.le_add_right _ 6) (law_case_38 S hR hin ⟨by omega, by omega⟩ nxt)
    by_cases c39 : xs X (Int32.ofNat k + 0).toNatClampNeg &&& 63 = 39
    · refine V.tswIn (tgt := 1600) c39 dL_law_40 (by decide) (by decide) rfl rfl ?_
      obtain ⟨_, _, _, _, _, _, _, _, _, _, _, _, _, _, _, _, _, _, _, _, _, _, _, _, _, _, _, _, _, _, _, _, _, _, _, _, _, _, _, S⟩ := SA
      exact V.widen (Nat.le_succ _) (Nat.le_add_right _ 6) (law_case_39 S hR hin ⟨by omega, by omega⟩ nxt)
    refine V.tswOut (tgt := 1625) dL_law_40 (tsw_out (by decide) (by decide) [0, 1, 2, 3, 4, 5, 6, 7, 8, 9, 10, 11, 12, 13, 14, 15, 16, 17, 18, 19, 20, 21, 22, 23, 24, 25, 26, 27, 28, 29, 30, 31, 32, 33, 34, 35, 36, 37, 38, 39] rfl (fun v hv => ?_)) rfl ?_
    · simp only [List.mem_cons, List.not_mem_nil, or_false] at hv
      rcases hv with rfl | rfl | rfl | rfl | rfl | rfl | rfl | rfl | rfl | rfl | rfl | rfl | rfl | rfl | rfl | rfl | rfl | rfl | rfl | rfl | rfl | rfl | rfl | rfl | rfl | rfl | rfl | rfl | rfl | rfl | rfl | rfl | rfl | rfl | rfl | rfl | rfl | rfl | rfl | rfl <;> assumption
    exact V.widen (Nat.le_succ _) (Nat.le_add_right _ 6) (nxt h g hR)
