set_option maxRecDepth 100000 in
theorem fl_X11_177 : fOK RX11 177 0 RX0 TX0 13 1 := ⟨cok_X0, by decide, rfl, gin 287 (by decide +kernel) rfl⟩
set_option maxRecDepth 100000 in
theorem fl_X11_180 : fOK RX11 180 0 RX0 TX0 13 3 := ⟨cok_X0, by decide, rfl, gin 294 (by decide +kernel) rfl⟩
set_option maxRecDepth 100000 in
theorem mf_X11_house : mV yX11_house cX11_house 3 (some .int) 2 11 := ⟨⟨gin 1412 (by decide +kernel) rfl, ⟨by decide +kernel, by decide +kernel, by decide +kernel⟩, by decide, gin 92 (by decide +kernel) rfl⟩, gin 1410 (by decide +kernel) rfl, gin 1411 (by decide +kernel) rfl, ⟨TX11, 14, rfl⟩⟩
set_option maxRecDepth 100000 in
theorem ml_X11_166 : Cond.methodLink RX11 166 yX1_strengthOf ∈ gtbl := gin 1478 (by decide +kernel) rfl
theorem dX11_house_0 : decode cX11_house 0 = .ok (.aload_n 0, 1) := by decide +kernel
theorem dX11_house_1 : decode cX11_house 1 = .ok (.getfield 42, 3) := by decide +kernel
theorem dX11_house_4 : decode cX11_house 4 = .ok (.iload_n 1, 1) := by decide +kernel
theorem dX11_house_5 : decode cX11_house 5 = .ok (.invokevirtual 153, 3) := by decide +kernel
theorem dX11_house_8 : decode cX11_house 8 = .ok (.ifCond .eq 12, 3) := by decide +kernel
theorem dX11_house_11 : decode cX11_house 11 = .ok (.iload_n 2, 1) := by decide +kernel
theorem dX11_house_12 : decode cX11_house 12 = .ok (.ifCond .lt 8, 3) := by decide +kernel
theorem dX11_house_15 : decode cX11_house 15 = .ok (.iload_n 2, 1) := by decide +kernel
theorem dX11_house_16 : decode cX11_house 16 = .ok (.iconst 4, 1) := by decide +kernel
theorem dX11_house_17 : decode cX11_house 17 = .ok (.if_icmp .le 13, 3) := by decide +kernel
theorem dX11_house_20 : decode cX11_house 20 = .ok (.new 156, 3) := by decide +kernel
theorem dX11_house_23 : decode cX11_house 23 = .ok (.dup, 1) := by decide +kernel
theorem dX11_house_24 : decode cX11_house 24 = .ok (.ldc 158, 2) := by decide +kernel
theorem dX11_house_26 : decode cX11_house 26 = .ok (.invokespecial 160, 3) := by decide +kernel
theorem dX11_house_29 : decode cX11_house 29 = .ok (.athrow, 1) := by decide +kernel
theorem dX11_house_30 : decode cX11_house 30 = .ok (.iload_n 2, 1) := by decide +kernel
theorem dX11_house_31 : decode cX11_house 31 = .ok (.tableswitch 71 0 3 #[29, 38, 47, 59], 29) := by decide +kernel
theorem dX11_house_60 : decode cX11_house 60 = .ok (.aload_n 0, 1) := by decide +kernel
theorem dX11_house_61 : decode cX11_house 61 = .ok (.getfield 42, 3) := by decide +kernel
theorem dX11_house_64 : decode cX11_house 64 = .ok (.iload_n 1, 1) := by decide +kernel
theorem dX11_house_65 : decode cX11_house 65 = .ok (.invokevirtual 163, 3) := by decide +kernel
theorem dX11_house_68 : decode cX11_house 68 = .ok (.ireturn, 1) := by decide +kernel
theorem dX11_house_69 : decode cX11_house 69 = .ok (.aload_n 0, 1) := by decide +kernel
theorem dX11_house_70 : decode cX11_house 70 = .ok (.getfield 42, 3) := by decide +kernel
theorem dX11_house_73 : decode cX11_house 73 = .ok (.iload_n 1, 1) := by decide +kernel
theorem dX11_house_74 : decode cX11_house 74 = .ok (.invokevirtual 166, 3) := by decide +kernel
theorem dX11_house_77 : decode cX11_house 77 = .ok (.ireturn, 1) := by decide +kernel
theorem dX11_house_78 : decode cX11_house 78 = .ok (.aload_n 0, 1) := by decide +kernel
theorem dX11_house_79 : decode cX11_house 79 = .ok (.getfield 65, 3) := by decide +kernel
theorem dX11_house_82 : decode cX11_house 82 = .ok (.getfield 169, 3) := by decide +kernel
theorem dX11_house_85 : decode cX11_house 85 = .ok (.iload_n 1, 1) := by decide +kernel
theorem dX11_house_86 : decode cX11_house 86 = .ok (.invokestatic 173, 3) := by decide +kernel
theorem dX11_house_89 : decode cX11_house 89 = .ok (.ireturn, 1) := by decide +kernel
theorem dX11_house_90 : decode cX11_house 90 = .ok (.aload_n 0, 1) := by decide +kernel
theorem dX11_house_91 : decode cX11_house 91 = .ok (.getfield 65, 3) := by decide +kernel
theorem dX11_house_94 : decode cX11_house 94 = .ok (.getfield 177, 3) := by decide +kernel
theorem dX11_house_97 : decode cX11_house 97 = .ok (.iload_n 1, 1) := by decide +kernel
theorem dX11_house_98 : decode cX11_house 98 = .ok (.invokestatic 173, 3) := by decide +kernel
theorem dX11_house_101 : decode cX11_house 101 = .ok (.ireturn, 1) := by decide +kernel
theorem dX11_house_102 : decode cX11_house 102 = .ok (.aload_n 0, 1) := by decide +kernel
theorem dX11_house_103 : decode cX11_house 103 = .ok (.getfield 65, 3) := by decide +kernel
theorem dX11_house_106 : decode cX11_house 106 = .ok (.getfield 180, 3) := by decide +kernel
theorem dX11_house_109 : decode cX11_house 109 = .ok (.iload_n 1, 1) := by decide +kernel
theorem dX11_house_110 : decode cX11_house 110 = .ok (.invokestatic 173, 3) := by decide +kernel
theorem dX11_house_113 : decode cX11_house 113 = .ok (.ireturn, 1) := by decide +kernel
theorem dL_house_0 : decode cL_house 0 = .ok (.aload_n 3, 1) := by decide +kernel
theorem dL_house_1 : decode cL_house 1 = .ok (.iconst 0, 1) := by decide +kernel
theorem dL_house_2 : decode cL_house 2 = .ok (.aload_n 0, 1) := by decide +kernel
theorem dL_house_3 : decode cL_house 3 = .ok (.iload_n 1, 1) := by decide +kernel
theorem dL_house_4 : decode cL_house 4 = .ok (.iload_n 2, 1) := by decide +kernel
theorem dL_house_5 : decode cL_house 5 = .ok (.invokevirtual 7, 3) := by decide +kernel
theorem dL_house_8 : decode cL_house 8 = .ok (.i2l, 1) := by decide +kernel
theorem dL_house_9 : decode cL_house 9 = .ok (.lastore, 1) := by decide +kernel
theorem dL_house_10 : decode cL_house 10 = .ok (.goto 7, 3) := by decide +kernel
theorem dL_house_13 : decode cL_house 13 = .ok (.astore 4, 2) := by decide +kernel
theorem dL_house_15 : decode cL_house 15 = .ok (.iconst 1, 1) := by decide +kernel
theorem dL_house_16 : decode cL_house 16 = .ok (.ireturn, 1) := by decide +kernel
theorem dL_house_17 : decode cL_house 17 = .ok (.iconst 0, 1) := by decide +kernel
theorem dL_house_18 : decode cL_house 18 = .ok (.ireturn, 1) := by decide +kernel
def X11_house_20 (h : Mm) : Option Int32 := none
set_option maxRecDepth 100000 in
set_option maxHeartbeats 4000000 in
theorem v_X11_house_20 {X : WX} {G : GX} {o : Mm} {rv : Int32} {h : Mm} (hF : X11_house_20  h = some rv) : V X G RX11 cX11_house 3 (some .int) 4 0 0 (QR X G true o (some (.int rv)) h) true o 20 [] [] h := by
  unfold X11_house_20 at hF
  exact nomatch hF
def X11_house (x1 : Int32) (x2 : Int32) (h : Mm) : Option Int32 := (bp (X1_hasHouse 13 x1 h) (fun r25 => (if r25 = true then (if x2 < 0 then (X11_house_20 h) else (if x2 ≤ (4 : Int32) then (if x2 = 0 then (bp (X1_childrenOf 13 x1 h) (fun r27 => (some r27))) else (if x2 = 1 then (bp (X1_strengthOf 13 x1 h) (fun r29 => (some r29))) else (if x2 = 2 then (bp (X11_at 30 x1 h) (fun r31 => (some r31))) else (if x2 = 3 then (bp (X11_at 29 x1 h) (fun r33 => (some r33))) else (bp (X11_at 31 x1 h) (fun r35 => (some r35))))))) else (X11_house_20 h))) else (X11_house_20 h))))
set_option maxRecDepth 100000 in
set_option maxHeartbeats 4000000 in
theorem s_X11_house {X : WX} {o : Mm} {x1 : Int32} {x2 : Int32} {rv : Int32} {h : Mm} (hF : X11_house x1 x2 h = some rv) : Sat X yX11_house cX11_house 3 (some .int) 4 [.ref (xa X 0), .int x1, .int x2] true o h (some (.int rv)) h := by
  unfold X11_house at hF
  refine Sat.mk (own := RX11) rfl (by decide +kernel) (Nat.le_of_ble_eq_true rfl) (fun G => ?_)
  refine V.sub (lv2 := [(0, _), (1, _), (2, _)]) [0, 1, 2] rfl ?_
  refine V.aload_n 0 dX11_house_0 rfl rfl ?_
  refine V.getR (v := 13) fl_X11_42 sh_0 rfl fx_0_4 (by decide) dX11_house_1 ?_
  refine V.iload_n 1 dX11_house_4 rfl rfl ?_
  obtain ⟨r25, hc26, hF⟩ := bp_s hF
  refine V.callVi mf_X1_hasHouse ml_X11_153 sh_13 (s_X1_hasHouse (Or.inr rfl) hc26) (by decide) rfl rfl (Nat.le_of_ble_eq_true rfl) dX11_house_5 ?_
  refine V.ifz_eq (tgt := 20) dX11_house_8 rfl (fun c => ?_) (fun c => ?_)
  · replace hF := iq c hF
    exact V.sub [] rfl (v_X11_house_20 hF)
  · replace hF := ip c hF
    refine V.iload_n 2 dX11_house_11 rfl rfl ?_
    refine V.if_lt (tgt := 20) dX11_house_12 rfl (fun c => ?_) (fun c => ?_)
    · replace hF := ip c hF
      exact V.sub [] rfl (v_X11_house_20 hF)
    · replace hF := iq c hF
      refine V.iload_n 2 dX11_house_15 rfl rfl ?_
      refine V.iconst (v := 4) dX11_house_16 rfl ?_
      refine V.icmp_le (tgt := 30) dX11_house_17 rfl (fun c => ?_) (fun c => ?_)
      · replace hF := ip c hF
        refine V.iload_n 2 dX11_house_30 rfl rfl ?_
        by_cases c0 : x2 = 0
        · replace hF := ip c0 hF
          refine V.tswIn (tgt := 60) c0 dX11_house_31 (by decide) (by decide) rfl rfl ?_
          refine V.aload_n 0 dX11_house_60 rfl rfl ?_
          refine V.getR (v := 13) fl_X11_42 sh_0 rfl fx_0_4 (by decide) dX11_house_61 ?_
          refine V.iload_n 1 dX11_house_64 rfl rfl ?_
          obtain ⟨r27, hc28, hF⟩ := bp_s hF
          refine V.callVi mf_X1_childrenOf ml_X11_163 sh_13 (s_X1_childrenOf (Or.inr rfl) hc28) (by decide) rfl rfl (Nat.le_of_ble_eq_true rfl) dX11_house_65 ?_
          cases hF
          exact V.iret dX11_house_68
        replace hF := iq c0 hF
        by_cases c1 : x2 = 1
        · replace hF := ip c1 hF
          refine V.tswIn (tgt := 69) c1 dX11_house_31 (by decide) (by decide) rfl rfl ?_
          refine V.aload_n 0 dX11_house_69 rfl rfl ?_
          refine V.getR (v := 13) fl_X11_42 sh_0 rfl fx_0_4 (by decide) dX11_house_70 ?_
          refine V.iload_n 1 dX11_house_73 rfl rfl ?_
          obtain ⟨r29, hc30, hF⟩ := bp_s hF
          refine V.callVi mf_X1_strengthOf ml_X11_166 sh_13 (s_X1_strengthOf (Or.inr rfl) hc30) (by decide) rfl rfl (Nat.le_of_ble_eq_true rfl) dX11_house_74 ?_
          cases hF
          exact V.iret dX11_house_77
        replace hF := iq c1 hF
        by_cases c2 : x2 = 2
        · replace hF := ip c2 hF
          refine V.tswIn (tgt := 78) c2 dX11_house_31 (by decide) (by decide) rfl rfl ?_
          refine V.aload_n 0 dX11_house_78 rfl rfl ?_
          refine V.getR (v := 27) fl_X11_65 sh_0 rfl fx_0_7 (by decide) dX11_house_79 ?_
          refine V.getR (v := 30) fl_X11_169 sh_27 rfl fx_27_2 (by decide) dX11_house_82 ?_
          refine V.iload_n 1 dX11_house_85 rfl rfl ?_
          obtain ⟨r31, hc32, hF⟩ := bp_s hF
          refine V.callSi mf_X11_at ml_X11_173 (s_X11_at (Or.inl io_30) hc32) (by decide) rfl rfl (Nat.le_of_ble_eq_true rfl) dX11_house_86 ?_
          cases hF
          exact V.iret dX11_house_89
        replace hF := iq c2 hF
        by_cases c3 : x2 = 3
        · replace hF := ip c3 hF
          refine V.tswIn (tgt := 90) c3 dX11_house_31 (by decide) (by decide) rfl rfl ?_
          refine V.aload_n 0 dX11_house_90 rfl rfl ?_
          refine V.getR (v := 27) fl_X11_65 sh_0 rfl fx_0_7 (by decide) dX11_house_91 ?_
          refine V.getR (v := 29) fl_X11_177 sh_27 rfl fx_27_1 (by decide) dX11_house_94 ?_
          refine V.iload_n 1 dX11_house_97 rfl rfl ?_
          obtain ⟨r33, hc34, hF⟩ := bp_s hF
          refine V.callSi mf_X11_at ml_X11_173 (s_X11_at (Or.inl io_29) hc34) (by decide) rfl rfl (Nat.le_of_ble_eq_true rfl) dX11_house_98 ?_
          cases hF
          exact V.iret dX11_house_101
        replace hF := iq c3 hF
        refine V.tswOut (tgt := 102) dX11_house_31 (tsw_out (by decide) (by decide) [0, 1, 2, 3] rfl (fun v hv => ?_)) rfl ?_
        · simp only [List.mem_cons, List.not_mem_nil, or_false] at hv
          rcases hv with rfl | rfl | rfl | rfl <;> assumption
        refine V.aload_n 0 dX11_house_102 rfl rfl ?_
        refine V.getR (v := 27) fl_X11_65 sh_0 rfl fx_0_7 (by decide) dX11_house_103 ?_
        refine V.getR (v := 31) fl_X11_180 sh_27 rfl fx_27_3 (by decide) dX11_house_106 ?_
        refine V.iload_n 1 dX11_house_109 rfl rfl ?_
        obtain ⟨r35, hc36, hF⟩ := bp_s hF
        refine V.callSi mf_X11_at ml_X11_173 (s_X11_at (Or.inl io_31) hc36) (by decide) rfl rfl (Nat.le_of_ble_eq_true rfl) dX11_house_110 ?_
        cases hF
        exact V.iret dX11_house_113
      · replace hF := iq c hF
        exact V.sub [] rfl (v_X11_house_20 hF)
def NSE : String := "java/util/NoSuchElementException"
theorem nse_ini : Cond.initialized NSE ∈ gtbl := gin 116 (by decide +kernel) rfl
theorem nse_link : Cond.classLink RX11 156 NSE ∈ gtbl := gin 1413 (by decide +kernel) rfl
theorem nse_linkL : Cond.classLink RL 13 NSE ∈ gtbl := gin 1408 (by decide +kernel) rfl
theorem ml_L_7 : Cond.methodLink RL 7 yX11_house ∈ gtbl := gin 1409 (by decide +kernel) rfl
def rxN : ByteArray := ⟨#[0x2a, 0x2b, 0xb7, 0x00, 0x0d, 0xb1]⟩
def xat : List Cond := vz_at RX11 160 NSE 13 rxN ["java/lang/RuntimeException", "java/lang/Exception"]
def dcT : List (MethodName × ByteArray) := [(Bundle.initS "java/lang/RuntimeException", Bundle.six), (Bundle.initS "java/lang/Exception", Bundle.six), (Bundle.initS Bundle.tN, Jvm.LibCode.Throwable.InitS.code)]
set_option maxRecDepth 100000 in
theorem dc_good : ∀ x ∈ dcT, Cond.instanceMethod x.1 ∈ xat.filter goodWord ∧ Cond.code x.1 x.2 2 none ∈ xat.filter goodWord := by decide +kernel
theorem dc_of {args : Array Value} {s : State} {x : MethodName} {bs : ByteArray} {n : Nat} {r : Option FieldType} (h1 : (Cond.instanceMethod x).before args s = true) (h2 : (Cond.code x bs n r).before args s = true) : (Cond.declares x).before args s = true := by
  obtain ⟨o, m1, a1, a2, a3, -⟩ := Cond.instanceMethod_spec h1
  obtain ⟨m2, c2, b1, b2, b3, b4, -, b5, -, b6⟩ := Cond.code_spec a1 h2
  cases a2.symm.trans b1
  show (Cond.declares x).holds args s none s [] = true
  simp [Cond.holds, Cond.value, a1, a2, a3, b6]
set_option maxRecDepth 100000 in
theorem xat_good : ∀ w ∈ xat.filter goodWord, w ∈ lw_tbl := by decide +kernel
set_option maxRecDepth 100000 in
theorem xat_bad : ∀ w ∈ xat.filter (fun w => !goodWord w), w ∈ Cond.castable NSE NSE :: dcT.map (fun x => Cond.declares x.1) := by decide +kernel
set_option maxRecDepth 100000 in
theorem xat_ot : ∀ w ∈ Cond.classLink RX11 156 NSE :: Cond.initialized NSE :: xat, vx_ot w = true := by decide +kernel
/-- what a throw reads besides -/
def EXU (X : WX) (U : State) : Prop := vx_Zq Bundle.tN "UNASSIGNED_STACK" Bundle.steD (xA X) U U.heap ∧ vx_Zq Bundle.tN "SUPPRESSED_SENTINEL" Bundle.listD (xA X) U U.heap ∧ va_Nw (.castable NSE NSE) U
theorem EXU.warm {X : WX} {s U : State} (hW : s.WarmedH U.vm) (hq : ∀ a : Nat, a < s.heap.size → ¬ xA X a → U.heap[a]? = s.heap[a]?) (h : EXU X s) : EXU X U := ⟨(h.1.kept hq).moved hW.alike, (h.2.1.kept hq).moved hW.alike, h.2.2.warmC hW⟩
theorem EXU.same {X : WX} {s U : State} (hv : U.vm = s.vm) (hh : U.heap = s.heap) (h : EXU X s) : EXU X U := by
  have ha : s.vm.Alike U.vm := by rw [hv]; exact Vm.Alike.refl _
  have hq : ∀ a : Nat, a < s.heap.size → ¬ xA X a → U.heap[a]? = s.heap[a]? := fun a _ _ => by rw [hh]
  exact ⟨(h.1.kept hq).moved ha, (h.2.1.kept hq).moved ha, h.2.2.same rfl hv.symm⟩
def PreH (X : WX) (M : Mm) (U : State) : Prop := PreR X M U ∧ EXU X U
theorem PreH.blind {X : WX} {M : Mm} {as : List Value} : FrameBlind (va_Pc as (PreH X M)) := fun a U g mk q => ⟨q.1, (PreR.blind (as := as) a U g mk ⟨q.1, q.2.1⟩).2, q.2.2.same rfl rfl⟩
/-- thrown: the class, the world as it was -/
def XCH (X : WX) (M : Mm) : String → State → State → Prop := fun E st t => E = NSE ∧ va_P (xD X) vwCl (wd X M) t.heap ∧ Fix M ∧ va_F (xA X) st t
section HS
variable {X : WX} {G : GX} {own : String} {cc : ByteArray} {nL : Nat} {ret : Option FieldType} {D cells slots : Nat} {Q : State → Prop} {b : Bool} {o : Mm} {pc : Nat} {lv : List (Nat × Value)} {st : List Value} {h : Mm}
theorem V.throwH {Qc : Array Value → State → Outcome → State → Prop} (hl0 : (xl X).stackTraces = false) (hEX : EXU X (gs G)) (htab : ∀ x ∈ (gc G).exceptionTable.toList, False) (hD6 : 6 ≤ D) (hrc : (gR G).cells = 1) (hrs : (gR G).slots = 6) : V X G RX11 cX11_house 3 (some .int) D 0 0 (vx_MQ (gb G) Qc (XCH X (cbs b h o)) (ga G) (gs G) 1 6 (xA X)) b o 20 lv [] h := by
  intro C H locs ls hR hl
  have C0 := C
  obtain ⟨hx, hb, hml, hown, hts, hlk, hr, hK, hE, hD, hA, hfr, hlo⟩ := C0
  have hg : ∀ w ∈ xat.filter goodWord, w.before (ga G) (gs G) = true := fun w hw => hts w (List.mem_filter.mpr ⟨xat_good w hw, (List.mem_filter.mp hw).2⟩)
  have hat : ∀ w ∈ xat, w.before (ga G) (gs G) = true := vx_hat hg xat_bad (vx_c (hEX.2.2.use rfl) (fun w hw => by
    obtain ⟨x, hx1, rfl⟩ := List.mem_map.mp hw
    exact dc_of (hg _ (dc_good x hx1).1) (hg _ (dc_good x hx1).2)))
  refine vz_throwS (A := xA X) hx hb hl0 (ix := 13) (rx := rxN) (by decide +kernel) (by decide +kernel) (by decide +kernel) (by decide +kernel) hown (by decide +kernel) (by decide +kernel) (hts _ nse_link) (hts _ nse_ini) (hE.2.2.2.1 ("MonsterCot", 158, "no such house, or nothing such of it", 1030) (List.mem_of_getElem? (i := 10) (by decide +kernel))) hat xat_ot hEX.1 hEX.2.1 hR.2.1 (by rw [hl.1, hml]) dX11_house_20 dX11_house_23 dX11_house_24 dX11_house_26 dX11_house_29 (fun x hx => (htab x hx).elim) (by show 5 < _; omega) (by show 0 + (13 * 3 + 43) ≤ _; omega) (by rw [hrc]; decide) (by rw [hrs]; decide) hlk (fun t ha hsz heq => ⟨rfl, ?_, hR.2.2, ?_⟩) hR.2.1.2.2 (by decide) (by decide)
  · exact hR.1.kept (fun k x hx => heq _ ((hR.1 k x hx).lt))
  · exact ⟨Nat.le_trans hR.2.1.1 hsz, fun q h1 h2 => by rw [heq q (Nat.lt_of_lt_of_le h1 hR.2.1.1)]; exact hR.2.1.2.1 q h1 h2⟩
theorem VX.of {y : MethodName} {d mc ms : Nat} {as : List Value} {M : Mm} {Qc : Array Value → State → Outcome → State → Prop} {XC : String → State → State → Prop} (hown : y.cls = own) (hy : plainName y.cls = true) (hn : (lg_sl as).length ≤ nL) (hM : M = cbs b h o) (k : ∀ G, EXU X (gs G) → (∀ x ∈ (gc G).exceptionTable.toList, False) → (gR G).cells = mc → (gR G).slots = ms → V X G own cc nL ret d 0 0 (vx_MQ (gb G) Qc XC (ga G) (gs G) mc ms (xA X)) b o 0 (lv_args 0 as) [] h) : vx_Met (xl X) y (mws y cc nL ret) (rmc d mc ms) (va_Pc as (PreH X M)) Qc XC mc ms (xA X) := by
  subst hown; subst hM
  refine vx_ofW (cc := cc) (maxL := nL) (ret := ret) hy rfl ?_
  intro p e s m args below meth c s₁ B hml htab hv
  obtain ⟨rfl, ⟨hP, hK, hE, hF, hD, hA⟩, hEX⟩ := hv
  have hts := atoms_spec (ws := mws y cc nL ret) B.pre
  have C : Cx X (p, e, (headSpec (mws y cc nL ret) (rmc d mc ms)).room, s, m, as.toArray, below, meth, c) y.cls cc nL ret d :=
    ⟨B.exec, B.bytes, hml, findClass_of_methodNamed B.named, fun w hw => hts w (List.mem_cons_of_mem _ hw), B.notSynchronized, B.returns, hK, hE, hD, hA, Nat.le_refl d, Nat.le_refl _⟩
  have hl := lv_entry as (n := nL) hn
  rw [lg_entry_eq]
  exact k (p, e, (headSpec (mws y cc nL ret) (rmc d mc ms)).room, s, m, as.toArray, below, meth, c) hEX htab rfl rfl C s.heap [] _ ⟨hP, va_S.rf, hF⟩ hl
set_option maxRecDepth 100000 in
set_option maxHeartbeats 4000000 in
theorem x_X11_house {x1 x2 : Int32} {r : Bool} (hl0 : (xl X).stackTraces = false) (hh : X1_hasHouse 13 x1 h = some r) (hc : r = false ∨ x2 < 0 ∨ (4 : Int32) < x2) : vx_Met (xl X) yX11_house (mws yX11_house cX11_house 3 (some .int)) (rmc 20 1 6) (va_Pc [.ref (xa X 0), .int x1, .int x2] (PreH X (cbs true h o))) (fun _ _ _ _ => False) (XCH X (cbs true h o)) 1 6 (xA X) := by
  refine VX.of (own := RX11) (b := true) (h := h) (o := o) rfl (by decide +kernel) (Nat.le_of_ble_eq_true rfl) rfl (fun G hEX htab hc1 hc2 => ?_)
  refine V.sub (lv2 := [(0, _), (1, _), (2, _)]) [0, 1, 2] rfl ?_
  have fin : V X G RX11 cX11_house 3 (some .int) 20 0 0 (vx_MQ (gb G) (fun _ _ _ _ => False) (XCH X (cbs true h o)) (ga G) (gs G) 1 6 (xA X)) true o 20 [(0, .ref (xa X 0)), (1, .int x1), (2, .int x2)] [] h := V.throwH hl0 hEX htab (by decide) hc1 hc2
  refine V.aload_n 0 dX11_house_0 rfl rfl ?_
  refine V.getR (v := 13) fl_X11_42 sh_0 rfl fx_0_4 (by decide) dX11_house_1 ?_
  refine V.iload_n 1 dX11_house_4 rfl rfl ?_
  refine V.callVi mf_X1_hasHouse ml_X11_153 sh_13 (s_X1_hasHouse (Or.inr rfl) hh) (by decide) rfl rfl (Nat.le_of_ble_eq_true rfl) dX11_house_5 ?_
  refine V.ifz_eq (tgt := 20) dX11_house_8 rfl (fun _ => fin) (fun q => ?_)
  refine V.iload_n 2 dX11_house_11 rfl rfl ?_
  refine V.if_lt (tgt := 20) dX11_house_12 rfl (fun _ => fin) (fun q2 => ?_)
  refine V.iload_n 2 dX11_house_15 rfl rfl ?_
  refine V.iconst (v := 4) dX11_house_16 rfl ?_
  refine V.icmp_le (tgt := 30) dX11_house_17 rfl (fun q3 => ?_) (fun _ => fin)
  exfalso
  rcases hc with z | z | z
  · rw [z] at q; cases q
  · exact q2 z
  · exact absurd q3 (Int32.not_le.mpr z)
/-! the law's house -/
def hhT : List (Nat × Nat × Nat × Nat) := [(0, 10, 13, 13)]
def mwl : List Cond := .codeWith yL_house cL_house 5 (some .int) hhT :: gtbl
theorem lh_code : Cond.codeWith yL_house cL_house 5 (some .int) hhT ∈ gtbl := gin 1407 (by decide +kernel) rfl
theorem mwl_good : GoodIn gtbl mwl := by
  intro w hw
  rcases List.mem_cons.mp hw with rfl | hw
  · exact ⟨lh_code, tbl_in lh_code⟩
  · exact ⟨hw, tbl_in hw⟩
theorem V.widen {k n : Nat} (h1 : cells ≤ k) (h2 : slots ≤ n) (kk : V X G own cc nL ret D k n Q b o pc lv st h) : V X G own cc nL ret D cells slots Q b o pc lv st h := fun C H locs ls hR hl => W.widen h1 h2 (kk C H locs ls hR hl)
theorem V.iretG {v : Int32} {mc ms : Nat} (hdg : decode cc pc = .ok (.ireturn, 1)) : V X G own cc nL (some .int) D mc ms (MQ (gb G) (Post X b o (some (.int v)) h) (ga G) (gs G) mc ms (xA X)) b o pc lv [.int v] h := by
  intro C H locs ls hR hl
  obtain ⟨hx, hb, hml, hown, hts, hlk, hr, hK, hE, hD, hA, hf, hlo⟩ := C
  exact W.iret hx hb hr (fun t ht _ => ⟨rfl, by rw [ht]; exact hR.1, hR.2.2, hR.2.1.F ht⟩) hR.2.1.2.2 hdg hlk
def SatH (X : WX) (x1 x2 : Int32) (h g : Mm) (v : Int32) (g' : Mm) : Prop :=
  Met (xl X) yL_house mwl (rmc 22 1 6) (va_Pc [.ref (xa X 0), .int x1, .int x2, .ref (xa X 273)] (PreH X (cbs false g h))) (Post X false h (some (.int v)) g') 1 6 (xA X)
theorem SatH.of {x1 x2 v : Int32} {g g' : Mm} (k : ∀ G, EXU X (gs G) → (gc G).exceptionTable.toList = tableOf hhT → (gR G).cells = 1 → (gR G).slots = 6 → V X G RL cL_house 5 (some .int) 22 0 0 (MQ (gb G) (Post X false h (some (.int v)) g') (ga G) (gs G) 1 6 (xA X)) false h 0 (lv_args 0 [.ref (xa X 0), .int x1, .int x2, .ref (xa X 273)]) [] g) : SatH X x1 x2 h g v g' := by
  refine va_MetW (cc := cL_house) (maxL := 5) (ret := some .int) (hh := hhT) (by decide +kernel) rfl ?_
  intro p e s m args below meth c s₁ B hml hv
  obtain ⟨rfl, ⟨hP, hK, hE, hF, hD, hA⟩, hEX⟩ := hv
  have hts := atoms_spec (ws := mwl) B.pre
  have C : Cx X (p, e, (headSpec mwl (rmc 22 1 6)).room, s, m, [Value.ref (xa X 0), .int x1, .int x2, .ref (xa X 273)].toArray, below, meth, c) RL cL_house 5 (some .int) 22 :=
    ⟨B.exec, B.bytes, hml, findClass_of_methodNamed B.named, fun w hw => hts w (List.mem_cons_of_mem _ hw), B.notSynchronized, B.returns, hK, hE, hD, hA, Nat.le_refl _, Nat.le_refl _⟩
  have hl := lv_entry [Value.ref (xa X 0), .int x1, .int x2, .ref (xa X 273)] (n := 5) (Nat.le_of_ble_eq_true rfl)
  rw [lg_entry_eq]
  exact k (p, e, (headSpec mwl (rmc 22 1 6)).room, s, m, [Value.ref (xa X 0), .int x1, .int x2, .ref (xa X 273)].toArray, below, meth, c) hEX (vx_table (x := yL_house) B (hts _ List.mem_cons_self)) rfl rfl C s.heap [] _ ⟨hP, va_S.rf, hF⟩ hl
theorem io_273 : isO false 3 273 := ⟨by decide +kernel, by decide +kernel⟩
set_option maxRecDepth 100000 in
set_option maxHeartbeats 4000000 in
/-- no throw: 0, the answer in the long[1] -/
theorem s_L_house_0 {x1 x2 r : Int32} {g : Mm} (e1 : X11_house x1 x2 h = some r) : SatH X x1 x2 h g 0 (wL g 273 0 r.toInt64) := by
  refine SatH.of (fun G hEX htab hc1 hc2 => ?_)
  refine V.sub (lv2 := [(0, _), (1, _), (2, _), (3, _)]) [0, 1, 2, 3] rfl ?_
  refine V.aload_n 3 dL_house_0 rfl rfl ?_
  refine V.iconst (v := 0) dL_house_1 rfl ?_
  refine V.aload_n 0 dL_house_2 rfl rfl ?_
  refine V.iload_n 1 dL_house_3 rfl rfl ?_
  refine V.iload_n 2 dL_house_4 rfl rfl ?_
  refine V.swap (b2 := true) rfl ?_
  refine V.callVi mf_X11_house ml_L_7 sh_0 (s_X11_house e1) (by decide) rfl rfl (Nat.le_of_ble_eq_true rfl) dL_house_5 ?_
  refine V.swap (b2 := false) rfl ?_
  refine V.i2l dL_house_8 ?_
  refine V.last io_273 (by decide +kernel) dL_house_9 ?_
  refine V.goto (tgt := 17) dL_house_10 rfl ?_
  refine V.iconst (v := 0) dL_house_17 rfl ?_
  refine V.widen (k := 1) (n := 6) (by decide) (by decide) ?_
  exact V.iretG dL_house_18
set_option maxRecDepth 100000 in
set_option maxHeartbeats 4000000 in
/-- thrown and caught: 1, the memory as it was -/
theorem s_L_house_1 {x1 x2 : Int32} {r : Bool} {g : Mm} (hl0 : (xl X).stackTraces = false) (hh : X1_hasHouse 13 x1 h = some r) (hc : r = false ∨ x2 < 0 ∨ (4 : Int32) < x2) : SatH X x1 x2 h g 1 g := by
  refine SatH.of (fun G hEX htab hc1 hc2 => ?_)
  refine V.sub (lv2 := [(0, _), (1, _), (2, _), (3, _)]) [0, 1, 2, 3] rfl ?_
  refine V.aload_n 3 dL_house_0 rfl rfl ?_
  refine V.iconst (v := 0) dL_house_1 rfl ?_
  refine V.aload_n 0 dL_house_2 rfl rfl ?_
  refine V.iload_n 1 dL_house_3 rfl rfl ?_
  refine V.iload_n 2 dL_house_4 rfl rfl ?_
  intro C H locs ls hR hl T hT XS
  have C0 := C
  obtain ⟨hx, hb, hml, hown, hts, hlk, hr, hK, hE, hD, hA, hfr, hlo⟩ := C0
  have hM := x_X11_house (X := X) (o := g) hl0 hh hc
  have hRs : Rl X (cbs true h g) G H locs := hR
  have hm := mf_X11_house
  obtain ⟨T0, N0, hcl0⟩ := hm.2.2.2
  rcases vx_runV (As := [.int x1, .int x2]) (rest := [.int 0, .ref (xa X 273)]) (y := yX11_house) (C := yX11_house.cls) (g := F0 (gm G) 5 ls [.int x2, .int x1, .ref (xa X 0), .int 0, .ref (xa X 273)]) ⟨hx, hb, hml, hown, hts⟩ hM ⟨callB_of 2 hts (mws_good hm.1.1) rfl rfl rfl (hts _ hm.1.2.2.2) (hts _ ml_L_7) hm.1.2.1 ⟨by show 20 + 1 ≤ _; omega, by show 8 + (3 + 11) + 64 * 20 ≤ _; omega⟩, hts _ hm.2.1, hts _ hm.2.2.1⟩ ⟨PreH.blind, va_recv hK hRs.1 hcl0 (wd_get sh_0), fun U hU hWm => ⟨rfl, PreR.at C hRs U hU hWm, hEX.warm hWm (fun a h1 h2 => by rw [hU]; exact hR.2.1.2.1 a h1 h2)⟩⟩ rfl rfl hl.1 rfl (lv_room (Nat.le_of_ble_eq_true rfl)) dL_house_5 ⟨by rw [hc1]; decide, by rw [hc2]; decide⟩ T hT XS with ⟨v, st₀, t, T', L, h0, X', hL, e1, e2, hq, go⟩ | ⟨q, st₀, t, T', L, E, ce, h0, X', hL, e1, e2, hxc, hce, hcv, hcl, st⟩
  · exact hq.elim
  · obtain ⟨rfl, hP, hFx, f1, f2⟩ := hxc
    rw [h0] at f1 f2
    have hS : va_S (xA X) (gs G).heap T'.heap (locs ++ L) := ⟨Nat.le_trans hR.2.1.1 (by rw [e1]; exact f1), fun q h1 h2 => by rw [e1, f2 q (Nat.lt_of_lt_of_le h1 hR.2.1.1) h2]; exact hR.2.1.2.1 q h1 h2, fun q hq => by
      rcases List.mem_append.mp hq with z | z
      · exact hR.2.1.2.2 q z
      · exact hL q z⟩
    have hR2 : Rl X (cbs false g h) G T'.heap (locs ++ L) := ⟨by rw [e1]; exact hP, hS, hFx⟩
    have kk : V X G RL cL_house 5 (some .int) 22 1 6 (MQ (gb G) (Post X false h (some (.int 1)) g) (ga G) (gs G) 1 6 (xA X)) false h 13 [(0, .ref (xa X 0)), (1, .int x1), (2, .int x2), (3, .ref (xa X 273))] [.ref q] g := by
      refine V.astore [(4, _), (0, _), (1, _), (2, _), (3, _)] dL_house_13 (by decide) rfl ?_
      refine V.iconst (v := 1) dL_house_15 rfl ?_
      exact V.iretG dL_house_16
    obtain ⟨t2, a1, b1⟩ := vx_catch (own := RL) (name := NSE) (E := NSE) hown [] _ [] (by rw [htab]; rfl) (fun z hz => by cases hz) (by decide) (by decide) (hts _ nse_linkL) (hEX.2.2.use rfl) (by rw [e1]; exact hce) hcv hcl (pc := 5) (ls := ls) (rest := [.int 0, .ref (xa X 273)]) (kk C T'.heap (locs ++ L) ls hR2 hl) T' rfl X'
    exact ⟨t2, st.trans a1, b1⟩
end HS
