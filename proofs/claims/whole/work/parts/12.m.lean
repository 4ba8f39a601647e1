/-! MonsterCot$Bed.begin -/
theorem dX0_begin_0 : decode cX0_begin 0 = .ok (.iconst 0, 1) := by decide +kernel
theorem dX0_begin_1 : decode cX0_begin 1 = .ok (.istore_n 2, 1) := by decide +kernel
theorem dX0_begin_2 : decode cX0_begin 2 = .ok (.iload_n 2, 1) := by decide +kernel
theorem dX0_begin_3 : decode cX0_begin 3 = .ok (.bipush 6, 2) := by decide +kernel
theorem dX0_begin_5 : decode cX0_begin 5 = .ok (.if_icmp .ge 22, 3) := by decide +kernel
theorem dX0_begin_8 : decode cX0_begin 8 = .ok (.aload_n 0, 1) := by decide +kernel
theorem dX0_begin_9 : decode cX0_begin 9 = .ok (.getfield 18, 3) := by decide +kernel
theorem dX0_begin_12 : decode cX0_begin 12 = .ok (.iload_n 2, 1) := by decide +kernel
theorem dX0_begin_13 : decode cX0_begin 13 = .ok (.aload_n 1, 1) := by decide +kernel
theorem dX0_begin_14 : decode cX0_begin 14 = .ok (.iload_n 2, 1) := by decide +kernel
theorem dX0_begin_15 : decode cX0_begin 15 = .ok (.invokevirtual 24, 3) := by decide +kernel
theorem dX0_begin_18 : decode cX0_begin 18 = .ok (.invokestatic 30, 3) := by decide +kernel
theorem dX0_begin_21 : decode cX0_begin 21 = .ok (.iinc 2 1, 3) := by decide +kernel
theorem dX0_begin_24 : decode cX0_begin 24 = .ok (.goto (-22), 3) := by decide +kernel
theorem dX0_begin_27 : decode cX0_begin 27 = .ok (.aload_n 0, 1) := by decide +kernel
theorem dX0_begin_28 : decode cX0_begin 28 = .ok (.getfield 15, 3) := by decide +kernel
theorem dX0_begin_31 : decode cX0_begin 31 = .ok (.iconst 0, 1) := by decide +kernel
theorem dX0_begin_32 : decode cX0_begin 32 = .ok (.invokestatic 34, 3) := by decide +kernel
theorem dX0_begin_35 : decode cX0_begin 35 = .ok (.aload_n 0, 1) := by decide +kernel
theorem dX0_begin_36 : decode cX0_begin 36 = .ok (.getfield 21, 3) := by decide +kernel
theorem dX0_begin_39 : decode cX0_begin 39 = .ok (.iconst 0, 1) := by decide +kernel
theorem dX0_begin_40 : decode cX0_begin 40 = .ok (.invokestatic 34, 3) := by decide +kernel
theorem dX0_begin_43 : decode cX0_begin 43 = .ok (.aload_n 0, 1) := by decide +kernel
theorem dX0_begin_44 : decode cX0_begin 44 = .ok (.getfield 9, 3) := by decide +kernel
theorem dX0_begin_47 : decode cX0_begin 47 = .ok (.iconst 0, 1) := by decide +kernel
theorem dX0_begin_48 : decode cX0_begin 48 = .ok (.invokestatic 34, 3) := by decide +kernel
theorem dX0_begin_51 : decode cX0_begin 51 = .ok (.aload_n 0, 1) := by decide +kernel
theorem dX0_begin_52 : decode cX0_begin 52 = .ok (.aload_n 1, 1) := by decide +kernel
theorem dX0_begin_53 : decode cX0_begin 53 = .ok (.invokevirtual 40, 3) := by decide +kernel
theorem dX0_begin_56 : decode cX0_begin 56 = .ok (.putfield 44, 3) := by decide +kernel
theorem dX0_begin_59 : decode cX0_begin 59 = .ok (.aload_n 0, 1) := by decide +kernel
theorem dX0_begin_60 : decode cX0_begin 60 = .ok (.iconst 0, 1) := by decide +kernel
theorem dX0_begin_61 : decode cX0_begin 61 = .ok (.putfield 48, 3) := by decide +kernel
theorem dX0_begin_64 : decode cX0_begin 64 = .ok (.aload_n 0, 1) := by decide +kernel
theorem dX0_begin_65 : decode cX0_begin 65 = .ok (.iconst 0, 1) := by decide +kernel
theorem dX0_begin_66 : decode cX0_begin 66 = .ok (.putfield 51, 3) := by decide +kernel
theorem dX0_begin_69 : decode cX0_begin 69 = .ok (.aload_n 0, 1) := by decide +kernel
theorem dX0_begin_70 : decode cX0_begin 70 = .ok (.iconst 0, 1) := by decide +kernel
theorem dX0_begin_71 : decode cX0_begin 71 = .ok (.putfield 54, 3) := by decide +kernel
theorem dX0_begin_74 : decode cX0_begin 74 = .ok (.aload_n 0, 1) := by decide +kernel
theorem dX0_begin_75 : decode cX0_begin 75 = .ok (.iconst 0, 1) := by decide +kernel
theorem dX0_begin_76 : decode cX0_begin 76 = .ok (.putfield 57, 3) := by decide +kernel
theorem dX0_begin_79 : decode cX0_begin 79 = .ok (.aload_n 0, 1) := by decide +kernel
theorem dX0_begin_80 : decode cX0_begin 80 = .ok (.iconst 0, 1) := by decide +kernel
theorem dX0_begin_81 : decode cX0_begin 81 = .ok (.putfield 60, 3) := by decide +kernel
theorem dX0_begin_84 : decode cX0_begin 84 = .ok (.aload_n 0, 1) := by decide +kernel
theorem dX0_begin_85 : decode cX0_begin 85 = .ok (.invokevirtual 63, 3) := by decide +kernel
theorem dX0_begin_88 : decode cX0_begin 88 = .ok (.return_, 1) := by decide +kernel
def X0_begin_2 (n : Nat) (a0 : Nat) (a1 : Nat) : Nat → Int32 → Mm → Option (Unit × Mm)
  | 0, _, _ => none
  | f + 1, x2, h => (if (6 : Int32) ≤ x2 then (bd (J7_fill_53178 n (a0 + 2) (0 : Int32) h) (fun _ h41 => (bd (J7_fill_53178 n (a0 + 4) (0 : Int32) h41) (fun _ h44 => (bd (J7_fill_53178 n (a0 + 1) (0 : Int32) h44) (fun _ h47 => (bp (X1_calmAtFirst a1 h47) (fun r48 => (bd (X0_forgetEvening a0 (wI (wI (wI (wI (wI (wI h47 a0 4 r48) a0 5 (0 : Int32)) a0 6 (0 : Int32)) a0 7 (0 : Int32)) a0 8 (0 : Int32)) a0 10 (0 : Int32))) (fun _ h52 => (some ((), h52)))))))))))) else (bp (X1_firstVoiceOf a1 x2 h) (fun r53 => (bd (X11_put (a0 + 3) x2 r53 h) (fun _ h57 => ((X0_begin_2 n a0 a1 f) (x2 + (1)) h57))))))
set_option maxRecDepth 100000 in
set_option maxHeartbeats 4000000 in
theorem v_X0_begin_2 {X : WX} {G : GX} {o : Mm} {n : Nat} {a0 : Nat} {a1 : Nat} {rv : Unit} {hz : Mm} (ha0 : isBed a0) (ha1 : isLd a1) : ∀ (f : Nat) (x2 : Int32) (h : Mm), X0_begin_2 n a0 a1 f x2 h = some (rv, hz) → V X G RX0 cX0_begin 3 (none) 4 0 0 (QR X G true o none hz) true o 2 [(0, .ref (xa X a0)), (1, .ref (xa X a1)), (2, .int x2)] [] h := by
  intro f
  induction f with
  | zero => intro x2 h hF; exact nomatch (show (none : Option (Unit × Mm)) = some (rv, hz) from hF)
  | succ f ih =>
    intro x2 h hF
    unfold X0_begin_2 at hF
    refine V.iload_n 2 dX0_begin_2 rfl rfl ?_
    refine V.bipush (v := 6) dX0_begin_3 (by decide) ?_
    refine V.icmp_ge (tgt := 27) dX0_begin_5 rfl (fun c => ?_) (fun c => ?_)
    · replace hF := ip c hF
      refine V.aload_n 0 dX0_begin_27 rfl rfl ?_
      refine V.getR (v := a0 + 2) fl_X0_15 ha0.sh rfl ha0.fx1 (by have := ha0.lt; omega) dX0_begin_28 ?_
      refine V.iconst (v := 0) dX0_begin_31 rfl ?_
      obtain ⟨r39, h41, hc40, hF⟩ := bd_s hF
      refine V.callSv mf_J7_fill_53178 ml_X0_34 (s_J7_fill_53178 ha0.a1 hc40) (by decide) rfl rfl (Nat.le_of_ble_eq_true rfl) dX0_begin_32 ?_
      refine V.aload_n 0 dX0_begin_35 rfl rfl ?_
      refine V.getR (v := a0 + 4) fl_X0_21 ha0.sh rfl ha0.fx3 (by have := ha0.lt; omega) dX0_begin_36 ?_
      refine V.iconst (v := 0) dX0_begin_39 rfl ?_
      obtain ⟨r42, h44, hc43, hF⟩ := bd_s hF
      refine V.callSv mf_J7_fill_53178 ml_X0_34 (s_J7_fill_53178 ha0.a3 hc43) (by decide) rfl rfl (Nat.le_of_ble_eq_true rfl) dX0_begin_40 ?_
      refine V.aload_n 0 dX0_begin_43 rfl rfl ?_
      refine V.getR (v := a0 + 1) fl_X0_9 ha0.sh rfl ha0.fx0 (by have := ha0.lt; omega) dX0_begin_44 ?_
      refine V.iconst (v := 0) dX0_begin_47 rfl ?_
      obtain ⟨r45, h47, hc46, hF⟩ := bd_s hF
      refine V.callSv mf_J7_fill_53178 ml_X0_34 (s_J7_fill_53178 ha0.a0 hc46) (by decide) rfl rfl (Nat.le_of_ble_eq_true rfl) dX0_begin_48 ?_
      refine V.aload_n 0 dX0_begin_51 rfl rfl ?_
      refine V.aload_n 1 dX0_begin_52 rfl rfl ?_
      obtain ⟨r48, hc49, hF⟩ := bp_s hF
      refine V.callVi mf_X1_calmAtFirst ml_X0_40 ha1.sh (s_X1_calmAtFirst ha1 hc49) (by decide) rfl rfl (Nat.le_of_ble_eq_true rfl) dX0_begin_53 ?_
      refine V.putI fl_X0_44 rfl (tyX0_ok 4 (by decide)) rfl rfl ha0.sh rfl ha0.km dX0_begin_56 ?_
      refine V.aload_n 0 dX0_begin_59 rfl rfl ?_
      refine V.iconst (v := 0) dX0_begin_60 rfl ?_
      refine V.putI fl_X0_48 rfl (tyX0_ok 5 (by decide)) rfl rfl ha0.sh rfl ha0.km dX0_begin_61 ?_
      refine V.aload_n 0 dX0_begin_64 rfl rfl ?_
      refine V.iconst (v := 0) dX0_begin_65 rfl ?_
      refine V.putI fl_X0_51 rfl (tyX0_ok 6 (by decide)) rfl rfl ha0.sh rfl ha0.km dX0_begin_66 ?_
      refine V.aload_n 0 dX0_begin_69 rfl rfl ?_
      refine V.iconst (v := 0) dX0_begin_70 rfl ?_
      refine V.putI fl_X0_54 rfl (tyX0_ok 7 (by decide)) rfl rfl ha0.sh rfl ha0.km dX0_begin_71 ?_
      refine V.aload_n 0 dX0_begin_74 rfl rfl ?_
      refine V.iconst (v := 0) dX0_begin_75 rfl ?_
      refine V.putI fl_X0_57 rfl (tyX0_ok 8 (by decide)) rfl rfl ha0.sh rfl ha0.km dX0_begin_76 ?_
      refine V.aload_n 0 dX0_begin_79 rfl rfl ?_
      refine V.iconst (v := 0) dX0_begin_80 rfl ?_
      refine V.putI fl_X0_60 rfl (tyX0_ok 10 (by decide)) rfl rfl ha0.sh rfl ha0.km dX0_begin_81 ?_
      refine V.aload_n 0 dX0_begin_84 rfl rfl ?_
      obtain ⟨r50, h52, hc51, hF⟩ := bd_s hF
      refine V.callVv mf_X0_forgetEvening ml_X0_63 ha0.sh (s_X0_forgetEvening ha0 hc51) (by decide) rfl rfl (Nat.le_of_ble_eq_true rfl) dX0_begin_85 ?_
      cases hF
      exact V.vret dX0_begin_88
    · replace hF := iq c hF
      refine V.aload_n 0 dX0_begin_8 rfl rfl ?_
      refine V.getR (v := a0 + 3) fl_X0_18 ha0.sh rfl ha0.fx2 (by have := ha0.lt; omega) dX0_begin_9 ?_
      refine V.iload_n 2 dX0_begin_12 rfl rfl ?_
      refine V.aload_n 1 dX0_begin_13 rfl rfl ?_
      refine V.iload_n 2 dX0_begin_14 rfl rfl ?_
      obtain ⟨r53, hc54, hF⟩ := bp_s hF
      refine V.callVi mf_X1_firstVoiceOf ml_X0_24 ha1.sh (s_X1_firstVoiceOf ha1 hc54) (by decide) rfl rfl (Nat.le_of_ble_eq_true rfl) dX0_begin_15 ?_
      obtain ⟨r55, h57, hc56, hF⟩ := bd_s hF
      refine V.callNv mf_X11_put ml_X0_30 (s_X11_put ha0.a2 hc56) (by decide) rfl rfl (Nat.le_of_ble_eq_true rfl) dX0_begin_18 ?_
      refine V.iinc (v := (x2 + (1))) 2 [(2, _), (0, _), (1, _)] dX0_begin_21 rfl rfl (by decide) rfl ?_
      refine V.goto (tgt := 2) dX0_begin_24 rfl ?_
      exact V.sub [1, 2, 0] rfl (ih _ _ hF)
def X0_begin (n : Nat) (a0 : Nat) (a1 : Nat) (h : Mm) : Option (Unit × Mm) := (X0_begin_2 n a0 a1 n (0 : Int32) h)
set_option maxRecDepth 100000 in
set_option maxHeartbeats 4000000 in
theorem s_X0_begin {X : WX} {o : Mm} {n : Nat} {a0 : Nat} {a1 : Nat} {rv : Unit} {hz : Mm} {h : Mm} (ha0 : isBed a0) (ha1 : isLd a1) (hF : X0_begin n a0 a1 h = some (rv, hz)) : Sat X yX0_begin cX0_begin 3 (none) 4 [.ref (xa X a0), .ref (xa X a1)] true o h none hz := by
  unfold X0_begin at hF
  refine Sat.mk (own := RX0) rfl (by decide +kernel) (Nat.le_of_ble_eq_true rfl) (fun G => ?_)
  refine V.sub (lv2 := [(0, _), (1, _)]) [0, 1] rfl ?_
  refine V.iconst (v := 0) dX0_begin_0 rfl ?_
  refine V.istore_n [(2, _), (0, _), (1, _)] dX0_begin_1 rfl (by decide) rfl ?_
  exact V.sub [1, 2, 0] rfl (v_X0_begin_2 ha0 ha1 n _ _ hF)
/-! MonsterCot$Past.forget -/
theorem dX5_forget_0 : decode cX5_forget 0 = .ok (.aload_n 0, 1) := by decide +kernel
theorem dX5_forget_1 : decode cX5_forget 1 = .ok (.iconst 0, 1) := by decide +kernel
theorem dX5_forget_2 : decode cX5_forget 2 = .ok (.putfield 29, 3) := by decide +kernel
theorem dX5_forget_5 : decode cX5_forget 5 = .ok (.aload_n 0, 1) := by decide +kernel
theorem dX5_forget_6 : decode cX5_forget 6 = .ok (.iconst 0, 1) := by decide +kernel
theorem dX5_forget_7 : decode cX5_forget 7 = .ok (.putfield 33, 3) := by decide +kernel
theorem dX5_forget_10 : decode cX5_forget 10 = .ok (.return_, 1) := by decide +kernel
def X5_forget (h : Mm) : Option (Unit × Mm) := (some ((), (wI (wI h 37 5 (0 : Int32)) 37 4 (0 : Int32))))
set_option maxRecDepth 100000 in
set_option maxHeartbeats 4000000 in
theorem s_X5_forget {X : WX} {o : Mm} {rv : Unit} {hz : Mm} {h : Mm} (hF : X5_forget h = some (rv, hz)) : Sat X yX5_forget cX5_forget 1 (none) 1 [.ref (xa X 37)] true o h none hz := by
  unfold X5_forget at hF
  refine Sat.mk (own := RX5) rfl (by decide +kernel) (Nat.le_of_ble_eq_true rfl) (fun G => ?_)
  refine V.sub (lv2 := [(0, _)]) [0] rfl ?_
  refine V.aload_n 0 dX5_forget_0 rfl rfl ?_
  refine V.iconst (v := 0) dX5_forget_1 rfl ?_
  refine V.putI fl_X5_29 rfl (tyX5_ok 5 (by decide)) rfl rfl sh_37 rfl km_37 dX5_forget_2 ?_
  refine V.aload_n 0 dX5_forget_5 rfl rfl ?_
  refine V.iconst (v := 0) dX5_forget_6 rfl ?_
  refine V.putI fl_X5_33 rfl (tyX5_ok 4 (by decide)) rfl rfl sh_37 rfl km_37 dX5_forget_7 ?_
  cases hF
  exact V.vret dX5_forget_10
/-! MonsterCot.moveIn -/
theorem dX11_moveIn_0 : decode cX11_moveIn 0 = .ok (.aload_n 0, 1) := by decide +kernel
theorem dX11_moveIn_1 : decode cX11_moveIn 1 = .ok (.getfield 42, 3) := by decide +kernel
theorem dX11_moveIn_4 : decode cX11_moveIn 4 = .ok (.aload_n 0, 1) := by decide +kernel
theorem dX11_moveIn_5 : decode cX11_moveIn 5 = .ok (.getfield 21, 3) := by decide +kernel
theorem dX11_moveIn_8 : decode cX11_moveIn 8 = .ok (.getfield 411, 3) := by decide +kernel
theorem dX11_moveIn_11 : decode cX11_moveIn 11 = .ok (.invokevirtual 414, 3) := by decide +kernel
theorem dX11_moveIn_14 : decode cX11_moveIn 14 = .ok (.aload_n 0, 1) := by decide +kernel
theorem dX11_moveIn_15 : decode cX11_moveIn 15 = .ok (.getfield 65, 3) := by decide +kernel
theorem dX11_moveIn_18 : decode cX11_moveIn 18 = .ok (.aload_n 0, 1) := by decide +kernel
theorem dX11_moveIn_19 : decode cX11_moveIn 19 = .ok (.getfield 42, 3) := by decide +kernel
theorem dX11_moveIn_22 : decode cX11_moveIn 22 = .ok (.invokevirtual 417, 3) := by decide +kernel
theorem dX11_moveIn_25 : decode cX11_moveIn 25 = .ok (.aload_n 0, 1) := by decide +kernel
theorem dX11_moveIn_26 : decode cX11_moveIn 26 = .ok (.getfield 75, 3) := by decide +kernel
theorem dX11_moveIn_29 : decode cX11_moveIn 29 = .ok (.invokevirtual 420, 3) := by decide +kernel
theorem dX11_moveIn_32 : decode cX11_moveIn 32 = .ok (.aload_n 0, 1) := by decide +kernel
theorem dX11_moveIn_33 : decode cX11_moveIn 33 = .ok (.getfield 91, 3) := by decide +kernel
theorem dX11_moveIn_36 : decode cX11_moveIn 36 = .ok (.iconst 0, 1) := by decide +kernel
theorem dX11_moveIn_37 : decode cX11_moveIn 37 = .ok (.putfield 320, 3) := by decide +kernel
theorem dX11_moveIn_40 : decode cX11_moveIn 40 = .ok (.aload_n 0, 1) := by decide +kernel
theorem dX11_moveIn_41 : decode cX11_moveIn 41 = .ok (.getfield 42, 3) := by decide +kernel
theorem dX11_moveIn_44 : decode cX11_moveIn 44 = .ok (.invokevirtual 379, 3) := by decide +kernel
theorem dX11_moveIn_47 : decode cX11_moveIn 47 = .ok (.ireturn, 1) := by decide +kernel
def X11_moveIn (n : Nat) (h : Mm) : Option (Int32 × Mm) := (bd (X1_copyFrom 13 4 h) (fun _ h14 => (bd (X0_begin n 27 13 h14) (fun _ h17 => (bd (X5_forget h17) (fun _ h20 => (bp (X1_houses 13 (wI h20 249 4 (0 : Int32))) (fun r21 => (some (r21, (wI h20 249 4 (0 : Int32))))))))))))
set_option maxRecDepth 100000 in
set_option maxHeartbeats 4000000 in
theorem s_X11_moveIn {X : WX} {o : Mm} {n : Nat} {rv : Int32} {hz : Mm} {h : Mm} (hF : X11_moveIn n h = some (rv, hz)) : Sat X yX11_moveIn cX11_moveIn 1 (some .int) 5 [.ref (xa X 0)] true o h (some (.int rv)) hz := by
  unfold X11_moveIn at hF
  refine Sat.mk (own := RX11) rfl (by decide +kernel) (Nat.le_of_ble_eq_true rfl) (fun G => ?_)
  refine V.sub (lv2 := [(0, _)]) [0] rfl ?_
  refine V.aload_n 0 dX11_moveIn_0 rfl rfl ?_
  refine V.getR (v := 13) fl_X11_42 sh_0 rfl fx_0_4 (by decide) dX11_moveIn_1 ?_
  refine V.aload_n 0 dX11_moveIn_4 rfl rfl ?_
  refine V.getR (v := 3) fl_X11_21 sh_0 rfl fx_0_1 (by decide) dX11_moveIn_5 ?_
  refine V.getR (v := 4) fl_X11_411 sh_3 rfl fx_3_1 (by decide) dX11_moveIn_8 ?_
  obtain ⟨r12, h14, hc13, hF⟩ := bd_s hF
  refine V.callVv mf_X1_copyFrom ml_X11_414 sh_13 (s_X1_copyFrom (Or.inr rfl) (Or.inl rfl) hc13) (by decide) rfl rfl (Nat.le_of_ble_eq_true rfl) dX11_moveIn_11 ?_
  refine V.aload_n 0 dX11_moveIn_14 rfl rfl ?_
  refine V.getR (v := 27) fl_X11_65 sh_0 rfl fx_0_7 (by decide) dX11_moveIn_15 ?_
  refine V.aload_n 0 dX11_moveIn_18 rfl rfl ?_
  refine V.getR (v := 13) fl_X11_42 sh_0 rfl fx_0_4 (by decide) dX11_moveIn_19 ?_
  obtain ⟨r15, h17, hc16, hF⟩ := bd_s hF
  refine V.callVv mf_X0_begin ml_X11_417 sh_27 (s_X0_begin isb_27 (Or.inr rfl) hc16) (by decide) rfl rfl (Nat.le_of_ble_eq_true rfl) dX11_moveIn_22 ?_
  refine V.aload_n 0 dX11_moveIn_25 rfl rfl ?_
  refine V.getR (v := 37) fl_X11_75 sh_0 rfl fx_0_9 (by decide) dX11_moveIn_26 ?_
  obtain ⟨r18, h20, hc19, hF⟩ := bd_s hF
  refine V.callVv mf_X5_forget ml_X11_420 sh_37 (s_X5_forget hc19) (by decide) rfl rfl (Nat.le_of_ble_eq_true rfl) dX11_moveIn_29 ?_
  refine V.aload_n 0 dX11_moveIn_32 rfl rfl ?_
  refine V.getR (v := 249) fl_X11_91 sh_0 rfl fx_0_11 (by decide) dX11_moveIn_33 ?_
  refine V.iconst (v := 0) dX11_moveIn_36 rfl ?_
  refine V.putI fl_X11_320 rfl (tyX8_ok 4 (by decide)) rfl rfl sh_249 rfl km_249 dX11_moveIn_37 ?_
  refine V.aload_n 0 dX11_moveIn_40 rfl rfl ?_
  refine V.getR (v := 13) fl_X11_42 sh_0 rfl fx_0_4 (by decide) dX11_moveIn_41 ?_
  obtain ⟨r21, hc22, hF⟩ := bp_s hF
  refine V.callVi mf_X1_houses ml_X11_379 sh_13 (s_X1_houses (Or.inr rfl) hc22) (by decide) rfl rfl (Nat.le_of_ble_eq_true rfl) dX11_moveIn_44 ?_
  cases hF
  exact V.iret dX11_moveIn_47
/-! MonsterCot$Laws.keep -/
theorem dX4_keep_0 : decode cX4_keep 0 = .ok (.aload_n 0, 1) := by decide +kernel
theorem dX4_keep_1 : decode cX4_keep 1 = .ok (.getfield 34, 3) := by decide +kernel
theorem dX4_keep_4 : decode cX4_keep 4 = .ok (.ifCond .lt 23, 3) := by decide +kernel
theorem dX4_keep_7 : decode cX4_keep 7 = .ok (.aload_n 0, 1) := by decide +kernel
theorem dX4_keep_8 : decode cX4_keep 8 = .ok (.getfield 34, 3) := by decide +kernel
theorem dX4_keep_11 : decode cX4_keep 11 = .ok (.iconst 4, 1) := by decide +kernel
theorem dX4_keep_12 : decode cX4_keep 12 = .ok (.if_icmp .ge 15, 3) := by decide +kernel
theorem dX4_keep_15 : decode cX4_keep 15 = .ok (.aload_n 0, 1) := by decide +kernel
theorem dX4_keep_16 : decode cX4_keep 16 = .ok (.getfield 34, 3) := by decide +kernel
theorem dX4_keep_19 : decode cX4_keep 19 = .ok (.aload_n 0, 1) := by decide +kernel
theorem dX4_keep_20 : decode cX4_keep 20 = .ok (.getfield 13, 3) := by decide +kernel
theorem dX4_keep_23 : decode cX4_keep 23 = .ok (.arraylength, 1) := by decide +kernel
theorem dX4_keep_24 : decode cX4_keep 24 = .ok (.if_icmp .lt 5, 3) := by decide +kernel
theorem dX4_keep_27 : decode cX4_keep 27 = .ok (.iconst (-1), 1) := by decide +kernel
theorem dX4_keep_28 : decode cX4_keep 28 = .ok (.ireturn, 1) := by decide +kernel
theorem dX4_keep_29 : decode cX4_keep 29 = .ok (.aload_n 1, 1) := by decide +kernel
theorem dX4_keep_30 : decode cX4_keep 30 = .ok (.getfield 37, 3) := by decide +kernel
theorem dX4_keep_33 : decode cX4_keep 33 = .ok (.aload_n 0, 1) := by decide +kernel
theorem dX4_keep_34 : decode cX4_keep 34 = .ok (.getfield 13, 3) := by decide +kernel
theorem dX4_keep_37 : decode cX4_keep 37 = .ok (.aload_n 0, 1) := by decide +kernel
theorem dX4_keep_38 : decode cX4_keep 38 = .ok (.getfield 34, 3) := by decide +kernel
theorem dX4_keep_41 : decode cX4_keep 41 = .ok (.aaload, 1) := by decide +kernel
theorem dX4_keep_42 : decode cX4_keep 42 = .ok (.invokestatic 41, 3) := by decide +kernel
theorem dX4_keep_45 : decode cX4_keep 45 = .ok (.aload_n 0, 1) := by decide +kernel
theorem dX4_keep_46 : decode cX4_keep 46 = .ok (.getfield 16, 3) := by decide +kernel
theorem dX4_keep_49 : decode cX4_keep 49 = .ok (.aload_n 0, 1) := by decide +kernel
theorem dX4_keep_50 : decode cX4_keep 50 = .ok (.getfield 34, 3) := by decide +kernel
theorem dX4_keep_53 : decode cX4_keep 53 = .ok (.aload_n 1, 1) := by decide +kernel
theorem dX4_keep_54 : decode cX4_keep 54 = .ok (.getfield 45, 3) := by decide +kernel
theorem dX4_keep_57 : decode cX4_keep 57 = .ok (.invokestatic 46, 3) := by decide +kernel
theorem dX4_keep_60 : decode cX4_keep 60 = .ok (.aload_n 0, 1) := by decide +kernel
theorem dX4_keep_61 : decode cX4_keep 61 = .ok (.dup, 1) := by decide +kernel
theorem dX4_keep_62 : decode cX4_keep 62 = .ok (.getfield 34, 3) := by decide +kernel
theorem dX4_keep_65 : decode cX4_keep 65 = .ok (.iconst 1, 1) := by decide +kernel
theorem dX4_keep_66 : decode cX4_keep 66 = .ok (.iadd, 1) := by decide +kernel
theorem dX4_keep_67 : decode cX4_keep 67 = .ok (.putfield 34, 3) := by decide +kernel
theorem dX4_keep_70 : decode cX4_keep 70 = .ok (.aload_n 0, 1) := by decide +kernel
theorem dX4_keep_71 : decode cX4_keep 71 = .ok (.getfield 34, 3) := by decide +kernel
theorem dX4_keep_74 : decode cX4_keep 74 = .ok (.iconst 1, 1) := by decide +kernel
theorem dX4_keep_75 : decode cX4_keep 75 = .ok (.isub, 1) := by decide +kernel
theorem dX4_keep_76 : decode cX4_keep 76 = .ok (.ireturn, 1) := by decide +kernel
def X4_keep (h : Mm) : Option (Int32 × Mm) := (if (h.1 16 5) < 0 then (some ((-1 : Int32), h)) else (if (4 : Int32) ≤ (h.1 16 5) then (some ((-1 : Int32), h)) else (if (h.1 16 5) < (4 : Int32) then (if inB (h.1 16 5) 4 then (bd (X11_copy 8 (18 + (h.1 16 5).toNatClampNeg) h) (fun _ h11 => (bd (X11_put 22 (h11.1 16 5) (h11.1 7 2) h11) (fun _ h14 => (some ((((wI h14 16 5 ((h14.1 16 5) + (1 : Int32))).1 16 5) - (1 : Int32)), (wI h14 16 5 ((h14.1 16 5) + (1 : Int32))))))))) else none) else (some ((-1 : Int32), h)))))
set_option maxRecDepth 100000 in
set_option maxHeartbeats 4000000 in
theorem s_X4_keep {X : WX} {o : Mm} {rv : Int32} {hz : Mm} {h : Mm} (hF : X4_keep h = some (rv, hz)) : Sat X yX4_keep cX4_keep 2 (some .int) 3 [.ref (xa X 16), .ref (xa X 7)] true o h (some (.int rv)) hz := by
  unfold X4_keep at hF
  refine Sat.mk (own := RX4) rfl (by decide +kernel) (Nat.le_of_ble_eq_true rfl) (fun G => ?_)
  refine V.sub (lv2 := [(0, _), (1, _)]) [0, 1] rfl ?_
  refine V.aload_n 0 dX4_keep_0 rfl rfl ?_
  refine V.getI fl_X4_34 sh_16 rfl km_16 dX4_keep_1 ?_
  refine V.if_lt (tgt := 27) dX4_keep_4 rfl (fun c => ?_) (fun c => ?_)
  · replace hF := ip c hF
    refine V.iconst (v := -1) dX4_keep_27 rfl ?_
    cases hF
    exact V.iret dX4_keep_28
  · replace hF := iq c hF
    refine V.aload_n 0 dX4_keep_7 rfl rfl ?_
    refine V.getI fl_X4_34 sh_16 rfl km_16 dX4_keep_8 ?_
    refine V.iconst (v := 4) dX4_keep_11 rfl ?_
    refine V.icmp_ge (tgt := 27) dX4_keep_12 rfl (fun c => ?_) (fun c => ?_)
    · replace hF := ip c hF
      refine V.iconst (v := -1) dX4_keep_27 rfl ?_
      cases hF
      exact V.iret dX4_keep_28
    · replace hF := iq c hF
      refine V.aload_n 0 dX4_keep_15 rfl rfl ?_
      refine V.getI fl_X4_34 sh_16 rfl km_16 dX4_keep_16 ?_
      refine V.aload_n 0 dX4_keep_19 rfl rfl ?_
      refine V.getR (v := 17) fl_X4_13 sh_16 rfl fx_16_0 (by decide) dX4_keep_20 ?_
      refine V.alen (v := 4) sh_17 (by decide) rfl dX4_keep_23 ?_
      refine V.icmp_lt (tgt := 29) dX4_keep_24 rfl (fun c => ?_) (fun c => ?_)
      · replace hF := ip c hF
        refine V.aload_n 1 dX4_keep_29 rfl rfl ?_
        refine V.getR (v := 8) fl_X4_37 sh_7 rfl fx_7_1 (by decide) dX4_keep_30 ?_
        refine V.aload_n 0 dX4_keep_33 rfl rfl ?_
        refine V.getR (v := 17) fl_X4_13 sh_16 rfl fx_16_0 (by decide) dX4_keep_34 ?_
        refine V.aload_n 0 dX4_keep_37 rfl rfl ?_
        refine V.getI fl_X4_34 sh_16 rfl km_16 dX4_keep_38 ?_
        obtain ⟨hk, hF⟩ := ck hF
        have hx8 := hk.lt
        refine V.aald (v := (18 + (h.1 16 5).toNatClampNeg)) sh_17 (Or.inr rfl) hk (rows_fx hx8) (by omega) dX4_keep_41 ?_
        obtain ⟨r9, h11, hc10, hF⟩ := bd_s hF
        refine V.callNv mf_X11_copy ml_X4_41 (s_X11_copy io_8 (rows_io hx8) hc10) (by decide) rfl rfl (Nat.le_of_ble_eq_true rfl) dX4_keep_42 ?_
        refine V.aload_n 0 dX4_keep_45 rfl rfl ?_
        refine V.getR (v := 22) fl_X4_16 sh_16 rfl fx_16_1 (by decide) dX4_keep_46 ?_
        refine V.aload_n 0 dX4_keep_49 rfl rfl ?_
        refine V.getI fl_X4_34 sh_16 rfl km_16 dX4_keep_50 ?_
        refine V.aload_n 1 dX4_keep_53 rfl rfl ?_
        refine V.getI fl_X4_45 sh_7 rfl km_7 dX4_keep_54 ?_
        obtain ⟨r12, h14, hc13, hF⟩ := bd_s hF
        refine V.callNv mf_X11_put ml_X4_46 (s_X11_put io_22 hc13) (by decide) rfl rfl (Nat.le_of_ble_eq_true rfl) dX4_keep_57 ?_
        refine V.aload_n 0 dX4_keep_60 rfl rfl ?_
        refine V.dup dX4_keep_61 rfl ?_
        refine V.getI fl_X4_34 sh_16 rfl km_16 dX4_keep_62 ?_
        refine V.iconst (v := 1) dX4_keep_65 rfl ?_
        refine V.iadd dX4_keep_66 ?_
        refine V.putI fl_X4_34 rfl (tyX4_ok 5 (by decide)) rfl rfl sh_16 rfl km_16 dX4_keep_67 ?_
        refine V.aload_n 0 dX4_keep_70 rfl rfl ?_
        refine V.getI fl_X4_34 sh_16 rfl km_16 dX4_keep_71 ?_
        refine V.iconst (v := 1) dX4_keep_74 rfl ?_
        refine V.isub dX4_keep_75 ?_
        cases hF
        exact V.iret dX4_keep_76
      · replace hF := iq c hF
        refine V.iconst (v := -1) dX4_keep_27 rfl ?_
        cases hF
        exact V.iret dX4_keep_28
/-! MonsterCot$Weeks.keepDraft -/
theorem dX10_keepDraft_0 : decode cX10_keepDraft 0 = .ok (.aload_n 0, 1) := by decide +kernel
theorem dX10_keepDraft_1 : decode cX10_keepDraft 1 = .ok (.getfield 67, 3) := by decide +kernel
theorem dX10_keepDraft_4 : decode cX10_keepDraft 4 = .ok (.ifCond .lt 11, 3) := by decide +kernel
theorem dX10_keepDraft_7 : decode cX10_keepDraft 7 = .ok (.aload_n 0, 1) := by decide +kernel
theorem dX10_keepDraft_8 : decode cX10_keepDraft 8 = .ok (.getfield 67, 3) := by decide +kernel
theorem dX10_keepDraft_11 : decode cX10_keepDraft 11 = .ok (.iconst 4, 1) := by decide +kernel
theorem dX10_keepDraft_12 : decode cX10_keepDraft 12 = .ok (.if_icmp .lt 5, 3) := by decide +kernel
theorem dX10_keepDraft_15 : decode cX10_keepDraft 15 = .ok (.iconst (-1), 1) := by decide +kernel
theorem dX10_keepDraft_16 : decode cX10_keepDraft 16 = .ok (.ireturn, 1) := by decide +kernel
theorem dX10_keepDraft_17 : decode cX10_keepDraft 17 = .ok (.iconst 0, 1) := by decide +kernel
theorem dX10_keepDraft_18 : decode cX10_keepDraft 18 = .ok (.istore_n 1, 1) := by decide +kernel
theorem dX10_keepDraft_19 : decode cX10_keepDraft 19 = .ok (.iload_n 1, 1) := by decide +kernel
theorem dX10_keepDraft_20 : decode cX10_keepDraft 20 = .ok (.aload_n 0, 1) := by decide +kernel
theorem dX10_keepDraft_21 : decode cX10_keepDraft 21 = .ok (.getfield 39, 3) := by decide +kernel
theorem dX10_keepDraft_24 : decode cX10_keepDraft 24 = .ok (.if_icmp .ge 33, 3) := by decide +kernel
theorem dX10_keepDraft_27 : decode cX10_keepDraft 27 = .ok (.aload_n 0, 1) := by decide +kernel
theorem dX10_keepDraft_28 : decode cX10_keepDraft 28 = .ok (.getfield 15, 3) := by decide +kernel
theorem dX10_keepDraft_31 : decode cX10_keepDraft 31 = .ok (.aload_n 0, 1) := by decide +kernel
theorem dX10_keepDraft_32 : decode cX10_keepDraft 32 = .ok (.getfield 67, 3) := by decide +kernel
theorem dX10_keepDraft_35 : decode cX10_keepDraft 35 = .ok (.bipush 16, 2) := by decide +kernel
theorem dX10_keepDraft_37 : decode cX10_keepDraft 37 = .ok (.imul, 1) := by decide +kernel
theorem dX10_keepDraft_38 : decode cX10_keepDraft 38 = .ok (.iload_n 1, 1) := by decide +kernel
theorem dX10_keepDraft_39 : decode cX10_keepDraft 39 = .ok (.iadd, 1) := by decide +kernel
theorem dX10_keepDraft_40 : decode cX10_keepDraft 40 = .ok (.aload_n 0, 1) := by decide +kernel
theorem dX10_keepDraft_41 : decode cX10_keepDraft 41 = .ok (.getfield 11, 3) := by decide +kernel
theorem dX10_keepDraft_44 : decode cX10_keepDraft 44 = .ok (.iload_n 1, 1) := by decide +kernel
theorem dX10_keepDraft_45 : decode cX10_keepDraft 45 = .ok (.invokestatic 55, 3) := by decide +kernel
theorem dX10_keepDraft_48 : decode cX10_keepDraft 48 = .ok (.invokestatic 63, 3) := by decide +kernel
theorem dX10_keepDraft_51 : decode cX10_keepDraft 51 = .ok (.iinc 1 1, 3) := by decide +kernel
theorem dX10_keepDraft_54 : decode cX10_keepDraft 54 = .ok (.goto (-35), 3) := by decide +kernel
theorem dX10_keepDraft_57 : decode cX10_keepDraft 57 = .ok (.aload_n 0, 1) := by decide +kernel
theorem dX10_keepDraft_58 : decode cX10_keepDraft 58 = .ok (.getfield 18, 3) := by decide +kernel
theorem dX10_keepDraft_61 : decode cX10_keepDraft 61 = .ok (.aload_n 0, 1) := by decide +kernel
theorem dX10_keepDraft_62 : decode cX10_keepDraft 62 = .ok (.getfield 67, 3) := by decide +kernel
theorem dX10_keepDraft_65 : decode cX10_keepDraft 65 = .ok (.aload_n 0, 1) := by decide +kernel
theorem dX10_keepDraft_66 : decode cX10_keepDraft 66 = .ok (.getfield 39, 3) := by decide +kernel
theorem dX10_keepDraft_69 : decode cX10_keepDraft 69 = .ok (.invokestatic 63, 3) := by decide +kernel
theorem dX10_keepDraft_72 : decode cX10_keepDraft 72 = .ok (.aload_n 0, 1) := by decide +kernel
theorem dX10_keepDraft_73 : decode cX10_keepDraft 73 = .ok (.dup, 1) := by decide +kernel
theorem dX10_keepDraft_74 : decode cX10_keepDraft 74 = .ok (.getfield 67, 3) := by decide +kernel
theorem dX10_keepDraft_77 : decode cX10_keepDraft 77 = .ok (.iconst 1, 1) := by decide +kernel
theorem dX10_keepDraft_78 : decode cX10_keepDraft 78 = .ok (.iadd, 1) := by decide +kernel
theorem dX10_keepDraft_79 : decode cX10_keepDraft 79 = .ok (.putfield 67, 3) := by decide +kernel
theorem dX10_keepDraft_82 : decode cX10_keepDraft 82 = .ok (.aload_n 0, 1) := by decide +kernel
theorem dX10_keepDraft_83 : decode cX10_keepDraft 83 = .ok (.getfield 67, 3) := by decide +kernel
theorem dX10_keepDraft_86 : decode cX10_keepDraft 86 = .ok (.iconst 1, 1) := by decide +kernel
theorem dX10_keepDraft_87 : decode cX10_keepDraft 87 = .ok (.isub, 1) := by decide +kernel
theorem dX10_keepDraft_88 : decode cX10_keepDraft 88 = .ok (.ireturn, 1) := by decide +kernel
def X10_keepDraft_19 (n : Nat) : Nat → Int32 → Mm → Option (Int32 × Mm)
  | 0, _, _ => none
  | f + 1, x1, h => (if (h.1 9 4) ≤ x1 then (bd (X11_put 12 (h.1 9 5) (h.1 9 4) h) (fun _ h19 => (some ((((wI h19 9 5 ((h19.1 9 5) + (1 : Int32))).1 9 5) - (1 : Int32)), (wI h19 9 5 ((h19.1 9 5) + (1 : Int32))))))) else (bp (X11_at 10 x1 h) (fun r20 => (bd (X11_put 11 (((h.1 9 5) * (16 : Int32)) + x1) r20 h) (fun _ h24 => ((X10_keepDraft_19 n f) (x1 + (1)) h24))))))
set_option maxRecDepth 100000 in
set_option maxHeartbeats 4000000 in
theorem v_X10_keepDraft_19 {X : WX} {G : GX} {o : Mm} {n : Nat} {rv : Int32} {hz : Mm} : ∀ (f : Nat) (x1 : Int32) (h : Mm), X10_keepDraft_19 n f x1 h = some (rv, hz) → V X G RX10 cX10_keepDraft 2 (some .int) 2 0 0 (QR X G true o (some (.int rv)) hz) true o 19 [(0, .ref (xa X 9)), (1, .int x1)] [] h := by
  intro f
  induction f with
  | zero => intro x1 h hF; exact nomatch (show (none : Option (Int32 × Mm)) = some (rv, hz) from hF)
  | succ f ih =>
    intro x1 h hF
    unfold X10_keepDraft_19 at hF
    refine V.iload_n 1 dX10_keepDraft_19 rfl rfl ?_
    refine V.aload_n 0 dX10_keepDraft_20 rfl rfl ?_
    refine V.getI fl_X10_39 sh_9 rfl km_9 dX10_keepDraft_21 ?_
    refine V.icmp_ge (tgt := 57) dX10_keepDraft_24 rfl (fun c => ?_) (fun c => ?_)
    · replace hF := ip c hF
      refine V.aload_n 0 dX10_keepDraft_57 rfl rfl ?_
      refine V.getR (v := 12) fl_X10_18 sh_9 rfl fx_9_3 (by decide) dX10_keepDraft_58 ?_
      refine V.aload_n 0 dX10_keepDraft_61 rfl rfl ?_
      refine V.getI fl_X10_67 sh_9 rfl km_9 dX10_keepDraft_62 ?_
      refine V.aload_n 0 dX10_keepDraft_65 rfl rfl ?_
      refine V.getI fl_X10_39 sh_9 rfl km_9 dX10_keepDraft_66 ?_
      obtain ⟨r17, h19, hc18, hF⟩ := bd_s hF
      refine V.callNv mf_X11_put ml_X10_63 (s_X11_put io_12 hc18) (by decide) rfl rfl (Nat.le_of_ble_eq_true rfl) dX10_keepDraft_69 ?_
      refine V.aload_n 0 dX10_keepDraft_72 rfl rfl ?_
      refine V.dup dX10_keepDraft_73 rfl ?_
      refine V.getI fl_X10_67 sh_9 rfl km_9 dX10_keepDraft_74 ?_
      refine V.iconst (v := 1) dX10_keepDraft_77 rfl ?_
      refine V.iadd dX10_keepDraft_78 ?_
      refine V.putI fl_X10_67 rfl (tyX10_ok 5 (by decide)) rfl rfl sh_9 rfl km_9 dX10_keepDraft_79 ?_
      refine V.aload_n 0 dX10_keepDraft_82 rfl rfl ?_
      refine V.getI fl_X10_67 sh_9 rfl km_9 dX10_keepDraft_83 ?_
      refine V.iconst (v := 1) dX10_keepDraft_86 rfl ?_
      refine V.isub dX10_keepDraft_87 ?_
      cases hF
      exact V.iret dX10_keepDraft_88
    · replace hF := iq c hF
      refine V.aload_n 0 dX10_keepDraft_27 rfl rfl ?_
      refine V.getR (v := 11) fl_X10_15 sh_9 rfl fx_9_2 (by decide) dX10_keepDraft_28 ?_
      refine V.aload_n 0 dX10_keepDraft_31 rfl rfl ?_
      refine V.getI fl_X10_67 sh_9 rfl km_9 dX10_keepDraft_32 ?_
      refine V.bipush (v := 16) dX10_keepDraft_35 (by decide) ?_
      refine V.imul dX10_keepDraft_37 ?_
      refine V.iload_n 1 dX10_keepDraft_38 rfl rfl ?_
      refine V.iadd dX10_keepDraft_39 ?_
      refine V.aload_n 0 dX10_keepDraft_40 rfl rfl ?_
      refine V.getR (v := 10) fl_X10_11 sh_9 rfl fx_9_1 (by decide) dX10_keepDraft_41 ?_
      refine V.iload_n 1 dX10_keepDraft_44 rfl rfl ?_
      obtain ⟨r20, hc21, hF⟩ := bp_s hF
      refine V.callNi mf_X11_at ml_X10_55 (s_X11_at (Or.inl io_10) hc21) (by decide) rfl rfl (Nat.le_of_ble_eq_true rfl) dX10_keepDraft_45 ?_
      obtain ⟨r22, h24, hc23, hF⟩ := bd_s hF
      refine V.callNv mf_X11_put ml_X10_63 (s_X11_put io_11 hc23) (by decide) rfl rfl (Nat.le_of_ble_eq_true rfl) dX10_keepDraft_48 ?_
      refine V.iinc (v := (x1 + (1))) 1 [(1, _), (0, _)] dX10_keepDraft_51 rfl rfl (by decide) rfl ?_
      refine V.goto (tgt := 19) dX10_keepDraft_54 rfl ?_
      exact V.sub [1, 0] rfl (ih _ _ hF)
def X10_keepDraft (n : Nat) (h : Mm) : Option (Int32 × Mm) := (if (h.1 9 5) < 0 then (some ((-1 : Int32), h)) else (if (h.1 9 5) < (4 : Int32) then (X10_keepDraft_19 n n (0 : Int32) h) else (some ((-1 : Int32), h))))
set_option maxRecDepth 100000 in
set_option maxHeartbeats 4000000 in
theorem s_X10_keepDraft {X : WX} {o : Mm} {n : Nat} {rv : Int32} {hz : Mm} {h : Mm} (hF : X10_keepDraft n h = some (rv, hz)) : Sat X yX10_keepDraft cX10_keepDraft 2 (some .int) 2 [.ref (xa X 9)] true o h (some (.int rv)) hz := by
  unfold X10_keepDraft at hF
  refine Sat.mk (own := RX10) rfl (by decide +kernel) (Nat.le_of_ble_eq_true rfl) (fun G => ?_)
  refine V.sub (lv2 := [(0, _)]) [0] rfl ?_
  refine V.aload_n 0 dX10_keepDraft_0 rfl rfl ?_
  refine V.getI fl_X10_67 sh_9 rfl km_9 dX10_keepDraft_1 ?_
  refine V.if_lt (tgt := 15) dX10_keepDraft_4 rfl (fun c => ?_) (fun c => ?_)
  · replace hF := ip c hF
    refine V.iconst (v := -1) dX10_keepDraft_15 rfl ?_
    cases hF
    exact V.iret dX10_keepDraft_16
  · replace hF := iq c hF
    refine V.aload_n 0 dX10_keepDraft_7 rfl rfl ?_
    refine V.getI fl_X10_67 sh_9 rfl km_9 dX10_keepDraft_8 ?_
    refine V.iconst (v := 4) dX10_keepDraft_11 rfl ?_
    refine V.icmp_lt (tgt := 17) dX10_keepDraft_12 rfl (fun c => ?_) (fun c => ?_)
    · replace hF := ip c hF
      refine V.iconst (v := 0) dX10_keepDraft_17 rfl ?_
      refine V.istore_n [(1, _), (0, _)] dX10_keepDraft_18 rfl (by decide) rfl ?_
      exact V.sub [1, 0] rfl (v_X10_keepDraft_19 n _ _ hF)
    · replace hF := iq c hF
      refine V.iconst (v := -1) dX10_keepDraft_15 rfl ?_
      cases hF
      exact V.iret dX10_keepDraft_16
/-! MonsterCot.text -/
theorem dX11_text_0 : decode cX11_text 0 = .ok (.iload_n 1, 1) := by decide +kernel
theorem dX11_text_1 : decode cX11_text 1 = .ok (.ifCond .lt 16, 3) := by decide +kernel
theorem dX11_text_4 : decode cX11_text 4 = .ok (.iload_n 1, 1) := by decide +kernel
theorem dX11_text_5 : decode cX11_text 5 = .ok (.iconst 2, 1) := by decide +kernel
theorem dX11_text_6 : decode cX11_text 6 = .ok (.if_icmp .gt 11, 3) := by decide +kernel
theorem dX11_text_9 : decode cX11_text 9 = .ok (.aload_n 0, 1) := by decide +kernel
theorem dX11_text_10 : decode cX11_text 10 = .ok (.iload_n 1, 1) := by decide +kernel
theorem dX11_text_11 : decode cX11_text 11 = .ok (.invokevirtual 107, 3) := by decide +kernel
theorem dX11_text_14 : decode cX11_text 14 = .ok (.ifCond .ne 5, 3) := by decide +kernel
theorem dX11_text_17 : decode cX11_text 17 = .ok (.iconst (-1), 1) := by decide +kernel
theorem dX11_text_18 : decode cX11_text 18 = .ok (.ireturn, 1) := by decide +kernel
theorem dX11_text_19 : decode cX11_text 19 = .ok (.iload_n 1, 1) := by decide +kernel
theorem dX11_text_20 : decode cX11_text 20 = .ok (.ifCond .ne 10, 3) := by decide +kernel
theorem dX11_text_23 : decode cX11_text 23 = .ok (.aload_n 0, 1) := by decide +kernel
theorem dX11_text_24 : decode cX11_text 24 = .ok (.invokevirtual 113, 3) := by decide +kernel
theorem dX11_text_27 : decode cX11_text 27 = .ok (.goto 29, 3) := by decide +kernel
theorem dX11_text_30 : decode cX11_text 30 = .ok (.iload_n 1, 1) := by decide +kernel
theorem dX11_text_31 : decode cX11_text 31 = .ok (.iconst 1, 1) := by decide +kernel
theorem dX11_text_32 : decode cX11_text 32 = .ok (.if_icmp .ne 17, 3) := by decide +kernel
theorem dX11_text_35 : decode cX11_text 35 = .ok (.aload_n 0, 1) := by decide +kernel
theorem dX11_text_36 : decode cX11_text 36 = .ok (.getfield 49, 3) := by decide +kernel
theorem dX11_text_39 : decode cX11_text 39 = .ok (.aload_n 0, 1) := by decide +kernel
theorem dX11_text_40 : decode cX11_text 40 = .ok (.getfield 28, 3) := by decide +kernel
theorem dX11_text_43 : decode cX11_text 43 = .ok (.invokevirtual 117, 3) := by decide +kernel
theorem dX11_text_46 : decode cX11_text 46 = .ok (.goto 10, 3) := by decide +kernel
theorem dX11_text_49 : decode cX11_text 49 = .ok (.aload_n 0, 1) := by decide +kernel
theorem dX11_text_50 : decode cX11_text 50 = .ok (.getfield 35, 3) := by decide +kernel
theorem dX11_text_53 : decode cX11_text 53 = .ok (.invokevirtual 121, 3) := by decide +kernel
theorem dX11_text_56 : decode cX11_text 56 = .ok (.istore_n 2, 1) := by decide +kernel
theorem dX11_text_57 : decode cX11_text 57 = .ok (.iload_n 2, 1) := by decide +kernel
theorem dX11_text_58 : decode cX11_text 58 = .ok (.iconst (-1), 1) := by decide +kernel
theorem dX11_text_59 : decode cX11_text 59 = .ok (.if_icmp .eq 12, 3) := by decide +kernel
theorem dX11_text_62 : decode cX11_text 62 = .ok (.aload_n 0, 1) := by decide +kernel
theorem dX11_text_63 : decode cX11_text 63 = .ok (.getfield 10, 3) := by decide +kernel
theorem dX11_text_66 : decode cX11_text 66 = .ok (.iconst 0, 1) := by decide +kernel
theorem dX11_text_67 : decode cX11_text 67 = .ok (.invokevirtual 103, 3) := by decide +kernel
theorem dX11_text_70 : decode cX11_text 70 = .ok (.pop, 1) := by decide +kernel
theorem dX11_text_71 : decode cX11_text 71 = .ok (.iload_n 2, 1) := by decide +kernel
theorem dX11_text_72 : decode cX11_text 72 = .ok (.ireturn, 1) := by decide +kernel
def X11_text_71 (n : Nat) (x2 : Int32) (h : Mm) : Option (Int32 × Mm) := (some (x2, h))
set_option maxRecDepth 100000 in
set_option maxHeartbeats 4000000 in
theorem v_X11_text_71 {X : WX} {G : GX} {o : Mm} {n : Nat} {rv : Int32} {hz : Mm} {x2 : Int32} {h : Mm} (hF : X11_text_71 n x2 h = some (rv, hz)) : V X G RX11 cX11_text 3 (some .int) 99 0 0 (QR X G true o (some (.int rv)) hz) true o 71 [(2, .int x2)] [] h := by
  unfold X11_text_71 at hF
  refine V.iload_n 0 dX11_text_71 rfl rfl ?_
  cases hF
  exact V.iret dX11_text_72
def X11_text_56 (n : Nat) (s0 : Int32) (h : Mm) : Option (Int32 × Mm) := (if s0 = (-1 : Int32) then (X11_text_71 n s0 h) else (bd (X7_cutTo (0 : Int32) h) (fun r31 h33 => (X11_text_71 n s0 h33))))
set_option maxRecDepth 100000 in
set_option maxHeartbeats 4000000 in
theorem v_X11_text_56 {X : WX} {G : GX} {o : Mm} {n : Nat} {rv : Int32} {hz : Mm} {s0 : Int32} {h : Mm} (hF : X11_text_56 n s0 h = some (rv, hz)) : V X G RX11 cX11_text 3 (some .int) 99 0 0 (QR X G true o (some (.int rv)) hz) true o 56 [(0, .ref (xa X 0))] [.int s0] h := by
  unfold X11_text_56 at hF
  refine V.istore_n [(2, _), (0, _)] dX11_text_56 rfl (by decide) rfl ?_
  refine V.iload_n 0 dX11_text_57 rfl rfl ?_
  refine V.iconst (v := -1) dX11_text_58 rfl ?_
  refine V.icmp_eq (tgt := 71) dX11_text_59 rfl (fun c => ?_) (fun c => ?_)
  · replace hF := ip c hF
    exact V.sub [0] rfl (v_X11_text_71 hF)
  · replace hF := iq c hF
    refine V.aload_n 1 dX11_text_62 rfl rfl ?_
    refine V.getR (v := 1) fl_X11_10 sh_0 rfl fx_0_0 (by decide) dX11_text_63 ?_
    refine V.iconst (v := 0) dX11_text_66 rfl ?_
    obtain ⟨r31, h33, hc32, hF⟩ := bd_s hF
    refine V.callVi mf_X7_cutTo ml_X11_103 sh_1 (s_X7_cutTo hc32) (by decide) rfl rfl (Nat.le_of_ble_eq_true rfl) dX11_text_67 ?_
    refine V.pop dX11_text_70 rfl ?_
    exact V.sub [0] rfl (v_X11_text_71 hF)
def X11_text (n : Nat) (x1 : Int32) (h : Mm) : Option (Int32 × Mm) := (if x1 < 0 then (some ((-1 : Int32), h)) else (if (2 : Int32) < x1 then (some ((-1 : Int32), h)) else (bd (X11_isRight n x1 h) (fun r34 h36 => (if r34 = true then (if x1 = 0 then (bd (X11_moveIn n h36) (fun r43 h45 => (X11_text_56 n r43 h45))) else (if x1 = (1 : Int32) then (bd (X4_keep h36) (fun r40 h42 => (X11_text_56 n r40 h42))) else (bd (X10_keepDraft n h36) (fun r37 h39 => (X11_text_56 n r37 h39))))) else (some ((-1 : Int32), h36)))))))
set_option maxRecDepth 100000 in
set_option maxHeartbeats 4000000 in
theorem s_X11_text {X : WX} {o : Mm} {n : Nat} {x1 : Int32} {rv : Int32} {hz : Mm} {h : Mm} (hF : X11_text n x1 h = some (rv, hz)) : Sat X yX11_text cX11_text 3 (some .int) 99 [.ref (xa X 0), .int x1] true o h (some (.int rv)) hz := by
  unfold X11_text at hF
  refine Sat.mk (own := RX11) rfl (by decide +kernel) (Nat.le_of_ble_eq_true rfl) (fun G => ?_)
  refine V.sub (lv2 := [(0, _), (1, _)]) [0, 1] rfl ?_
  refine V.iload_n 1 dX11_text_0 rfl rfl ?_
  refine V.if_lt (tgt := 17) dX11_text_1 rfl (fun c => ?_) (fun c => ?_)
  · replace hF := ip c hF
    refine V.iconst (v := -1) dX11_text_17 rfl ?_
    cases hF
    exact V.iret dX11_text_18
  · replace hF := iq c hF
    refine V.iload_n 1 dX11_text_4 rfl rfl ?_
    refine V.iconst (v := 2) dX11_text_5 rfl ?_
    refine V.icmp_gt (tgt := 17) dX11_text_6 rfl (fun c => ?_) (fun c => ?_)
    · replace hF := ip c hF
      refine V.iconst (v := -1) dX11_text_17 rfl ?_
      cases hF
      exact V.iret dX11_text_18
    · replace hF := iq c hF
      refine V.aload_n 0 dX11_text_9 rfl rfl ?_
      refine V.iload_n 1 dX11_text_10 rfl rfl ?_
      obtain ⟨r34, h36, hc35, hF⟩ := bd_s hF
      refine V.callVi mf_X11_isRight ml_X11_107 sh_0 (s_X11_isRight hc35) (by decide) rfl rfl (Nat.le_of_ble_eq_true rfl) dX11_text_11 ?_
      refine V.ifz_ne (tgt := 19) dX11_text_14 rfl (fun c => ?_) (fun c => ?_)
      · replace hF := ip c hF
        refine V.iload_n 1 dX11_text_19 rfl rfl ?_
        refine V.if_ne (tgt := 30) dX11_text_20 rfl (fun c => ?_) (fun c => ?_)
        · replace hF := iq c hF
          refine V.iload_n 1 dX11_text_30 rfl rfl ?_
          refine V.iconst (v := 1) dX11_text_31 rfl ?_
          refine V.icmp_ne (tgt := 49) dX11_text_32 rfl (fun c => ?_) (fun c => ?_)
          · replace hF := iq c hF
            refine V.aload_n 0 dX11_text_49 rfl rfl ?_
            refine V.getR (v := 9) fl_X11_35 sh_0 rfl fx_0_3 (by decide) dX11_text_50 ?_
            obtain ⟨r37, h39, hc38, hF⟩ := bd_s hF
            refine V.callVi mf_X10_keepDraft ml_X11_121 sh_9 (s_X10_keepDraft hc38) (by decide) rfl rfl (Nat.le_of_ble_eq_true rfl) dX11_text_53 ?_
            exact V.sub [0] rfl (v_X11_text_56 hF)
          · replace hF := ip c hF
            refine V.aload_n 0 dX11_text_35 rfl rfl ?_
            refine V.getR (v := 16) fl_X11_49 sh_0 rfl fx_0_5 (by decide) dX11_text_36 ?_
            refine V.aload_n 0 dX11_text_39 rfl rfl ?_
            refine V.getR (v := 7) fl_X11_28 sh_0 rfl fx_0_2 (by decide) dX11_text_40 ?_
            obtain ⟨r40, h42, hc41, hF⟩ := bd_s hF
            refine V.callVi mf_X4_keep ml_X11_117 sh_16 (s_X4_keep hc41) (by decide) rfl rfl (Nat.le_of_ble_eq_true rfl) dX11_text_43 ?_
            refine V.goto (tgt := 56) dX11_text_46 rfl ?_
            exact V.sub [0] rfl (v_X11_text_56 hF)
        · replace hF := ip c hF
          refine V.aload_n 0 dX11_text_23 rfl rfl ?_
          obtain ⟨r43, h45, hc44, hF⟩ := bd_s hF
          refine V.callVi mf_X11_moveIn ml_X11_113 sh_0 (s_X11_moveIn hc44) (by decide) rfl rfl (Nat.le_of_ble_eq_true rfl) dX11_text_24 ?_
          refine V.goto (tgt := 56) dX11_text_27 rfl ?_
          exact V.sub [0] rfl (v_X11_text_56 hF)
      · replace hF := iq c hF
        refine V.iconst (v := -1) dX11_text_17 rfl ?_
        cases hF
        exact V.iret dX11_text_18
/-! MonsterCot$Land.stands -/
theorem dX1_stands_0 : decode cX1_stands 0 = .ok (.aload_n 0, 1) := by decide +kernel
theorem dX1_stands_1 : decode cX1_stands 1 = .ok (.invokevirtual 53, 3) := by decide +kernel
theorem dX1_stands_4 : decode cX1_stands 4 = .ok (.ifCond .le 7, 3) := by decide +kernel
theorem dX1_stands_7 : decode cX1_stands 7 = .ok (.iconst 1, 1) := by decide +kernel
theorem dX1_stands_8 : decode cX1_stands 8 = .ok (.goto 4, 3) := by decide +kernel
theorem dX1_stands_11 : decode cX1_stands 11 = .ok (.iconst 0, 1) := by decide +kernel
theorem dX1_stands_12 : decode cX1_stands 12 = .ok (.ireturn, 1) := by decide +kernel
def X1_stands (a0 : Nat) (h : Mm) : Option Bool := (bp (X1_houses a0 h) (fun r3 => (if r3 ≤ 0 then (some false) else (some true))))
set_option maxRecDepth 100000 in
set_option maxHeartbeats 4000000 in
theorem s_X1_stands {X : WX} {o : Mm} {a0 : Nat} {rv : Bool} {h : Mm} (ha0 : isLd a0) (hF : X1_stands a0 h = some rv) : Sat X yX1_stands cX1_stands 1 (some .boolean) 3 [.ref (xa X a0)] true o h (some (.int (b2i rv))) h := by
  unfold X1_stands at hF
  refine Sat.mk (own := RX1) rfl (by decide +kernel) (Nat.le_of_ble_eq_true rfl) (fun G => ?_)
  refine V.sub (lv2 := [(0, _)]) [0] rfl ?_
  refine V.aload_n 0 dX1_stands_0 rfl rfl ?_
  obtain ⟨r3, hc4, hF⟩ := bp_s hF
  refine V.callVi mf_X1_houses ml_X1_53 ha0.sh (s_X1_houses ha0 hc4) (by decide) rfl rfl (Nat.le_of_ble_eq_true rfl) dX1_stands_1 ?_
  refine V.if_le (tgt := 11) dX1_stands_4 rfl (fun c => ?_) (fun c => ?_)
  · replace hF := ip c hF
    refine V.iconst (v := 0) dX1_stands_11 rfl ?_
    cases hF
    exact V.bret dX1_stands_12
  · replace hF := iq c hF
    refine V.iconst (v := 1) dX1_stands_7 rfl ?_
    refine V.goto (tgt := 12) dX1_stands_8 rfl ?_
    cases hF
    exact V.bret dX1_stands_12
/-! MonsterCot$Land.enough -/
theorem dX1_enough_0 : decode cX1_enough 0 = .ok (.aload_n 0, 1) := by decide +kernel
theorem dX1_enough_1 : decode cX1_enough 1 = .ok (.iconst 0, 1) := by decide +kernel
theorem dX1_enough_2 : decode cX1_enough 2 = .ok (.iconst 0, 1) := by decide +kernel
theorem dX1_enough_3 : decode cX1_enough 3 = .ok (.iconst 1, 1) := by decide +kernel
theorem dX1_enough_4 : decode cX1_enough 4 = .ok (.invokevirtual 60, 3) := by decide +kernel
theorem dX1_enough_7 : decode cX1_enough 7 = .ok (.ireturn, 1) := by decide +kernel
def X1_enough (a0 : Nat) (h : Mm) : Option Int32 := (bp (X1_told a0 (0 : Int32) (0 : Int32) (1 : Int32) h) (fun r3 => (some r3)))
set_option maxRecDepth 100000 in
set_option maxHeartbeats 4000000 in
theorem s_X1_enough {X : WX} {o : Mm} {a0 : Nat} {rv : Int32} {h : Mm} (ha0 : isLd a0) (hF : X1_enough a0 h = some rv) : Sat X yX1_enough cX1_enough 1 (some .int) 3 [.ref (xa X a0)] true o h (some (.int rv)) h := by
  unfold X1_enough at hF
  refine Sat.mk (own := RX1) rfl (by decide +kernel) (Nat.le_of_ble_eq_true rfl) (fun G => ?_)
  refine V.sub (lv2 := [(0, _)]) [0] rfl ?_
  refine V.aload_n 0 dX1_enough_0 rfl rfl ?_
  refine V.iconst (v := 0) dX1_enough_1 rfl ?_
  refine V.iconst (v := 0) dX1_enough_2 rfl ?_
  refine V.iconst (v := 1) dX1_enough_3 rfl ?_
  obtain ⟨r3, hc4, hF⟩ := bp_s hF
  refine V.callVi mf_X1_told ml_X1_60 ha0.sh (s_X1_told ha0 hc4) (by decide) rfl rfl (Nat.le_of_ble_eq_true rfl) dX1_enough_4 ?_
  cases hF
  exact V.iret dX1_enough_7
/-! MonsterCot$Land.loses -/
theorem dX1_loses_0 : decode cX1_loses 0 = .ok (.aload_n 0, 1) := by decide +kernel
theorem dX1_loses_1 : decode cX1_loses 1 = .ok (.iconst 0, 1) := by decide +kernel
theorem dX1_loses_2 : decode cX1_loses 2 = .ok (.iconst 0, 1) := by decide +kernel
theorem dX1_loses_3 : decode cX1_loses 3 = .ok (.iconst 2, 1) := by decide +kernel
theorem dX1_loses_4 : decode cX1_loses 4 = .ok (.invokevirtual 60, 3) := by decide +kernel
theorem dX1_loses_7 : decode cX1_loses 7 = .ok (.ireturn, 1) := by decide +kernel
def X1_loses (a0 : Nat) (h : Mm) : Option Int32 := (bp (X1_told a0 (0 : Int32) (0 : Int32) (2 : Int32) h) (fun r3 => (some r3)))
set_option maxRecDepth 100000 in
set_option maxHeartbeats 4000000 in
theorem s_X1_loses {X : WX} {o : Mm} {a0 : Nat} {rv : Int32} {h : Mm} (ha0 : isLd a0) (hF : X1_loses a0 h = some rv) : Sat X yX1_loses cX1_loses 1 (some .int) 3 [.ref (xa X a0)] true o h (some (.int rv)) h := by
  unfold X1_loses at hF
  refine Sat.mk (own := RX1) rfl (by decide +kernel) (Nat.le_of_ble_eq_true rfl) (fun G => ?_)
  refine V.sub (lv2 := [(0, _)]) [0] rfl ?_
  refine V.aload_n 0 dX1_loses_0 rfl rfl ?_
  refine V.iconst (v := 0) dX1_loses_1 rfl ?_
  refine V.iconst (v := 0) dX1_loses_2 rfl ?_
  refine V.iconst (v := 2) dX1_loses_3 rfl ?_
  obtain ⟨r3, hc4, hF⟩ := bp_s hF
  refine V.callVi mf_X1_told ml_X1_60 ha0.sh (s_X1_told ha0 hc4) (by decide) rfl rfl (Nat.le_of_ble_eq_true rfl) dX1_loses_4 ?_
  cases hF
  exact V.iret dX1_loses_7
/-! MonsterCot.rule -/
theorem dX11_rule_0 : decode cX11_rule 0 = .ok (.aload_n 0, 1) := by decide +kernel
theorem dX11_rule_1 : decode cX11_rule 1 = .ok (.getfield 42, 3) := by decide +kernel
theorem dX11_rule_4 : decode cX11_rule 4 = .ok (.invokevirtual 124, 3) := by decide +kernel
theorem dX11_rule_7 : decode cX11_rule 7 = .ok (.ifCond .eq 12, 3) := by decide +kernel
theorem dX11_rule_10 : decode cX11_rule 10 = .ok (.iload_n 1, 1) := by decide +kernel
theorem dX11_rule_11 : decode cX11_rule 11 = .ok (.ifCond .lt 8, 3) := by decide +kernel
theorem dX11_rule_14 : decode cX11_rule 14 = .ok (.iload_n 1, 1) := by decide +kernel
theorem dX11_rule_15 : decode cX11_rule 15 = .ok (.iconst 2, 1) := by decide +kernel
theorem dX11_rule_16 : decode cX11_rule 16 = .ok (.if_icmp .le 5, 3) := by decide +kernel
theorem dX11_rule_19 : decode cX11_rule 19 = .ok (.iconst (-1), 1) := by decide +kernel
theorem dX11_rule_20 : decode cX11_rule 20 = .ok (.ireturn, 1) := by decide +kernel
theorem dX11_rule_21 : decode cX11_rule 21 = .ok (.iload_n 1, 1) := by decide +kernel
theorem dX11_rule_22 : decode cX11_rule 22 = .ok (.ifCond .ne 13, 3) := by decide +kernel
theorem dX11_rule_25 : decode cX11_rule 25 = .ok (.aload_n 0, 1) := by decide +kernel
theorem dX11_rule_26 : decode cX11_rule 26 = .ok (.getfield 65, 3) := by decide +kernel
theorem dX11_rule_29 : decode cX11_rule 29 = .ok (.getfield 128, 3) := by decide +kernel
theorem dX11_rule_32 : decode cX11_rule 32 = .ok (.goto 25, 3) := by decide +kernel
theorem dX11_rule_35 : decode cX11_rule 35 = .ok (.iload_n 1, 1) := by decide +kernel
theorem dX11_rule_36 : decode cX11_rule 36 = .ok (.iconst 1, 1) := by decide +kernel
theorem dX11_rule_37 : decode cX11_rule 37 = .ok (.if_icmp .ne 13, 3) := by decide +kernel
theorem dX11_rule_40 : decode cX11_rule 40 = .ok (.aload_n 0, 1) := by decide +kernel
theorem dX11_rule_41 : decode cX11_rule 41 = .ok (.getfield 42, 3) := by decide +kernel
theorem dX11_rule_44 : decode cX11_rule 44 = .ok (.invokevirtual 131, 3) := by decide +kernel
theorem dX11_rule_47 : decode cX11_rule 47 = .ok (.goto 10, 3) := by decide +kernel
theorem dX11_rule_50 : decode cX11_rule 50 = .ok (.aload_n 0, 1) := by decide +kernel
theorem dX11_rule_51 : decode cX11_rule 51 = .ok (.getfield 42, 3) := by decide +kernel
theorem dX11_rule_54 : decode cX11_rule 54 = .ok (.invokevirtual 134, 3) := by decide +kernel
theorem dX11_rule_57 : decode cX11_rule 57 = .ok (.ireturn, 1) := by decide +kernel
def X11_rule (x1 : Int32) (h : Mm) : Option Int32 := (bp (X1_stands 13 h) (fun r7 => (if r7 = true then (if x1 < 0 then (some (-1 : Int32)) else (if x1 ≤ (2 : Int32) then (if x1 = 0 then (some (h.1 27 4)) else (if x1 = (1 : Int32) then (bp (X1_enough 13 h) (fun r11 => (some r11))) else (bp (X1_loses 13 h) (fun r9 => (some r9))))) else (some (-1 : Int32)))) else (some (-1 : Int32)))))
set_option maxRecDepth 100000 in
set_option maxHeartbeats 4000000 in
theorem s_X11_rule {X : WX} {o : Mm} {x1 : Int32} {rv : Int32} {h : Mm} (hF : X11_rule x1 h = some rv) : Sat X yX11_rule cX11_rule 2 (some .int) 4 [.ref (xa X 0), .int x1] true o h (some (.int rv)) h := by
  unfold X11_rule at hF
  refine Sat.mk (own := RX11) rfl (by decide +kernel) (Nat.le_of_ble_eq_true rfl) (fun G => ?_)
  refine V.sub (lv2 := [(0, _), (1, _)]) [0, 1] rfl ?_
  refine V.aload_n 0 dX11_rule_0 rfl rfl ?_
  refine V.getR (v := 13) fl_X11_42 sh_0 rfl fx_0_4 (by decide) dX11_rule_1 ?_
  obtain ⟨r7, hc8, hF⟩ := bp_s hF
  refine V.callVi mf_X1_stands ml_X11_124 sh_13 (s_X1_stands (Or.inr rfl) hc8) (by decide) rfl rfl (Nat.le_of_ble_eq_true rfl) dX11_rule_4 ?_
  refine V.ifz_eq (tgt := 19) dX11_rule_7 rfl (fun c => ?_) (fun c => ?_)
  · replace hF := iq c hF
    refine V.iconst (v := -1) dX11_rule_19 rfl ?_
    cases hF
    exact V.iret dX11_rule_20
  · replace hF := ip c hF
    refine V.iload_n 1 dX11_rule_10 rfl rfl ?_
    refine V.if_lt (tgt := 19) dX11_rule_11 rfl (fun c => ?_) (fun c => ?_)
    · replace hF := ip c hF
      refine V.iconst (v := -1) dX11_rule_19 rfl ?_
      cases hF
      exact V.iret dX11_rule_20
    · replace hF := iq c hF
      refine V.iload_n 1 dX11_rule_14 rfl rfl ?_
      refine V.iconst (v := 2) dX11_rule_15 rfl ?_
      refine V.icmp_le (tgt := 21) dX11_rule_16 rfl (fun c => ?_) (fun c => ?_)
      · replace hF := ip c hF
        refine V.iload_n 1 dX11_rule_21 rfl rfl ?_
        refine V.if_ne (tgt := 35) dX11_rule_22 rfl (fun c => ?_) (fun c => ?_)
        · replace hF := iq c hF
          refine V.iload_n 1 dX11_rule_35 rfl rfl ?_
          refine V.iconst (v := 1) dX11_rule_36 rfl ?_
          refine V.icmp_ne (tgt := 50) dX11_rule_37 rfl (fun c => ?_) (fun c => ?_)
          · replace hF := iq c hF
            refine V.aload_n 0 dX11_rule_50 rfl rfl ?_
            refine V.getR (v := 13) fl_X11_42 sh_0 rfl fx_0_4 (by decide) dX11_rule_51 ?_
            obtain ⟨r9, hc10, hF⟩ := bp_s hF
            refine V.callVi mf_X1_loses ml_X11_134 sh_13 (s_X1_loses (Or.inr rfl) hc10) (by decide) rfl rfl (Nat.le_of_ble_eq_true rfl) dX11_rule_54 ?_
            cases hF
            exact V.iret dX11_rule_57
          · replace hF := ip c hF
            refine V.aload_n 0 dX11_rule_40 rfl rfl ?_
            refine V.getR (v := 13) fl_X11_42 sh_0 rfl fx_0_4 (by decide) dX11_rule_41 ?_
            obtain ⟨r11, hc12, hF⟩ := bp_s hF
            refine V.callVi mf_X1_enough ml_X11_131 sh_13 (s_X1_enough (Or.inr rfl) hc12) (by decide) rfl rfl (Nat.le_of_ble_eq_true rfl) dX11_rule_44 ?_
            refine V.goto (tgt := 57) dX11_rule_47 rfl ?_
            cases hF
            exact V.iret dX11_rule_57
        · replace hF := ip c hF
          refine V.aload_n 0 dX11_rule_25 rfl rfl ?_
          refine V.getR (v := 27) fl_X11_65 sh_0 rfl fx_0_7 (by decide) dX11_rule_26 ?_
          refine V.getI fl_X11_128 sh_27 rfl km_27 dX11_rule_29 ?_
          refine V.goto (tgt := 57) dX11_rule_32 rfl ?_
          cases hF
          exact V.iret dX11_rule_57
      · replace hF := iq c hF
        refine V.iconst (v := -1) dX11_rule_19 rfl ?_
        cases hF
        exact V.iret dX11_rule_20
/-! MonsterCot$Land.hasBook -/
theorem dX1_hasBook_0 : decode cX1_hasBook 0 = .ok (.iload_n 1, 1) := by decide +kernel
theorem dX1_hasBook_1 : decode cX1_hasBook 1 = .ok (.ifCond .lt 15, 3) := by decide +kernel
theorem dX1_hasBook_4 : decode cX1_hasBook 4 = .ok (.iload_n 1, 1) := by decide +kernel
theorem dX1_hasBook_5 : decode cX1_hasBook 5 = .ok (.aload_n 0, 1) := by decide +kernel
theorem dX1_hasBook_6 : decode cX1_hasBook 6 = .ok (.invokevirtual 57, 3) := by decide +kernel
theorem dX1_hasBook_9 : decode cX1_hasBook 9 = .ok (.if_icmp .ge 7, 3) := by decide +kernel
theorem dX1_hasBook_12 : decode cX1_hasBook 12 = .ok (.iconst 1, 1) := by decide +kernel
theorem dX1_hasBook_13 : decode cX1_hasBook 13 = .ok (.goto 4, 3) := by decide +kernel
theorem dX1_hasBook_16 : decode cX1_hasBook 16 = .ok (.iconst 0, 1) := by decide +kernel
theorem dX1_hasBook_17 : decode cX1_hasBook 17 = .ok (.ireturn, 1) := by decide +kernel
def X1_hasBook (a0 : Nat) (x1 : Int32) (h : Mm) : Option Bool := (if x1 < 0 then (some false) else (bp (X1_books a0 h) (fun r3 => (if r3 ≤ x1 then (some false) else (some true)))))
set_option maxRecDepth 100000 in
set_option maxHeartbeats 4000000 in
theorem s_X1_hasBook {X : WX} {o : Mm} {a0 : Nat} {x1 : Int32} {rv : Bool} {h : Mm} (ha0 : isLd a0) (hF : X1_hasBook a0 x1 h = some rv) : Sat X yX1_hasBook cX1_hasBook 2 (some .boolean) 3 [.ref (xa X a0), .int x1] true o h (some (.int (b2i rv))) h := by
  unfold X1_hasBook at hF
  refine Sat.mk (own := RX1) rfl (by decide +kernel) (Nat.le_of_ble_eq_true rfl) (fun G => ?_)
  refine V.sub (lv2 := [(0, _), (1, _)]) [0, 1] rfl ?_
  refine V.iload_n 1 dX1_hasBook_0 rfl rfl ?_
  refine V.if_lt (tgt := 16) dX1_hasBook_1 rfl (fun c => ?_) (fun c => ?_)
  · replace hF := ip c hF
    refine V.iconst (v := 0) dX1_hasBook_16 rfl ?_
    cases hF
    exact V.bret dX1_hasBook_17
  · replace hF := iq c hF
    refine V.iload_n 1 dX1_hasBook_4 rfl rfl ?_
    refine V.aload_n 0 dX1_hasBook_5 rfl rfl ?_
    obtain ⟨r3, hc4, hF⟩ := bp_s hF
    refine V.callVi mf_X1_books ml_X1_57 ha0.sh (s_X1_books ha0 hc4) (by decide) rfl rfl (Nat.le_of_ble_eq_true rfl) dX1_hasBook_6 ?_
    refine V.icmp_ge (tgt := 16) dX1_hasBook_9 rfl (fun c => ?_) (fun c => ?_)
    · replace hF := ip c hF
      refine V.iconst (v := 0) dX1_hasBook_16 rfl ?_
      cases hF
      exact V.bret dX1_hasBook_17
    · replace hF := iq c hF
      refine V.iconst (v := 1) dX1_hasBook_12 rfl ?_
      refine V.goto (tgt := 17) dX1_hasBook_13 rfl ?_
      cases hF
      exact V.bret dX1_hasBook_17
/-! MonsterCot$Land.pagesOf -/
theorem dX1_pagesOf_0 : decode cX1_pagesOf 0 = .ok (.aload_n 0, 1) := by decide +kernel
theorem dX1_pagesOf_1 : decode cX1_pagesOf 1 = .ok (.iconst 1, 1) := by decide +kernel
theorem dX1_pagesOf_2 : decode cX1_pagesOf 2 = .ok (.iload_n 1, 1) := by decide +kernel
theorem dX1_pagesOf_3 : decode cX1_pagesOf 3 = .ok (.iconst 0, 1) := by decide +kernel
theorem dX1_pagesOf_4 : decode cX1_pagesOf 4 = .ok (.invokevirtual 60, 3) := by decide +kernel
theorem dX1_pagesOf_7 : decode cX1_pagesOf 7 = .ok (.ireturn, 1) := by decide +kernel
def X1_pagesOf (a0 : Nat) (x1 : Int32) (h : Mm) : Option Int32 := (bp (X1_told a0 (1 : Int32) x1 (0 : Int32) h) (fun r3 => (some r3)))
set_option maxRecDepth 100000 in
set_option maxHeartbeats 4000000 in
theorem s_X1_pagesOf {X : WX} {o : Mm} {a0 : Nat} {x1 : Int32} {rv : Int32} {h : Mm} (ha0 : isLd a0) (hF : X1_pagesOf a0 x1 h = some rv) : Sat X yX1_pagesOf cX1_pagesOf 2 (some .int) 3 [.ref (xa X a0), .int x1] true o h (some (.int rv)) h := by
  unfold X1_pagesOf at hF
  refine Sat.mk (own := RX1) rfl (by decide +kernel) (Nat.le_of_ble_eq_true rfl) (fun G => ?_)
  refine V.sub (lv2 := [(0, _), (1, _)]) [0, 1] rfl ?_
  refine V.aload_n 0 dX1_pagesOf_0 rfl rfl ?_
  refine V.iconst (v := 1) dX1_pagesOf_1 rfl ?_
  refine V.iload_n 1 dX1_pagesOf_2 rfl rfl ?_
  refine V.iconst (v := 0) dX1_pagesOf_3 rfl ?_
  obtain ⟨r3, hc4, hF⟩ := bp_s hF
  refine V.callVi mf_X1_told ml_X1_60 ha0.sh (s_X1_told ha0 hc4) (by decide) rfl rfl (Nat.le_of_ble_eq_true rfl) dX1_pagesOf_4 ?_
  cases hF
  exact V.iret dX1_pagesOf_7
/-! MonsterCot$Land.calmingOf -/
theorem dX1_calmingOf_0 : decode cX1_calmingOf 0 = .ok (.aload_n 0, 1) := by decide +kernel
theorem dX1_calmingOf_1 : decode cX1_calmingOf 1 = .ok (.iconst 1, 1) := by decide +kernel
theorem dX1_calmingOf_2 : decode cX1_calmingOf 2 = .ok (.iload_n 1, 1) := by decide +kernel
theorem dX1_calmingOf_3 : decode cX1_calmingOf 3 = .ok (.iconst 1, 1) := by decide +kernel
theorem dX1_calmingOf_4 : decode cX1_calmingOf 4 = .ok (.invokevirtual 60, 3) := by decide +kernel
theorem dX1_calmingOf_7 : decode cX1_calmingOf 7 = .ok (.ireturn, 1) := by decide +kernel
def X1_calmingOf (a0 : Nat) (x1 : Int32) (h : Mm) : Option Int32 := (bp (X1_told a0 (1 : Int32) x1 (1 : Int32) h) (fun r3 => (some r3)))
set_option maxRecDepth 100000 in
set_option maxHeartbeats 4000000 in
theorem s_X1_calmingOf {X : WX} {o : Mm} {a0 : Nat} {x1 : Int32} {rv : Int32} {h : Mm} (ha0 : isLd a0) (hF : X1_calmingOf a0 x1 h = some rv) : Sat X yX1_calmingOf cX1_calmingOf 2 (some .int) 3 [.ref (xa X a0), .int x1] true o h (some (.int rv)) h := by
  unfold X1_calmingOf at hF
  refine Sat.mk (own := RX1) rfl (by decide +kernel) (Nat.le_of_ble_eq_true rfl) (fun G => ?_)
  refine V.sub (lv2 := [(0, _), (1, _)]) [0, 1] rfl ?_
  refine V.aload_n 0 dX1_calmingOf_0 rfl rfl ?_
  refine V.iconst (v := 1) dX1_calmingOf_1 rfl ?_
  refine V.iload_n 1 dX1_calmingOf_2 rfl rfl ?_
  refine V.iconst (v := 1) dX1_calmingOf_3 rfl ?_
  obtain ⟨r3, hc4, hF⟩ := bp_s hF
  refine V.callVi mf_X1_told ml_X1_60 ha0.sh (s_X1_told ha0 hc4) (by decide) rfl rfl (Nat.le_of_ble_eq_true rfl) dX1_calmingOf_4 ?_
  cases hF
  exact V.iret dX1_calmingOf_7
/-! MonsterCot$Land.kindOf -/
theorem dX1_kindOf_0 : decode cX1_kindOf 0 = .ok (.aload_n 0, 1) := by decide +kernel
theorem dX1_kindOf_1 : decode cX1_kindOf 1 = .ok (.iconst 1, 1) := by decide +kernel
theorem dX1_kindOf_2 : decode cX1_kindOf 2 = .ok (.iload_n 1, 1) := by decide +kernel
theorem dX1_kindOf_3 : decode cX1_kindOf 3 = .ok (.iconst 2, 1) := by decide +kernel
theorem dX1_kindOf_4 : decode cX1_kindOf 4 = .ok (.invokevirtual 60, 3) := by decide +kernel
theorem dX1_kindOf_7 : decode cX1_kindOf 7 = .ok (.ireturn, 1) := by decide +kernel
def X1_kindOf (a0 : Nat) (x1 : Int32) (h : Mm) : Option Int32 := (bp (X1_told a0 (1 : Int32) x1 (2 : Int32) h) (fun r3 => (some r3)))
set_option maxRecDepth 100000 in
set_option maxHeartbeats 4000000 in
theorem s_X1_kindOf {X : WX} {o : Mm} {a0 : Nat} {x1 : Int32} {rv : Int32} {h : Mm} (ha0 : isLd a0) (hF : X1_kindOf a0 x1 h = some rv) : Sat X yX1_kindOf cX1_kindOf 2 (some .int) 3 [.ref (xa X a0), .int x1] true o h (some (.int rv)) h := by
  unfold X1_kindOf at hF
  refine Sat.mk (own := RX1) rfl (by decide +kernel) (Nat.le_of_ble_eq_true rfl) (fun G => ?_)
  refine V.sub (lv2 := [(0, _), (1, _)]) [0, 1] rfl ?_
  refine V.aload_n 0 dX1_kindOf_0 rfl rfl ?_
  refine V.iconst (v := 1) dX1_kindOf_1 rfl ?_
  refine V.iload_n 1 dX1_kindOf_2 rfl rfl ?_
  refine V.iconst (v := 2) dX1_kindOf_3 rfl ?_
  obtain ⟨r3, hc4, hF⟩ := bp_s hF
  refine V.callVi mf_X1_told ml_X1_60 ha0.sh (s_X1_told ha0 hc4) (by decide) rfl rfl (Nat.le_of_ble_eq_true rfl) dX1_kindOf_4 ?_
  cases hF
  exact V.iret dX1_kindOf_7
/-! MonsterCot$Bed.wasRead -/
theorem dX0_wasRead_0 : decode cX0_wasRead 0 = .ok (.aload_n 0, 1) := by decide +kernel
theorem dX0_wasRead_1 : decode cX0_wasRead 1 = .ok (.getfield 66, 3) := by decide +kernel
theorem dX0_wasRead_4 : decode cX0_wasRead 4 = .ok (.iload_n 1, 1) := by decide +kernel
theorem dX0_wasRead_5 : decode cX0_wasRead 5 = .ok (.ishr, 1) := by decide +kernel
theorem dX0_wasRead_6 : decode cX0_wasRead 6 = .ok (.iconst 1, 1) := by decide +kernel
theorem dX0_wasRead_7 : decode cX0_wasRead 7 = .ok (.iand, 1) := by decide +kernel
theorem dX0_wasRead_8 : decode cX0_wasRead 8 = .ok (.ifCond .eq 7, 3) := by decide +kernel
theorem dX0_wasRead_11 : decode cX0_wasRead 11 = .ok (.iconst 1, 1) := by decide +kernel
theorem dX0_wasRead_12 : decode cX0_wasRead 12 = .ok (.goto 4, 3) := by decide +kernel
theorem dX0_wasRead_15 : decode cX0_wasRead 15 = .ok (.iconst 0, 1) := by decide +kernel
theorem dX0_wasRead_16 : decode cX0_wasRead 16 = .ok (.ireturn, 1) := by decide +kernel
def X0_wasRead (a0 : Nat) (x1 : Int32) (h : Mm) : Option Bool := (if (((h.1 a0 9) >>> (x1 &&& 31)) &&& (1 : Int32)) = 0 then (some false) else (some true))
set_option maxRecDepth 100000 in
set_option maxHeartbeats 4000000 in
theorem s_X0_wasRead {X : WX} {o : Mm} {a0 : Nat} {x1 : Int32} {rv : Bool} {h : Mm} (ha0 : isBed a0) (hF : X0_wasRead a0 x1 h = some rv) : Sat X yX0_wasRead cX0_wasRead 2 (some .boolean) 1 [.ref (xa X a0), .int x1] true o h (some (.int (b2i rv))) h := by
  unfold X0_wasRead at hF
  refine Sat.mk (own := RX0) rfl (by decide +kernel) (Nat.le_of_ble_eq_true rfl) (fun G => ?_)
  refine V.sub (lv2 := [(0, _), (1, _)]) [0, 1] rfl ?_
  refine V.aload_n 0 dX0_wasRead_0 rfl rfl ?_
  refine V.getI fl_X0_66 ha0.sh rfl ha0.km dX0_wasRead_1 ?_
  refine V.iload_n 1 dX0_wasRead_4 rfl rfl ?_
  refine V.ishr dX0_wasRead_5 ?_
  refine V.iconst (v := 1) dX0_wasRead_6 rfl ?_
  refine V.iand dX0_wasRead_7 ?_
  refine V.if_eq (tgt := 15) dX0_wasRead_8 rfl (fun c => ?_) (fun c => ?_)
  · replace hF := ip c hF
    refine V.iconst (v := 0) dX0_wasRead_15 rfl ?_
    cases hF
    exact V.bret dX0_wasRead_16
  · replace hF := iq c hF
    refine V.iconst (v := 1) dX0_wasRead_11 rfl ?_
    refine V.goto (tgt := 16) dX0_wasRead_12 rfl ?_
    cases hF
    exact V.bret dX0_wasRead_16
/-! MonsterCot.tome -/
theorem dX11_tome_0 : decode cX11_tome 0 = .ok (.aload_n 0, 1) := by decide +kernel
theorem dX11_tome_1 : decode cX11_tome 1 = .ok (.getfield 42, 3) := by decide +kernel
theorem dX11_tome_4 : decode cX11_tome 4 = .ok (.iload_n 1, 1) := by decide +kernel
theorem dX11_tome_5 : decode cX11_tome 5 = .ok (.invokevirtual 137, 3) := by decide +kernel
theorem dX11_tome_8 : decode cX11_tome 8 = .ok (.ifCond .ne 5, 3) := by decide +kernel
theorem dX11_tome_11 : decode cX11_tome 11 = .ok (.iconst (-1), 1) := by decide +kernel
theorem dX11_tome_12 : decode cX11_tome 12 = .ok (.ireturn, 1) := by decide +kernel
theorem dX11_tome_13 : decode cX11_tome 13 = .ok (.iload_n 2, 1) := by decide +kernel
theorem dX11_tome_14 : decode cX11_tome 14 = .ok (.tableswitch 74 0 3 #[30, 39, 48, 57], 30) := by decide +kernel
theorem dX11_tome_44 : decode cX11_tome 44 = .ok (.aload_n 0, 1) := by decide +kernel
theorem dX11_tome_45 : decode cX11_tome 45 = .ok (.getfield 42, 3) := by decide +kernel
theorem dX11_tome_48 : decode cX11_tome 48 = .ok (.iload_n 1, 1) := by decide +kernel
theorem dX11_tome_49 : decode cX11_tome 49 = .ok (.invokevirtual 140, 3) := by decide +kernel
theorem dX11_tome_52 : decode cX11_tome 52 = .ok (.ireturn, 1) := by decide +kernel
theorem dX11_tome_53 : decode cX11_tome 53 = .ok (.aload_n 0, 1) := by decide +kernel
theorem dX11_tome_54 : decode cX11_tome 54 = .ok (.getfield 42, 3) := by decide +kernel
theorem dX11_tome_57 : decode cX11_tome 57 = .ok (.iload_n 1, 1) := by decide +kernel
theorem dX11_tome_58 : decode cX11_tome 58 = .ok (.invokevirtual 144, 3) := by decide +kernel
theorem dX11_tome_61 : decode cX11_tome 61 = .ok (.ireturn, 1) := by decide +kernel
theorem dX11_tome_62 : decode cX11_tome 62 = .ok (.aload_n 0, 1) := by decide +kernel
theorem dX11_tome_63 : decode cX11_tome 63 = .ok (.getfield 42, 3) := by decide +kernel
theorem dX11_tome_66 : decode cX11_tome 66 = .ok (.iload_n 1, 1) := by decide +kernel
theorem dX11_tome_67 : decode cX11_tome 67 = .ok (.invokevirtual 147, 3) := by decide +kernel
theorem dX11_tome_70 : decode cX11_tome 70 = .ok (.ireturn, 1) := by decide +kernel
theorem dX11_tome_71 : decode cX11_tome 71 = .ok (.aload_n 0, 1) := by decide +kernel
theorem dX11_tome_72 : decode cX11_tome 72 = .ok (.getfield 65, 3) := by decide +kernel
theorem dX11_tome_75 : decode cX11_tome 75 = .ok (.iload_n 1, 1) := by decide +kernel
theorem dX11_tome_76 : decode cX11_tome 76 = .ok (.invokevirtual 150, 3) := by decide +kernel
theorem dX11_tome_79 : decode cX11_tome 79 = .ok (.ifCond .eq 7, 3) := by decide +kernel
theorem dX11_tome_82 : decode cX11_tome 82 = .ok (.iconst 1, 1) := by decide +kernel
theorem dX11_tome_83 : decode cX11_tome 83 = .ok (.goto 4, 3) := by decide +kernel
theorem dX11_tome_86 : decode cX11_tome 86 = .ok (.iconst 0, 1) := by decide +kernel
theorem dX11_tome_87 : decode cX11_tome 87 = .ok (.ireturn, 1) := by decide +kernel
theorem dX11_tome_88 : decode cX11_tome 88 = .ok (.iconst (-1), 1) := by decide +kernel
theorem dX11_tome_89 : decode cX11_tome 89 = .ok (.ireturn, 1) := by decide +kernel
def X11_tome (x1 : Int32) (x2 : Int32) (h : Mm) : Option Int32 := (bp (X1_hasBook 13 x1 h) (fun r11 => (if r11 = true then (if x2 = 0 then (bp (X1_pagesOf 13 x1 h) (fun r13 => (some r13))) else (if x2 = 1 then (bp (X1_calmingOf 13 x1 h) (fun r15 => (some r15))) else (if x2 = 2 then (bp (X1_kindOf 13 x1 h) (fun r17 => (some r17))) else (if x2 = 3 then (bp (X0_wasRead 27 x1 h) (fun r19 => (if r19 = true then (some (1 : Int32)) else (some (0 : Int32))))) else (some (-1 : Int32)))))) else (some (-1 : Int32)))))
set_option maxRecDepth 100000 in
set_option maxHeartbeats 4000000 in
theorem s_X11_tome {X : WX} {o : Mm} {x1 : Int32} {x2 : Int32} {rv : Int32} {h : Mm} (hF : X11_tome x1 x2 h = some rv) : Sat X yX11_tome cX11_tome 3 (some .int) 4 [.ref (xa X 0), .int x1, .int x2] true o h (some (.int rv)) h := by
  unfold X11_tome at hF
  refine Sat.mk (own := RX11) rfl (by decide +kernel) (Nat.le_of_ble_eq_true rfl) (fun G => ?_)
  refine V.sub (lv2 := [(0, _), (1, _), (2, _)]) [0, 1, 2] rfl ?_
  refine V.aload_n 0 dX11_tome_0 rfl rfl ?_
  refine V.getR (v := 13) fl_X11_42 sh_0 rfl fx_0_4 (by decide) dX11_tome_1 ?_
  refine V.iload_n 1 dX11_tome_4 rfl rfl ?_
  obtain ⟨r11, hc12, hF⟩ := bp_s hF
  refine V.callVi mf_X1_hasBook ml_X11_137 sh_13 (s_X1_hasBook (Or.inr rfl) hc12) (by decide) rfl rfl (Nat.le_of_ble_eq_true rfl) dX11_tome_5 ?_
  refine V.ifz_ne (tgt := 13) dX11_tome_8 rfl (fun c => ?_) (fun c => ?_)
  · replace hF := ip c hF
    refine V.iload_n 2 dX11_tome_13 rfl rfl ?_
    by_cases c0 : x2 = 0
    · replace hF := ip c0 hF
      refine V.tswIn (tgt := 44) c0 dX11_tome_14 (by decide) (by decide) rfl rfl ?_
      refine V.aload_n 0 dX11_tome_44 rfl rfl ?_
      refine V.getR (v := 13) fl_X11_42 sh_0 rfl fx_0_4 (by decide) dX11_tome_45 ?_
      refine V.iload_n 1 dX11_tome_48 rfl rfl ?_
      obtain ⟨r13, hc14, hF⟩ := bp_s hF
      refine V.callVi mf_X1_pagesOf ml_X11_140 sh_13 (s_X1_pagesOf (Or.inr rfl) hc14) (by decide) rfl rfl (Nat.le_of_ble_eq_true rfl) dX11_tome_49 ?_
      cases hF
      exact V.iret dX11_tome_52
    replace hF := iq c0 hF
    by_cases c1 : x2 = 1
    · replace hF := ip c1 hF
      refine V.tswIn (tgt := 53) c1 dX11_tome_14 (by decide) (by decide) rfl rfl ?_
      refine V.aload_n 0 dX11_tome_53 rfl rfl ?_
      refine V.getR (v := 13) fl_X11_42 sh_0 rfl fx_0_4 (by decide) dX11_tome_54 ?_
      refine V.iload_n 1 dX11_tome_57 rfl rfl ?_
      obtain ⟨r15, hc16, hF⟩ := bp_s hF
      refine V.callVi mf_X1_calmingOf ml_X11_144 sh_13 (s_X1_calmingOf (Or.inr rfl) hc16) (by decide) rfl rfl (Nat.le_of_ble_eq_true rfl) dX11_tome_58 ?_
      cases hF
      exact V.iret dX11_tome_61
    replace hF := iq c1 hF
    by_cases c2 : x2 = 2
    · replace hF := ip c2 hF
      refine V.tswIn (tgt := 62) c2 dX11_tome_14 (by decide) (by decide) rfl rfl ?_
      refine V.aload_n 0 dX11_tome_62 rfl rfl ?_
      refine V.getR (v := 13) fl_X11_42 sh_0 rfl fx_0_4 (by decide) dX11_tome_63 ?_
      refine V.iload_n 1 dX11_tome_66 rfl rfl ?_
      obtain ⟨r17, hc18, hF⟩ := bp_s hF
      refine V.callVi mf_X1_kindOf ml_X11_147 sh_13 (s_X1_kindOf (Or.inr rfl) hc18) (by decide) rfl rfl (Nat.le_of_ble_eq_true rfl) dX11_tome_67 ?_
      cases hF
      exact V.iret dX11_tome_70
    replace hF := iq c2 hF
    by_cases c3 : x2 = 3
    · replace hF := ip c3 hF
      refine V.tswIn (tgt := 71) c3 dX11_tome_14 (by decide) (by decide) rfl rfl ?_
      refine V.aload_n 0 dX11_tome_71 rfl rfl ?_
      refine V.getR (v := 27) fl_X11_65 sh_0 rfl fx_0_7 (by decide) dX11_tome_72 ?_
      refine V.iload_n 1 dX11_tome_75 rfl rfl ?_
      obtain ⟨r19, hc20, hF⟩ := bp_s hF
      refine V.callVi mf_X0_wasRead ml_X11_150 sh_27 (s_X0_wasRead isb_27 hc20) (by decide) rfl rfl (Nat.le_of_ble_eq_true rfl) dX11_tome_76 ?_
      refine V.ifz_eq (tgt := 86) dX11_tome_79 rfl (fun c => ?_) (fun c => ?_)
      · replace hF := iq c hF
        refine V.iconst (v := 0) dX11_tome_86 rfl ?_
        cases hF
        exact V.iret dX11_tome_87
      · replace hF := ip c hF
        refine V.iconst (v := 1) dX11_tome_82 rfl ?_
        refine V.goto (tgt := 87) dX11_tome_83 rfl ?_
        cases hF
        exact V.iret dX11_tome_87
    replace hF := iq c3 hF
    refine V.tswOut (tgt := 88) dX11_tome_14 (tsw_out (by decide) (by decide) [0, 1, 2, 3] rfl (fun v hv => ?_)) rfl ?_
    · simp only [List.mem_cons, List.not_mem_nil, or_false] at hv
      rcases hv with rfl | rfl | rfl | rfl <;> assumption
    refine V.iconst (v := -1) dX11_tome_88 rfl ?_
    cases hF
    exact V.iret dX11_tome_89
  · replace hF := iq c hF
    refine V.iconst (v := -1) dX11_tome_11 rfl ?_
    cases hF
    exact V.iret dX11_tome_12
/-! MonsterCot.isKind -/
theorem dX11_isKind_0 : decode cX11_isKind 0 = .ok (.iload_n 0, 1) := by decide +kernel
theorem dX11_isKind_1 : decode cX11_isKind 1 = .ok (.ifCond .lt 12, 3) := by decide +kernel
theorem dX11_isKind_4 : decode cX11_isKind 4 = .ok (.iload_n 0, 1) := by decide +kernel
theorem dX11_isKind_5 : decode cX11_isKind 5 = .ok (.iconst 4, 1) := by decide +kernel
theorem dX11_isKind_6 : decode cX11_isKind 6 = .ok (.if_icmp .ge 7, 3) := by decide +kernel
theorem dX11_isKind_9 : decode cX11_isKind 9 = .ok (.iconst 1, 1) := by decide +kernel
theorem dX11_isKind_10 : decode cX11_isKind 10 = .ok (.goto 4, 3) := by decide +kernel
theorem dX11_isKind_13 : decode cX11_isKind 13 = .ok (.iconst 0, 1) := by decide +kernel
theorem dX11_isKind_14 : decode cX11_isKind 14 = .ok (.ireturn, 1) := by decide +kernel
def X11_isKind (x0 : Int32) (h : Mm) : Option Bool := (if x0 < 0 then (some false) else (if (4 : Int32) ≤ x0 then (some false) else (some true)))
set_option maxRecDepth 100000 in
set_option maxHeartbeats 4000000 in
theorem s_X11_isKind {X : WX} {o : Mm} {x0 : Int32} {rv : Bool} {h : Mm} (hF : X11_isKind x0 h = some rv) : Sat X yX11_isKind cX11_isKind 1 (some .boolean) 1 [.int x0] true o h (some (.int (b2i rv))) h := by
  unfold X11_isKind at hF
  refine Sat.mk (own := RX11) rfl (by decide +kernel) (Nat.le_of_ble_eq_true rfl) (fun G => ?_)
  refine V.sub (lv2 := [(0, _)]) [0] rfl ?_
  refine V.iload_n 0 dX11_isKind_0 rfl rfl ?_
  refine V.if_lt (tgt := 13) dX11_isKind_1 rfl (fun c => ?_) (fun c => ?_)
  · replace hF := ip c hF
    refine V.iconst (v := 0) dX11_isKind_13 rfl ?_
    cases hF
    exact V.bret dX11_isKind_14
  · replace hF := iq c hF
    refine V.iload_n 0 dX11_isKind_4 rfl rfl ?_
    refine V.iconst (v := 4) dX11_isKind_5 rfl ?_
    refine V.icmp_ge (tgt := 13) dX11_isKind_6 rfl (fun c => ?_) (fun c => ?_)
    · replace hF := ip c hF
      refine V.iconst (v := 0) dX11_isKind_13 rfl ?_
      cases hF
      exact V.bret dX11_isKind_14
    · replace hF := iq c hF
      refine V.iconst (v := 1) dX11_isKind_9 rfl ?_
      refine V.goto (tgt := 14) dX11_isKind_10 rfl ?_
      cases hF
      exact V.bret dX11_isKind_14
/-! MonsterCot.bored -/
theorem dX11_bored_0 : decode cX11_bored 0 = .ok (.aload_n 0, 1) := by decide +kernel
theorem dX11_bored_1 : decode cX11_bored 1 = .ok (.getfield 42, 3) := by decide +kernel
theorem dX11_bored_4 : decode cX11_bored 4 = .ok (.invokevirtual 124, 3) := by decide +kernel
theorem dX11_bored_7 : decode cX11_bored 7 = .ok (.ifCond .eq 24, 3) := by decide +kernel
theorem dX11_bored_10 : decode cX11_bored 10 = .ok (.iload_n 1, 1) := by decide +kernel
theorem dX11_bored_11 : decode cX11_bored 11 = .ok (.invokestatic 183, 3) := by decide +kernel
theorem dX11_bored_14 : decode cX11_bored 14 = .ok (.ifCond .eq 17, 3) := by decide +kernel
theorem dX11_bored_17 : decode cX11_bored 17 = .ok (.aload_n 0, 1) := by decide +kernel
theorem dX11_bored_18 : decode cX11_bored 18 = .ok (.getfield 65, 3) := by decide +kernel
theorem dX11_bored_21 : decode cX11_bored 21 = .ok (.getfield 186, 3) := by decide +kernel
theorem dX11_bored_24 : decode cX11_bored 24 = .ok (.iload_n 1, 1) := by decide +kernel
theorem dX11_bored_25 : decode cX11_bored 25 = .ok (.invokestatic 173, 3) := by decide +kernel
theorem dX11_bored_28 : decode cX11_bored 28 = .ok (.goto 4, 3) := by decide +kernel
theorem dX11_bored_31 : decode cX11_bored 31 = .ok (.iconst (-1), 1) := by decide +kernel
theorem dX11_bored_32 : decode cX11_bored 32 = .ok (.ireturn, 1) := by decide +kernel
def X11_bored (x1 : Int32) (h : Mm) : Option Int32 := (bp (X1_stands 13 h) (fun r7 => (if r7 = true then (bp (X11_isKind x1 h) (fun r9 => (if r9 = true then (bp (X11_at 28 x1 h) (fun r11 => (some r11))) else (some (-1 : Int32))))) else (some (-1 : Int32)))))
set_option maxRecDepth 100000 in
set_option maxHeartbeats 4000000 in
theorem s_X11_bored {X : WX} {o : Mm} {x1 : Int32} {rv : Int32} {h : Mm} (hF : X11_bored x1 h = some rv) : Sat X yX11_bored cX11_bored 2 (some .int) 4 [.ref (xa X 0), .int x1] true o h (some (.int rv)) h := by
  unfold X11_bored at hF
  refine Sat.mk (own := RX11) rfl (by decide +kernel) (Nat.le_of_ble_eq_true rfl) (fun G => ?_)
  refine V.sub (lv2 := [(0, _), (1, _)]) [0, 1] rfl ?_
  refine V.aload_n 0 dX11_bored_0 rfl rfl ?_
  refine V.getR (v := 13) fl_X11_42 sh_0 rfl fx_0_4 (by decide) dX11_bored_1 ?_
  obtain ⟨r7, hc8, hF⟩ := bp_s hF
  refine V.callVi mf_X1_stands ml_X11_124 sh_13 (s_X1_stands (Or.inr rfl) hc8) (by decide) rfl rfl (Nat.le_of_ble_eq_true rfl) dX11_bored_4 ?_
  refine V.ifz_eq (tgt := 31) dX11_bored_7 rfl (fun c => ?_) (fun c => ?_)
  · replace hF := iq c hF
    refine V.iconst (v := -1) dX11_bored_31 rfl ?_
    cases hF
    exact V.iret dX11_bored_32
  · replace hF := ip c hF
    refine V.iload_n 1 dX11_bored_10 rfl rfl ?_
    obtain ⟨r9, hc10, hF⟩ := bp_s hF
    refine V.callSi mf_X11_isKind ml_X11_183 (s_X11_isKind hc10) (by decide) rfl rfl (Nat.le_of_ble_eq_true rfl) dX11_bored_11 ?_
    refine V.ifz_eq (tgt := 31) dX11_bored_14 rfl (fun c => ?_) (fun c => ?_)
    · replace hF := iq c hF
      refine V.iconst (v := -1) dX11_bored_31 rfl ?_
      cases hF
      exact V.iret dX11_bored_32
    · replace hF := ip c hF
      refine V.aload_n 0 dX11_bored_17 rfl rfl ?_
      refine V.getR (v := 27) fl_X11_65 sh_0 rfl fx_0_7 (by decide) dX11_bored_18 ?_
      refine V.getR (v := 28) fl_X11_186 sh_27 rfl fx_27_0 (by decide) dX11_bored_21 ?_
      refine V.iload_n 1 dX11_bored_24 rfl rfl ?_
      obtain ⟨r11, hc12, hF⟩ := bp_s hF
      refine V.callSi mf_X11_at ml_X11_173 (s_X11_at (Or.inl io_28) hc12) (by decide) rfl rfl (Nat.le_of_ble_eq_true rfl) dX11_bored_25 ?_
      refine V.goto (tgt := 32) dX11_bored_28 rfl ?_
      cases hF
      exact V.iret dX11_bored_32
/-! MonsterCot$Laws.hold -/
theorem dX4_hold_0 : decode cX4_hold 0 = .ok (.iload_n 1, 1) := by decide +kernel
theorem dX4_hold_1 : decode cX4_hold 1 = .ok (.iconst (-1), 1) := by decide +kernel
theorem dX4_hold_2 : decode cX4_hold 2 = .ok (.if_icmp .lt 11, 3) := by decide +kernel
theorem dX4_hold_5 : decode cX4_hold 5 = .ok (.iload_n 1, 1) := by decide +kernel
theorem dX4_hold_6 : decode cX4_hold 6 = .ok (.aload_n 0, 1) := by decide +kernel
theorem dX4_hold_7 : decode cX4_hold 7 = .ok (.getfield 34, 3) := by decide +kernel
theorem dX4_hold_10 : decode cX4_hold 10 = .ok (.if_icmp .lt 5, 3) := by decide +kernel
theorem dX4_hold_13 : decode cX4_hold 13 = .ok (.iconst 0, 1) := by decide +kernel
theorem dX4_hold_14 : decode cX4_hold 14 = .ok (.ireturn, 1) := by decide +kernel
theorem dX4_hold_15 : decode cX4_hold 15 = .ok (.aload_n 0, 1) := by decide +kernel
theorem dX4_hold_16 : decode cX4_hold 16 = .ok (.iload_n 1, 1) := by decide +kernel
theorem dX4_hold_17 : decode cX4_hold 17 = .ok (.putfield 30, 3) := by decide +kernel
theorem dX4_hold_20 : decode cX4_hold 20 = .ok (.iconst 1, 1) := by decide +kernel
theorem dX4_hold_21 : decode cX4_hold 21 = .ok (.ireturn, 1) := by decide +kernel
def X4_hold (x1 : Int32) (h : Mm) : Option (Bool × Mm) := (if x1 < (-1 : Int32) then (some (false, h)) else (if x1 < (h.1 16 5) then (some (true, (wI h 16 6 x1))) else (some (false, h))))
set_option maxRecDepth 100000 in
set_option maxHeartbeats 4000000 in
theorem s_X4_hold {X : WX} {o : Mm} {x1 : Int32} {rv : Bool} {hz : Mm} {h : Mm} (hF : X4_hold x1 h = some (rv, hz)) : Sat X yX4_hold cX4_hold 2 (some .boolean) 1 [.ref (xa X 16), .int x1] true o h (some (.int (b2i rv))) hz := by
  unfold X4_hold at hF
  refine Sat.mk (own := RX4) rfl (by decide +kernel) (Nat.le_of_ble_eq_true rfl) (fun G => ?_)
  refine V.sub (lv2 := [(0, _), (1, _)]) [0, 1] rfl ?_
  refine V.iload_n 1 dX4_hold_0 rfl rfl ?_
  refine V.iconst (v := -1) dX4_hold_1 rfl ?_
  refine V.icmp_lt (tgt := 13) dX4_hold_2 rfl (fun c => ?_) (fun c => ?_)
  · replace hF := ip c hF
    refine V.iconst (v := 0) dX4_hold_13 rfl ?_
    cases hF
    exact V.bret dX4_hold_14
  · replace hF := iq c hF
    refine V.iload_n 1 dX4_hold_5 rfl rfl ?_
    refine V.aload_n 0 dX4_hold_6 rfl rfl ?_
    refine V.getI fl_X4_34 sh_16 rfl km_16 dX4_hold_7 ?_
    refine V.icmp_lt (tgt := 15) dX4_hold_10 rfl (fun c => ?_) (fun c => ?_)
    · replace hF := ip c hF
      refine V.aload_n 0 dX4_hold_15 rfl rfl ?_
      refine V.iload_n 1 dX4_hold_16 rfl rfl ?_
      refine V.putI fl_X4_30 rfl (tyX4_ok 6 (by decide)) rfl rfl sh_16 rfl km_16 dX4_hold_17 ?_
      refine V.iconst (v := 1) dX4_hold_20 rfl ?_
      cases hF
      exact V.bret dX4_hold_21
    · replace hF := iq c hF
      refine V.iconst (v := 0) dX4_hold_13 rfl ?_
      cases hF
      exact V.bret dX4_hold_14
/-! MonsterCot.law -/
theorem dX11_law_0 : decode cX11_law 0 = .ok (.aload_n 0, 1) := by decide +kernel
theorem dX11_law_1 : decode cX11_law 1 = .ok (.getfield 49, 3) := by decide +kernel
theorem dX11_law_4 : decode cX11_law 4 = .ok (.iload_n 1, 1) := by decide +kernel
theorem dX11_law_5 : decode cX11_law 5 = .ok (.invokevirtual 189, 3) := by decide +kernel
theorem dX11_law_8 : decode cX11_law 8 = .ok (.ireturn, 1) := by decide +kernel
def X11_law (x1 : Int32) (h : Mm) : Option (Bool × Mm) := (bd (X4_hold x1 h) (fun r4 h6 => (some (r4, h6))))
set_option maxRecDepth 100000 in
set_option maxHeartbeats 4000000 in
theorem s_X11_law {X : WX} {o : Mm} {x1 : Int32} {rv : Bool} {hz : Mm} {h : Mm} (hF : X11_law x1 h = some (rv, hz)) : Sat X yX11_law cX11_law 2 (some .boolean) 2 [.ref (xa X 0), .int x1] true o h (some (.int (b2i rv))) hz := by
  unfold X11_law at hF
  refine Sat.mk (own := RX11) rfl (by decide +kernel) (Nat.le_of_ble_eq_true rfl) (fun G => ?_)
  refine V.sub (lv2 := [(0, _), (1, _)]) [0, 1] rfl ?_
  refine V.aload_n 0 dX11_law_0 rfl rfl ?_
  refine V.getR (v := 16) fl_X11_49 sh_0 rfl fx_0_5 (by decide) dX11_law_1 ?_
  refine V.iload_n 1 dX11_law_4 rfl rfl ?_
  obtain ⟨r4, h6, hc5, hF⟩ := bd_s hF
  refine V.callVi mf_X4_hold ml_X11_189 sh_16 (s_X4_hold hc5) (by decide) rfl rfl (Nat.le_of_ble_eq_true rfl) dX11_law_5 ?_
  cases hF
  exact V.bret dX11_law_8
/-! MonsterCot.hush -/
theorem dX11_hush_0 : decode cX11_hush 0 = .ok (.iload_n 1, 1) := by decide +kernel
theorem dX11_hush_1 : decode cX11_hush 1 = .ok (.ifCond .lt 17, 3) := by decide +kernel
theorem dX11_hush_4 : decode cX11_hush 4 = .ok (.iload_n 1, 1) := by decide +kernel
theorem dX11_hush_5 : decode cX11_hush 5 = .ok (.bipush 9, 2) := by decide +kernel
theorem dX11_hush_7 : decode cX11_hush 7 = .ok (.if_icmp .gt 11, 3) := by decide +kernel
theorem dX11_hush_10 : decode cX11_hush 10 = .ok (.iload_n 1, 1) := by decide +kernel
theorem dX11_hush_11 : decode cX11_hush 11 = .ok (.aload_n 0, 1) := by decide +kernel
theorem dX11_hush_12 : decode cX11_hush 12 = .ok (.getfield 192, 3) := by decide +kernel
theorem dX11_hush_15 : decode cX11_hush 15 = .ok (.if_icmp .ne 5, 3) := by decide +kernel
theorem dX11_hush_18 : decode cX11_hush 18 = .ok (.iconst 0, 1) := by decide +kernel
theorem dX11_hush_19 : decode cX11_hush 19 = .ok (.ireturn, 1) := by decide +kernel
theorem dX11_hush_20 : decode cX11_hush 20 = .ok (.aload_n 0, 1) := by decide +kernel
theorem dX11_hush_21 : decode cX11_hush 21 = .ok (.iload_n 1, 1) := by decide +kernel
theorem dX11_hush_22 : decode cX11_hush 22 = .ok (.putfield 192, 3) := by decide +kernel
theorem dX11_hush_25 : decode cX11_hush 25 = .ok (.iconst 1, 1) := by decide +kernel
theorem dX11_hush_26 : decode cX11_hush 26 = .ok (.ireturn, 1) := by decide +kernel
def X11_hush (x1 : Int32) (h : Mm) : Option (Bool × Mm) := (if x1 < 0 then (some (false, h)) else (if (9 : Int32) < x1 then (some (false, h)) else (if x1 = (h.1 0 12) then (some (false, h)) else (some (true, (wI h 0 12 x1))))))
set_option maxRecDepth 100000 in
set_option maxHeartbeats 4000000 in
theorem s_X11_hush {X : WX} {o : Mm} {x1 : Int32} {rv : Bool} {hz : Mm} {h : Mm} (hF : X11_hush x1 h = some (rv, hz)) : Sat X yX11_hush cX11_hush 2 (some .boolean) 1 [.ref (xa X 0), .int x1] true o h (some (.int (b2i rv))) hz := by
  unfold X11_hush at hF
  refine Sat.mk (own := RX11) rfl (by decide +kernel) (Nat.le_of_ble_eq_true rfl) (fun G => ?_)
  refine V.sub (lv2 := [(0, _), (1, _)]) [0, 1] rfl ?_
  refine V.iload_n 1 dX11_hush_0 rfl rfl ?_
  refine V.if_lt (tgt := 18) dX11_hush_1 rfl (fun c => ?_) (fun c => ?_)
  · replace hF := ip c hF
    refine V.iconst (v := 0) dX11_hush_18 rfl ?_
    cases hF
    exact V.bret dX11_hush_19
  · replace hF := iq c hF
    refine V.iload_n 1 dX11_hush_4 rfl rfl ?_
    refine V.bipush (v := 9) dX11_hush_5 (by decide) ?_
    refine V.icmp_gt (tgt := 18) dX11_hush_7 rfl (fun c => ?_) (fun c => ?_)
    · replace hF := ip c hF
      refine V.iconst (v := 0) dX11_hush_18 rfl ?_
      cases hF
      exact V.bret dX11_hush_19
    · replace hF := iq c hF
      refine V.iload_n 1 dX11_hush_10 rfl rfl ?_
      refine V.aload_n 0 dX11_hush_11 rfl rfl ?_
      refine V.getI fl_X11_192 sh_0 rfl km_0 dX11_hush_12 ?_
      refine V.icmp_ne (tgt := 20) dX11_hush_15 rfl (fun c => ?_) (fun c => ?_)
      · replace hF := iq c hF
        refine V.aload_n 0 dX11_hush_20 rfl rfl ?_
        refine V.iload_n 1 dX11_hush_21 rfl rfl ?_
        refine V.putI fl_X11_192 rfl (tyX11_ok 12 (by decide)) rfl rfl sh_0 rfl km_0 dX11_hush_22 ?_
        refine V.iconst (v := 1) dX11_hush_25 rfl ?_
        cases hF
        exact V.bret dX11_hush_26
      · replace hF := ip c hF
        refine V.iconst (v := 0) dX11_hush_18 rfl ?_
        cases hF
        exact V.bret dX11_hush_19
/-! MonsterCot$Ways.hasPages -/
theorem dX9_hasPages_0 : decode cX9_hasPages 0 = .ok (.aload_n 0, 1) := by decide +kernel
theorem dX9_hasPages_1 : decode cX9_hasPages 1 = .ok (.getfield 9, 3) := by decide +kernel
theorem dX9_hasPages_4 : decode cX9_hasPages 4 = .ok (.iload_n 1, 1) := by decide +kernel
theorem dX9_hasPages_5 : decode cX9_hasPages 5 = .ok (.invokevirtual 19, 3) := by decide +kernel
theorem dX9_hasPages_8 : decode cX9_hasPages 8 = .ok (.ifCond .eq 24, 3) := by decide +kernel
theorem dX9_hasPages_11 : decode cX9_hasPages 11 = .ok (.iload_n 2, 1) := by decide +kernel
theorem dX9_hasPages_12 : decode cX9_hasPages 12 = .ok (.iconst 1, 1) := by decide +kernel
theorem dX9_hasPages_13 : decode cX9_hasPages 13 = .ok (.if_icmp .lt 19, 3) := by decide +kernel
theorem dX9_hasPages_16 : decode cX9_hasPages 16 = .ok (.iload_n 2, 1) := by decide +kernel
theorem dX9_hasPages_17 : decode cX9_hasPages 17 = .ok (.aload_n 0, 1) := by decide +kernel
theorem dX9_hasPages_18 : decode cX9_hasPages 18 = .ok (.getfield 9, 3) := by decide +kernel
theorem dX9_hasPages_21 : decode cX9_hasPages 21 = .ok (.iload_n 1, 1) := by decide +kernel
theorem dX9_hasPages_22 : decode cX9_hasPages 22 = .ok (.invokevirtual 25, 3) := by decide +kernel
theorem dX9_hasPages_25 : decode cX9_hasPages 25 = .ok (.if_icmp .gt 7, 3) := by decide +kernel
theorem dX9_hasPages_28 : decode cX9_hasPages 28 = .ok (.iconst 1, 1) := by decide +kernel
theorem dX9_hasPages_29 : decode cX9_hasPages 29 = .ok (.goto 4, 3) := by decide +kernel
theorem dX9_hasPages_32 : decode cX9_hasPages 32 = .ok (.iconst 0, 1) := by decide +kernel
theorem dX9_hasPages_33 : decode cX9_hasPages 33 = .ok (.ireturn, 1) := by decide +kernel
def X9_hasPages (x1 : Int32) (x2 : Int32) (h : Mm) : Option Bool := (bp (X1_hasBook 13 x1 h) (fun r5 => (if r5 = true then (if x2 < (1 : Int32) then (some false) else (bp (X1_pagesOf 13 x1 h) (fun r7 => (if r7 < x2 then (some false) else (some true))))) else (some false))))
set_option maxRecDepth 100000 in
set_option maxHeartbeats 4000000 in
theorem s_X9_hasPages {X : WX} {o : Mm} {x1 : Int32} {x2 : Int32} {rv : Bool} {h : Mm} (hF : X9_hasPages x1 x2 h = some rv) : Sat X yX9_hasPages cX9_hasPages 3 (some .boolean) 4 [.ref (xa X 26), .int x1, .int x2] true o h (some (.int (b2i rv))) h := by
  unfold X9_hasPages at hF
  refine Sat.mk (own := RX9) rfl (by decide +kernel) (Nat.le_of_ble_eq_true rfl) (fun G => ?_)
  refine V.sub (lv2 := [(0, _), (1, _), (2, _)]) [0, 1, 2] rfl ?_
  refine V.aload_n 0 dX9_hasPages_0 rfl rfl ?_
  refine V.getR (v := 13) fl_X9_9 sh_26 rfl fx_26_0 (by decide) dX9_hasPages_1 ?_
  refine V.iload_n 1 dX9_hasPages_4 rfl rfl ?_
  obtain ⟨r5, hc6, hF⟩ := bp_s hF
  refine V.callVi mf_X1_hasBook ml_X9_19 sh_13 (s_X1_hasBook (Or.inr rfl) hc6) (by decide) rfl rfl (Nat.le_of_ble_eq_true rfl) dX9_hasPages_5 ?_
  refine V.ifz_eq (tgt := 32) dX9_hasPages_8 rfl (fun c => ?_) (fun c => ?_)
  · replace hF := iq c hF
    refine V.iconst (v := 0) dX9_hasPages_32 rfl ?_
    cases hF
    exact V.bret dX9_hasPages_33
  · replace hF := ip c hF
    refine V.iload_n 2 dX9_hasPages_11 rfl rfl ?_
    refine V.iconst (v := 1) dX9_hasPages_12 rfl ?_
    refine V.icmp_lt (tgt := 32) dX9_hasPages_13 rfl (fun c => ?_) (fun c => ?_)
    · replace hF := ip c hF
      refine V.iconst (v := 0) dX9_hasPages_32 rfl ?_
      cases hF
      exact V.bret dX9_hasPages_33
    · replace hF := iq c hF
      refine V.iload_n 2 dX9_hasPages_16 rfl rfl ?_
      refine V.aload_n 0 dX9_hasPages_17 rfl rfl ?_
      refine V.getR (v := 13) fl_X9_9 sh_26 rfl fx_26_0 (by decide) dX9_hasPages_18 ?_
      refine V.iload_n 1 dX9_hasPages_21 rfl rfl ?_
      obtain ⟨r7, hc8, hF⟩ := bp_s hF
      refine V.callVi mf_X1_pagesOf ml_X9_25 sh_13 (s_X1_pagesOf (Or.inr rfl) hc8) (by decide) rfl rfl (Nat.le_of_ble_eq_true rfl) dX9_hasPages_22 ?_
      refine V.icmp_gt (tgt := 32) dX9_hasPages_25 rfl (fun c => ?_) (fun c => ?_)
      · replace hF := ip c hF
        refine V.iconst (v := 0) dX9_hasPages_32 rfl ?_
        cases hF
        exact V.bret dX9_hasPages_33
      · replace hF := iq c hF
        refine V.iconst (v := 1) dX9_hasPages_28 rfl ?_
        refine V.goto (tgt := 33) dX9_hasPages_29 rfl ?_
        cases hF
        exact V.bret dX9_hasPages_33
/-! MonsterCot$Land.strengthOf -/
theorem dX1_strengthOf_0 : decode cX1_strengthOf 0 = .ok (.aload_n 0, 1) := by decide +kernel
theorem dX1_strengthOf_1 : decode cX1_strengthOf 1 = .ok (.iconst 2, 1) := by decide +kernel
theorem dX1_strengthOf_2 : decode cX1_strengthOf 2 = .ok (.iload_n 1, 1) := by decide +kernel
theorem dX1_strengthOf_3 : decode cX1_strengthOf 3 = .ok (.iconst 1, 1) := by decide +kernel
theorem dX1_strengthOf_4 : decode cX1_strengthOf 4 = .ok (.invokevirtual 60, 3) := by decide +kernel
theorem dX1_strengthOf_7 : decode cX1_strengthOf 7 = .ok (.ireturn, 1) := by decide +kernel
def X1_strengthOf (a0 : Nat) (x1 : Int32) (h : Mm) : Option Int32 := (bp (X1_told a0 (2 : Int32) x1 (1 : Int32) h) (fun r3 => (some r3)))
set_option maxRecDepth 100000 in
set_option maxHeartbeats 4000000 in
theorem s_X1_strengthOf {X : WX} {o : Mm} {a0 : Nat} {x1 : Int32} {rv : Int32} {h : Mm} (ha0 : isLd a0) (hF : X1_strengthOf a0 x1 h = some rv) : Sat X yX1_strengthOf cX1_strengthOf 2 (some .int) 3 [.ref (xa X a0), .int x1] true o h (some (.int rv)) h := by
  unfold X1_strengthOf at hF
  refine Sat.mk (own := RX1) rfl (by decide +kernel) (Nat.le_of_ble_eq_true rfl) (fun G => ?_)
  refine V.sub (lv2 := [(0, _), (1, _)]) [0, 1] rfl ?_
  refine V.aload_n 0 dX1_strengthOf_0 rfl rfl ?_
  refine V.iconst (v := 2) dX1_strengthOf_1 rfl ?_
  refine V.iload_n 1 dX1_strengthOf_2 rfl rfl ?_
  refine V.iconst (v := 1) dX1_strengthOf_3 rfl ?_
  obtain ⟨r3, hc4, hF⟩ := bp_s hF
  refine V.callVi mf_X1_told ml_X1_60 ha0.sh (s_X1_told ha0 hc4) (by decide) rfl rfl (Nat.le_of_ble_eq_true rfl) dX1_strengthOf_4 ?_
  cases hF
  exact V.iret dX1_strengthOf_7
/-! MonsterCot$Ways.leftOf -/
theorem dX9_leftOf_0 : decode cX9_leftOf 0 = .ok (.aload_n 0, 1) := by decide +kernel
theorem dX9_leftOf_1 : decode cX9_leftOf 1 = .ok (.getfield 9, 3) := by decide +kernel
theorem dX9_leftOf_4 : decode cX9_leftOf 4 = .ok (.iload_n 2, 1) := by decide +kernel
theorem dX9_leftOf_5 : decode cX9_leftOf 5 = .ok (.invokevirtual 29, 3) := by decide +kernel
theorem dX9_leftOf_8 : decode cX9_leftOf 8 = .ok (.aload_n 1, 1) := by decide +kernel
theorem dX9_leftOf_9 : decode cX9_leftOf 9 = .ok (.getfield 32, 3) := by decide +kernel
theorem dX9_leftOf_12 : decode cX9_leftOf 12 = .ok (.iload_n 2, 1) := by decide +kernel
theorem dX9_leftOf_13 : decode cX9_leftOf 13 = .ok (.invokestatic 38, 3) := by decide +kernel
theorem dX9_leftOf_16 : decode cX9_leftOf 16 = .ok (.isub, 1) := by decide +kernel
theorem dX9_leftOf_17 : decode cX9_leftOf 17 = .ok (.ireturn, 1) := by decide +kernel
def X9_leftOf (a1 : Nat) (x2 : Int32) (h : Mm) : Option Int32 := (bp (X1_strengthOf 13 x2 h) (fun r5 => (bp (X11_at (a1 + 2) x2 h) (fun r7 => (some (r5 - r7))))))
set_option maxRecDepth 100000 in
set_option maxHeartbeats 4000000 in
theorem s_X9_leftOf {X : WX} {o : Mm} {a1 : Nat} {x2 : Int32} {rv : Int32} {h : Mm} (ha1 : isBed a1) (hF : X9_leftOf a1 x2 h = some rv) : Sat X yX9_leftOf cX9_leftOf 3 (some .int) 4 [.ref (xa X 26), .ref (xa X a1), .int x2] true o h (some (.int rv)) h := by
  unfold X9_leftOf at hF
  refine Sat.mk (own := RX9) rfl (by decide +kernel) (Nat.le_of_ble_eq_true rfl) (fun G => ?_)
  refine V.sub (lv2 := [(0, _), (1, _), (2, _)]) [0, 1, 2] rfl ?_
  refine V.aload_n 0 dX9_leftOf_0 rfl rfl ?_
  refine V.getR (v := 13) fl_X9_9 sh_26 rfl fx_26_0 (by decide) dX9_leftOf_1 ?_
  refine V.iload_n 2 dX9_leftOf_4 rfl rfl ?_
  obtain ⟨r5, hc6, hF⟩ := bp_s hF
  refine V.callVi mf_X1_strengthOf ml_X9_29 sh_13 (s_X1_strengthOf (Or.inr rfl) hc6) (by decide) rfl rfl (Nat.le_of_ble_eq_true rfl) dX9_leftOf_5 ?_
  refine V.aload_n 1 dX9_leftOf_8 rfl rfl ?_
  refine V.getR (v := a1 + 2) fl_X9_32 ha1.sh rfl ha1.fx1 (by have := ha1.lt; omega) dX9_leftOf_9 ?_
  refine V.iload_n 2 dX9_leftOf_12 rfl rfl ?_
  obtain ⟨r7, hc8, hF⟩ := bp_s hF
  refine V.callNi mf_X11_at ml_X9_38 (s_X11_at (Or.inl ha1.a1) hc8) (by decide) rfl rfl (Nat.le_of_ble_eq_true rfl) dX9_leftOf_13 ?_
  refine V.isub dX9_leftOf_16 ?_
  cases hF
  exact V.iret dX9_leftOf_17
/-! MonsterCot$Ways.canRead -/
theorem dX9_canRead_0 : decode cX9_canRead 0 = .ok (.aload_n 0, 1) := by decide +kernel
theorem dX9_canRead_1 : decode cX9_canRead 1 = .ok (.iload_n 2, 1) := by decide +kernel
theorem dX9_canRead_2 : decode cX9_canRead 2 = .ok (.iload_n 3, 1) := by decide +kernel
theorem dX9_canRead_3 : decode cX9_canRead 3 = .ok (.invokevirtual 77, 3) := by decide +kernel
theorem dX9_canRead_6 : decode cX9_canRead 6 = .ok (.ifCond .eq 21, 3) := by decide +kernel
theorem dX9_canRead_9 : decode cX9_canRead 9 = .ok (.aload_n 1, 1) := by decide +kernel
theorem dX9_canRead_10 : decode cX9_canRead 10 = .ok (.iload_n 2, 1) := by decide +kernel
theorem dX9_canRead_11 : decode cX9_canRead 11 = .ok (.invokevirtual 81, 3) := by decide +kernel
theorem dX9_canRead_14 : decode cX9_canRead 14 = .ok (.ifCond .ne 13, 3) := by decide +kernel
theorem dX9_canRead_17 : decode cX9_canRead 17 = .ok (.iload 4, 2) := by decide +kernel
theorem dX9_canRead_19 : decode cX9_canRead 19 = .ok (.ifCond .eq 10, 3) := by decide +kernel
theorem dX9_canRead_22 : decode cX9_canRead 22 = .ok (.iload_n 3, 1) := by decide +kernel
theorem dX9_canRead_23 : decode cX9_canRead 23 = .ok (.iconst 2, 1) := by decide +kernel
theorem dX9_canRead_24 : decode cX9_canRead 24 = .ok (.if_icmp .ge 5, 3) := by decide +kernel
theorem dX9_canRead_27 : decode cX9_canRead 27 = .ok (.iconst 0, 1) := by decide +kernel
theorem dX9_canRead_28 : decode cX9_canRead 28 = .ok (.ireturn, 1) := by decide +kernel
theorem dX9_canRead_29 : decode cX9_canRead 29 = .ok (.iload 4, 2) := by decide +kernel
theorem dX9_canRead_31 : decode cX9_canRead 31 = .ok (.ifCond .eq 9, 3) := by decide +kernel
theorem dX9_canRead_34 : decode cX9_canRead 34 = .ok (.iload_n 3, 1) := by decide +kernel
theorem dX9_canRead_35 : decode cX9_canRead 35 = .ok (.iconst 1, 1) := by decide +kernel
theorem dX9_canRead_36 : decode cX9_canRead 36 = .ok (.isub, 1) := by decide +kernel
theorem dX9_canRead_37 : decode cX9_canRead 37 = .ok (.goto 4, 3) := by decide +kernel
theorem dX9_canRead_40 : decode cX9_canRead 40 = .ok (.iload_n 3, 1) := by decide +kernel
theorem dX9_canRead_41 : decode cX9_canRead 41 = .ok (.aload_n 0, 1) := by decide +kernel
theorem dX9_canRead_42 : decode cX9_canRead 42 = .ok (.aload_n 1, 1) := by decide +kernel
theorem dX9_canRead_43 : decode cX9_canRead 43 = .ok (.aload_n 1, 1) := by decide +kernel
theorem dX9_canRead_44 : decode cX9_canRead 44 = .ok (.getfield 60, 3) := by decide +kernel
theorem dX9_canRead_47 : decode cX9_canRead 47 = .ok (.invokevirtual 84, 3) := by decide +kernel
theorem dX9_canRead_50 : decode cX9_canRead 50 = .ok (.if_icmp .gt 7, 3) := by decide +kernel
theorem dX9_canRead_53 : decode cX9_canRead 53 = .ok (.iconst 1, 1) := by decide +kernel
theorem dX9_canRead_54 : decode cX9_canRead 54 = .ok (.goto 4, 3) := by decide +kernel
theorem dX9_canRead_57 : decode cX9_canRead 57 = .ok (.iconst 0, 1) := by decide +kernel
theorem dX9_canRead_58 : decode cX9_canRead 58 = .ok (.ireturn, 1) := by decide +kernel
def X9_canRead_41 (a1 : Nat) (s0 : Int32) (h : Mm) : Option Bool := (bp (X9_leftOf a1 (h.1 a1 5) h) (fun r11 => (if r11 < s0 then (some false) else (some true))))
set_option maxRecDepth 100000 in
set_option maxHeartbeats 4000000 in
theorem v_X9_canRead_41 {X : WX} {G : GX} {o : Mm} {a1 : Nat} {rv : Bool} {h : Mm} (ha1 : isBed a1) {s0 : Int32} (hF : X9_canRead_41 a1 s0 h = some rv) : V X G RX9 cX9_canRead 5 (some .boolean) 5 0 0 (QR X G true o (some (.int (b2i rv))) h) true o 41 [(0, .ref (xa X 26)), (1, .ref (xa X a1))] [.int s0] h := by
  unfold X9_canRead_41 at hF
  refine V.aload_n 0 dX9_canRead_41 rfl rfl ?_
  refine V.aload_n 1 dX9_canRead_42 rfl rfl ?_
  refine V.aload_n 1 dX9_canRead_43 rfl rfl ?_
  refine V.getI fl_X9_60 ha1.sh rfl ha1.km dX9_canRead_44 ?_
  obtain ⟨r11, hc12, hF⟩ := bp_s hF
  refine V.callVi mf_X9_leftOf ml_X9_84 sh_26 (s_X9_leftOf ha1 hc12) (by decide) rfl rfl (Nat.le_of_ble_eq_true rfl) dX9_canRead_47 ?_
  refine V.icmp_gt (tgt := 57) dX9_canRead_50 rfl (fun c => ?_) (fun c => ?_)
  · replace hF := ip c hF
    refine V.iconst (v := 0) dX9_canRead_57 rfl ?_
    cases hF
    exact V.bret dX9_canRead_58
  · replace hF := iq c hF
    refine V.iconst (v := 1) dX9_canRead_53 rfl ?_
    refine V.goto (tgt := 58) dX9_canRead_54 rfl ?_
    cases hF
    exact V.bret dX9_canRead_58
def X9_canRead_29 (a1 : Nat) (x3 : Int32) (x4 : Bool) (h : Mm) : Option Bool := (if x4 = true then (X9_canRead_41 a1 (x3 - (1 : Int32)) h) else (X9_canRead_41 a1 x3 h))
set_option maxRecDepth 100000 in
set_option maxHeartbeats 4000000 in
theorem v_X9_canRead_29 {X : WX} {G : GX} {o : Mm} {a1 : Nat} {rv : Bool} {h : Mm} (ha1 : isBed a1) {x3 : Int32} {x4 : Bool} (hF : X9_canRead_29 a1 x3 x4 h = some rv) : V X G RX9 cX9_canRead 5 (some .boolean) 5 0 0 (QR X G true o (some (.int (b2i rv))) h) true o 29 [(0, .ref (xa X 26)), (1, .ref (xa X a1)), (3, .int x3), (4, .int (b2i x4))] [] h := by
  unfold X9_canRead_29 at hF
  refine V.iload 3 dX9_canRead_29 rfl ?_
  refine V.ifz_eq (tgt := 40) dX9_canRead_31 rfl (fun c => ?_) (fun c => ?_)
  · replace hF := iq c hF
    refine V.iload_n 2 dX9_canRead_40 rfl rfl ?_
    exact V.sub [0, 1] rfl (v_X9_canRead_41 ha1 hF)
  · replace hF := ip c hF
    refine V.iload_n 2 dX9_canRead_34 rfl rfl ?_
    refine V.iconst (v := 1) dX9_canRead_35 rfl ?_
    refine V.isub dX9_canRead_36 ?_
    refine V.goto (tgt := 41) dX9_canRead_37 rfl ?_
    exact V.sub [0, 1] rfl (v_X9_canRead_41 ha1 hF)
def X9_canRead (a1 : Nat) (x2 : Int32) (x3 : Int32) (x4 : Bool) (h : Mm) : Option Bool := (bp (X9_hasPages x2 x3 h) (fun r13 => (if r13 = true then (bp (X0_wasRead a1 x2 h) (fun r15 => (if r15 = true then (some false) else (if x4 = true then (if (2 : Int32) ≤ x3 then (X9_canRead_29 a1 x3 x4 h) else (some false)) else (X9_canRead_29 a1 x3 x4 h))))) else (some false))))
set_option maxRecDepth 100000 in
set_option maxHeartbeats 4000000 in
theorem s_X9_canRead {X : WX} {o : Mm} {a1 : Nat} {x2 : Int32} {x3 : Int32} {x4 : Bool} {rv : Bool} {h : Mm} (ha1 : isBed a1) (hF : X9_canRead a1 x2 x3 x4 h = some rv) : Sat X yX9_canRead cX9_canRead 5 (some .boolean) 5 [.ref (xa X 26), .ref (xa X a1), .int x2, .int x3, .int (b2i x4)] true o h (some (.int (b2i rv))) h := by
  unfold X9_canRead at hF
  refine Sat.mk (own := RX9) rfl (by decide +kernel) (Nat.le_of_ble_eq_true rfl) (fun G => ?_)
  refine V.sub (lv2 := [(0, _), (1, _), (2, _), (3, _), (4, _)]) [0, 1, 2, 3, 4] rfl ?_
  refine V.aload_n 0 dX9_canRead_0 rfl rfl ?_
  refine V.iload_n 2 dX9_canRead_1 rfl rfl ?_
  refine V.iload_n 3 dX9_canRead_2 rfl rfl ?_
  obtain ⟨r13, hc14, hF⟩ := bp_s hF
  refine V.callVi mf_X9_hasPages ml_X9_77 sh_26 (s_X9_hasPages hc14) (by decide) rfl rfl (Nat.le_of_ble_eq_true rfl) dX9_canRead_3 ?_
  refine V.ifz_eq (tgt := 27) dX9_canRead_6 rfl (fun c => ?_) (fun c => ?_)
  · replace hF := iq c hF
    refine V.iconst (v := 0) dX9_canRead_27 rfl ?_
    cases hF
    exact V.bret dX9_canRead_28
  · replace hF := ip c hF
    refine V.aload_n 1 dX9_canRead_9 rfl rfl ?_
    refine V.iload_n 2 dX9_canRead_10 rfl rfl ?_
    obtain ⟨r15, hc16, hF⟩ := bp_s hF
    refine V.callVi mf_X0_wasRead ml_X9_81 ha1.sh (s_X0_wasRead ha1 hc16) (by decide) rfl rfl (Nat.le_of_ble_eq_true rfl) dX9_canRead_11 ?_
    refine V.ifz_ne (tgt := 27) dX9_canRead_14 rfl (fun c => ?_) (fun c => ?_)
    · replace hF := ip c hF
      refine V.iconst (v := 0) dX9_canRead_27 rfl ?_
      cases hF
      exact V.bret dX9_canRead_28
    · replace hF := iq c hF
      refine V.iload 4 dX9_canRead_17 rfl ?_
      refine V.ifz_eq (tgt := 29) dX9_canRead_19 rfl (fun c => ?_) (fun c => ?_)
      · replace hF := iq c hF
        exact V.sub [0, 1, 3, 4] rfl (v_X9_canRead_29 ha1 hF)
      · replace hF := ip c hF
        refine V.iload_n 3 dX9_canRead_22 rfl rfl ?_
        refine V.iconst (v := 2) dX9_canRead_23 rfl ?_
        refine V.icmp_ge (tgt := 29) dX9_canRead_24 rfl (fun c => ?_) (fun c => ?_)
        · replace hF := ip c hF
          exact V.sub [0, 1, 3, 4] rfl (v_X9_canRead_29 ha1 hF)
        · replace hF := iq c hF
          refine V.iconst (v := 0) dX9_canRead_27 rfl ?_
          cases hF
          exact V.bret dX9_canRead_28
/-! MonsterCot$Bed.copyFrom -/
theorem dX0_copyFrom_0 : decode cX0_copyFrom 0 = .ok (.aload_n 1, 1) := by decide +kernel
theorem dX0_copyFrom_1 : decode cX0_copyFrom 1 = .ok (.getfield 9, 3) := by decide +kernel
theorem dX0_copyFrom_4 : decode cX0_copyFrom 4 = .ok (.aload_n 0, 1) := by decide +kernel
theorem dX0_copyFrom_5 : decode cX0_copyFrom 5 = .ok (.getfield 9, 3) := by decide +kernel
theorem dX0_copyFrom_8 : decode cX0_copyFrom 8 = .ok (.invokestatic 76, 3) := by decide +kernel
theorem dX0_copyFrom_11 : decode cX0_copyFrom 11 = .ok (.aload_n 1, 1) := by decide +kernel
theorem dX0_copyFrom_12 : decode cX0_copyFrom 12 = .ok (.getfield 15, 3) := by decide +kernel
theorem dX0_copyFrom_15 : decode cX0_copyFrom 15 = .ok (.aload_n 0, 1) := by decide +kernel
theorem dX0_copyFrom_16 : decode cX0_copyFrom 16 = .ok (.getfield 15, 3) := by decide +kernel
theorem dX0_copyFrom_19 : decode cX0_copyFrom 19 = .ok (.invokestatic 76, 3) := by decide +kernel
theorem dX0_copyFrom_22 : decode cX0_copyFrom 22 = .ok (.aload_n 1, 1) := by decide +kernel
theorem dX0_copyFrom_23 : decode cX0_copyFrom 23 = .ok (.getfield 18, 3) := by decide +kernel
theorem dX0_copyFrom_26 : decode cX0_copyFrom 26 = .ok (.aload_n 0, 1) := by decide +kernel
theorem dX0_copyFrom_27 : decode cX0_copyFrom 27 = .ok (.getfield 18, 3) := by decide +kernel
theorem dX0_copyFrom_30 : decode cX0_copyFrom 30 = .ok (.invokestatic 76, 3) := by decide +kernel
theorem dX0_copyFrom_33 : decode cX0_copyFrom 33 = .ok (.aload_n 1, 1) := by decide +kernel
theorem dX0_copyFrom_34 : decode cX0_copyFrom 34 = .ok (.getfield 21, 3) := by decide +kernel
theorem dX0_copyFrom_37 : decode cX0_copyFrom 37 = .ok (.aload_n 0, 1) := by decide +kernel
theorem dX0_copyFrom_38 : decode cX0_copyFrom 38 = .ok (.getfield 21, 3) := by decide +kernel
theorem dX0_copyFrom_41 : decode cX0_copyFrom 41 = .ok (.invokestatic 76, 3) := by decide +kernel
theorem dX0_copyFrom_44 : decode cX0_copyFrom 44 = .ok (.aload_n 0, 1) := by decide +kernel
theorem dX0_copyFrom_45 : decode cX0_copyFrom 45 = .ok (.aload_n 1, 1) := by decide +kernel
theorem dX0_copyFrom_46 : decode cX0_copyFrom 46 = .ok (.getfield 44, 3) := by decide +kernel
theorem dX0_copyFrom_49 : decode cX0_copyFrom 49 = .ok (.putfield 44, 3) := by decide +kernel
theorem dX0_copyFrom_52 : decode cX0_copyFrom 52 = .ok (.aload_n 0, 1) := by decide +kernel
theorem dX0_copyFrom_53 : decode cX0_copyFrom 53 = .ok (.aload_n 1, 1) := by decide +kernel
theorem dX0_copyFrom_54 : decode cX0_copyFrom 54 = .ok (.getfield 48, 3) := by decide +kernel
theorem dX0_copyFrom_57 : decode cX0_copyFrom 57 = .ok (.putfield 48, 3) := by decide +kernel
theorem dX0_copyFrom_60 : decode cX0_copyFrom 60 = .ok (.aload_n 0, 1) := by decide +kernel
theorem dX0_copyFrom_61 : decode cX0_copyFrom 61 = .ok (.aload_n 1, 1) := by decide +kernel
theorem dX0_copyFrom_62 : decode cX0_copyFrom 62 = .ok (.getfield 51, 3) := by decide +kernel
theorem dX0_copyFrom_65 : decode cX0_copyFrom 65 = .ok (.putfield 51, 3) := by decide +kernel
theorem dX0_copyFrom_68 : decode cX0_copyFrom 68 = .ok (.aload_n 0, 1) := by decide +kernel
theorem dX0_copyFrom_69 : decode cX0_copyFrom 69 = .ok (.aload_n 1, 1) := by decide +kernel
theorem dX0_copyFrom_70 : decode cX0_copyFrom 70 = .ok (.getfield 54, 3) := by decide +kernel
theorem dX0_copyFrom_73 : decode cX0_copyFrom 73 = .ok (.putfield 54, 3) := by decide +kernel
theorem dX0_copyFrom_76 : decode cX0_copyFrom 76 = .ok (.aload_n 0, 1) := by decide +kernel
theorem dX0_copyFrom_77 : decode cX0_copyFrom 77 = .ok (.aload_n 1, 1) := by decide +kernel
theorem dX0_copyFrom_78 : decode cX0_copyFrom 78 = .ok (.getfield 57, 3) := by decide +kernel
theorem dX0_copyFrom_81 : decode cX0_copyFrom 81 = .ok (.putfield 57, 3) := by decide +kernel
theorem dX0_copyFrom_84 : decode cX0_copyFrom 84 = .ok (.aload_n 0, 1) := by decide +kernel
theorem dX0_copyFrom_85 : decode cX0_copyFrom 85 = .ok (.aload_n 1, 1) := by decide +kernel
theorem dX0_copyFrom_86 : decode cX0_copyFrom 86 = .ok (.getfield 66, 3) := by decide +kernel
theorem dX0_copyFrom_89 : decode cX0_copyFrom 89 = .ok (.putfield 66, 3) := by decide +kernel
theorem dX0_copyFrom_92 : decode cX0_copyFrom 92 = .ok (.aload_n 0, 1) := by decide +kernel
theorem dX0_copyFrom_93 : decode cX0_copyFrom 93 = .ok (.aload_n 1, 1) := by decide +kernel
theorem dX0_copyFrom_94 : decode cX0_copyFrom 94 = .ok (.getfield 60, 3) := by decide +kernel
theorem dX0_copyFrom_97 : decode cX0_copyFrom 97 = .ok (.putfield 60, 3) := by decide +kernel
theorem dX0_copyFrom_100 : decode cX0_copyFrom 100 = .ok (.aload_n 0, 1) := by decide +kernel
theorem dX0_copyFrom_101 : decode cX0_copyFrom 101 = .ok (.aload_n 1, 1) := by decide +kernel
theorem dX0_copyFrom_102 : decode cX0_copyFrom 102 = .ok (.getfield 69, 3) := by decide +kernel
theorem dX0_copyFrom_105 : decode cX0_copyFrom 105 = .ok (.putfield 69, 3) := by decide +kernel
theorem dX0_copyFrom_108 : decode cX0_copyFrom 108 = .ok (.aload_n 0, 1) := by decide +kernel
theorem dX0_copyFrom_109 : decode cX0_copyFrom 109 = .ok (.aload_n 1, 1) := by decide +kernel
theorem dX0_copyFrom_110 : decode cX0_copyFrom 110 = .ok (.getfield 73, 3) := by decide +kernel
theorem dX0_copyFrom_113 : decode cX0_copyFrom 113 = .ok (.putfield 73, 3) := by decide +kernel
theorem dX0_copyFrom_116 : decode cX0_copyFrom 116 = .ok (.return_, 1) := by decide +kernel
def X0_copyFrom (a0 : Nat) (a1 : Nat) (h : Mm) : Option (Unit × Mm) := (bd (X11_copy (a1 + 1) (a0 + 1) h) (fun _ h15 => (bd (X11_copy (a1 + 2) (a0 + 2) h15) (fun _ h18 => (bd (X11_copy (a1 + 3) (a0 + 3) h18) (fun _ h21 => (bd (X11_copy (a1 + 4) (a0 + 4) h21) (fun _ h24 => (if ((wI (wI (wI (wI (wI (wI (wI h24 a0 4 (h24.1 a1 4)) a0 5 ((wI h24 a0 4 (h24.1 a1 4)).1 a1 5)) a0 6 ((wI (wI h24 a0 4 (h24.1 a1 4)) a0 5 ((wI h24 a0 4 (h24.1 a1 4)).1 a1 5)).1 a1 6)) a0 7 ((wI (wI (wI h24 a0 4 (h24.1 a1 4)) a0 5 ((wI h24 a0 4 (h24.1 a1 4)).1 a1 5)) a0 6 ((wI (wI h24 a0 4 (h24.1 a1 4)) a0 5 ((wI h24 a0 4 (h24.1 a1 4)).1 a1 5)).1 a1 6)).1 a1 7)) a0 8 ((wI (wI (wI (wI h24 a0 4 (h24.1 a1 4)) a0 5 ((wI h24 a0 4 (h24.1 a1 4)).1 a1 5)) a0 6 ((wI (wI h24 a0 4 (h24.1 a1 4)) a0 5 ((wI h24 a0 4 (h24.1 a1 4)).1 a1 5)).1 a1 6)) a0 7 ((wI (wI (wI h24 a0 4 (h24.1 a1 4)) a0 5 ((wI h24 a0 4 (h24.1 a1 4)).1 a1 5)) a0 6 ((wI (wI h24 a0 4 (h24.1 a1 4)) a0 5 ((wI h24 a0 4 (h24.1 a1 4)).1 a1 5)).1 a1 6)).1 a1 7)).1 a1 8)) a0 9 ((wI (wI (wI (wI (wI h24 a0 4 (h24.1 a1 4)) a0 5 ((wI h24 a0 4 (h24.1 a1 4)).1 a1 5)) a0 6 ((wI (wI h24 a0 4 (h24.1 a1 4)) a0 5 ((wI h24 a0 4 (h24.1 a1 4)).1 a1 5)).1 a1 6)) a0 7 ((wI (wI (wI h24 a0 4 (h24.1 a1 4)) a0 5 ((wI h24 a0 4 (h24.1 a1 4)).1 a1 5)) a0 6 ((wI (wI h24 a0 4 (h24.1 a1 4)) a0 5 ((wI h24 a0 4 (h24.1 a1 4)).1 a1 5)).1 a1 6)).1 a1 7)) a0 8 ((wI (wI (wI (wI h24 a0 4 (h24.1 a1 4)) a0 5 ((wI h24 a0 4 (h24.1 a1 4)).1 a1 5)) a0 6 ((wI (wI h24 a0 4 (h24.1 a1 4)) a0 5 ((wI h24 a0 4 (h24.1 a1 4)).1 a1 5)).1 a1 6)) a0 7 ((wI (wI (wI h24 a0 4 (h24.1 a1 4)) a0 5 ((wI h24 a0 4 (h24.1 a1 4)).1 a1 5)) a0 6 ((wI (wI h24 a0 4 (h24.1 a1 4)) a0 5 ((wI h24 a0 4 (h24.1 a1 4)).1 a1 5)).1 a1 6)).1 a1 7)).1 a1 8)).1 a1 9)) a0 10 ((wI (wI (wI (wI (wI (wI h24 a0 4 (h24.1 a1 4)) a0 5 ((wI h24 a0 4 (h24.1 a1 4)).1 a1 5)) a0 6 ((wI (wI h24 a0 4 (h24.1 a1 4)) a0 5 ((wI h24 a0 4 (h24.1 a1 4)).1 a1 5)).1 a1 6)) a0 7 ((wI (wI (wI h24 a0 4 (h24.1 a1 4)) a0 5 ((wI h24 a0 4 (h24.1 a1 4)).1 a1 5)) a0 6 ((wI (wI h24 a0 4 (h24.1 a1 4)) a0 5 ((wI h24 a0 4 (h24.1 a1 4)).1 a1 5)).1 a1 6)).1 a1 7)) a0 8 ((wI (wI (wI (wI h24 a0 4 (h24.1 a1 4)) a0 5 ((wI h24 a0 4 (h24.1 a1 4)).1 a1 5)) a0 6 ((wI (wI h24 a0 4 (h24.1 a1 4)) a0 5 ((wI h24 a0 4 (h24.1 a1 4)).1 a1 5)).1 a1 6)) a0 7 ((wI (wI (wI h24 a0 4 (h24.1 a1 4)) a0 5 ((wI h24 a0 4 (h24.1 a1 4)).1 a1 5)) a0 6 ((wI (wI h24 a0 4 (h24.1 a1 4)) a0 5 ((wI h24 a0 4 (h24.1 a1 4)).1 a1 5)).1 a1 6)).1 a1 7)).1 a1 8)) a0 9 ((wI (wI (wI (wI (wI h24 a0 4 (h24.1 a1 4)) a0 5 ((wI h24 a0 4 (h24.1 a1 4)).1 a1 5)) a0 6 ((wI (wI h24 a0 4 (h24.1 a1 4)) a0 5 ((wI h24 a0 4 (h24.1 a1 4)).1 a1 5)).1 a1 6)) a0 7 ((wI (wI (wI h24 a0 4 (h24.1 a1 4)) a0 5 ((wI h24 a0 4 (h24.1 a1 4)).1 a1 5)) a0 6 ((wI (wI h24 a0 4 (h24.1 a1 4)) a0 5 ((wI h24 a0 4 (h24.1 a1 4)).1 a1 5)).1 a1 6)).1 a1 7)) a0 8 ((wI (wI (wI (wI h24 a0 4 (h24.1 a1 4)) a0 5 ((wI h24 a0 4 (h24.1 a1 4)).1 a1 5)) a0 6 ((wI (wI h24 a0 4 (h24.1 a1 4)) a0 5 ((wI h24 a0 4 (h24.1 a1 4)).1 a1 5)).1 a1 6)) a0 7 ((wI (wI (wI h24 a0 4 (h24.1 a1 4)) a0 5 ((wI h24 a0 4 (h24.1 a1 4)).1 a1 5)) a0 6 ((wI (wI h24 a0 4 (h24.1 a1 4)) a0 5 ((wI h24 a0 4 (h24.1 a1 4)).1 a1 5)).1 a1 6)).1 a1 7)).1 a1 8)).1 a1 9)).1 a1 10)).1 a1 11) = 0 ∨ ((wI (wI (wI (wI (wI (wI (wI h24 a0 4 (h24.1 a1 4)) a0 5 ((wI h24 a0 4 (h24.1 a1 4)).1 a1 5)) a0 6 ((wI (wI h24 a0 4 (h24.1 a1 4)) a0 5 ((wI h24 a0 4 (h24.1 a1 4)).1 a1 5)).1 a1 6)) a0 7 ((wI (wI (wI h24 a0 4 (h24.1 a1 4)) a0 5 ((wI h24 a0 4 (h24.1 a1 4)).1 a1 5)) a0 6 ((wI (wI h24 a0 4 (h24.1 a1 4)) a0 5 ((wI h24 a0 4 (h24.1 a1 4)).1 a1 5)).1 a1 6)).1 a1 7)) a0 8 ((wI (wI (wI (wI h24 a0 4 (h24.1 a1 4)) a0 5 ((wI h24 a0 4 (h24.1 a1 4)).1 a1 5)) a0 6 ((wI (wI h24 a0 4 (h24.1 a1 4)) a0 5 ((wI h24 a0 4 (h24.1 a1 4)).1 a1 5)).1 a1 6)) a0 7 ((wI (wI (wI h24 a0 4 (h24.1 a1 4)) a0 5 ((wI h24 a0 4 (h24.1 a1 4)).1 a1 5)) a0 6 ((wI (wI h24 a0 4 (h24.1 a1 4)) a0 5 ((wI h24 a0 4 (h24.1 a1 4)).1 a1 5)).1 a1 6)).1 a1 7)).1 a1 8)) a0 9 ((wI (wI (wI (wI (wI h24 a0 4 (h24.1 a1 4)) a0 5 ((wI h24 a0 4 (h24.1 a1 4)).1 a1 5)) a0 6 ((wI (wI h24 a0 4 (h24.1 a1 4)) a0 5 ((wI h24 a0 4 (h24.1 a1 4)).1 a1 5)).1 a1 6)) a0 7 ((wI (wI (wI h24 a0 4 (h24.1 a1 4)) a0 5 ((wI h24 a0 4 (h24.1 a1 4)).1 a1 5)) a0 6 ((wI (wI h24 a0 4 (h24.1 a1 4)) a0 5 ((wI h24 a0 4 (h24.1 a1 4)).1 a1 5)).1 a1 6)).1 a1 7)) a0 8 ((wI (wI (wI (wI h24 a0 4 (h24.1 a1 4)) a0 5 ((wI h24 a0 4 (h24.1 a1 4)).1 a1 5)) a0 6 ((wI (wI h24 a0 4 (h24.1 a1 4)) a0 5 ((wI h24 a0 4 (h24.1 a1 4)).1 a1 5)).1 a1 6)) a0 7 ((wI (wI (wI h24 a0 4 (h24.1 a1 4)) a0 5 ((wI h24 a0 4 (h24.1 a1 4)).1 a1 5)) a0 6 ((wI (wI h24 a0 4 (h24.1 a1 4)) a0 5 ((wI h24 a0 4 (h24.1 a1 4)).1 a1 5)).1 a1 6)).1 a1 7)).1 a1 8)).1 a1 9)) a0 10 ((wI (wI (wI (wI (wI (wI h24 a0 4 (h24.1 a1 4)) a0 5 ((wI h24 a0 4 (h24.1 a1 4)).1 a1 5)) a0 6 ((wI (wI h24 a0 4 (h24.1 a1 4)) a0 5 ((wI h24 a0 4 (h24.1 a1 4)).1 a1 5)).1 a1 6)) a0 7 ((wI (wI (wI h24 a0 4 (h24.1 a1 4)) a0 5 ((wI h24 a0 4 (h24.1 a1 4)).1 a1 5)) a0 6 ((wI (wI h24 a0 4 (h24.1 a1 4)) a0 5 ((wI h24 a0 4 (h24.1 a1 4)).1 a1 5)).1 a1 6)).1 a1 7)) a0 8 ((wI (wI (wI (wI h24 a0 4 (h24.1 a1 4)) a0 5 ((wI h24 a0 4 (h24.1 a1 4)).1 a1 5)) a0 6 ((wI (wI h24 a0 4 (h24.1 a1 4)) a0 5 ((wI h24 a0 4 (h24.1 a1 4)).1 a1 5)).1 a1 6)) a0 7 ((wI (wI (wI h24 a0 4 (h24.1 a1 4)) a0 5 ((wI h24 a0 4 (h24.1 a1 4)).1 a1 5)) a0 6 ((wI (wI h24 a0 4 (h24.1 a1 4)) a0 5 ((wI h24 a0 4 (h24.1 a1 4)).1 a1 5)).1 a1 6)).1 a1 7)).1 a1 8)) a0 9 ((wI (wI (wI (wI (wI h24 a0 4 (h24.1 a1 4)) a0 5 ((wI h24 a0 4 (h24.1 a1 4)).1 a1 5)) a0 6 ((wI (wI h24 a0 4 (h24.1 a1 4)) a0 5 ((wI h24 a0 4 (h24.1 a1 4)).1 a1 5)).1 a1 6)) a0 7 ((wI (wI (wI h24 a0 4 (h24.1 a1 4)) a0 5 ((wI h24 a0 4 (h24.1 a1 4)).1 a1 5)) a0 6 ((wI (wI h24 a0 4 (h24.1 a1 4)) a0 5 ((wI h24 a0 4 (h24.1 a1 4)).1 a1 5)).1 a1 6)).1 a1 7)) a0 8 ((wI (wI (wI (wI h24 a0 4 (h24.1 a1 4)) a0 5 ((wI h24 a0 4 (h24.1 a1 4)).1 a1 5)) a0 6 ((wI (wI h24 a0 4 (h24.1 a1 4)) a0 5 ((wI h24 a0 4 (h24.1 a1 4)).1 a1 5)).1 a1 6)) a0 7 ((wI (wI (wI h24 a0 4 (h24.1 a1 4)) a0 5 ((wI h24 a0 4 (h24.1 a1 4)).1 a1 5)) a0 6 ((wI (wI h24 a0 4 (h24.1 a1 4)) a0 5 ((wI h24 a0 4 (h24.1 a1 4)).1 a1 5)).1 a1 6)).1 a1 7)).1 a1 8)).1 a1 9)).1 a1 10)).1 a1 11) = 1 then (if ((wI (wI (wI (wI (wI (wI (wI (wI h24 a0 4 (h24.1 a1 4)) a0 5 ((wI h24 a0 4 (h24.1 a1 4)).1 a1 5)) a0 6 ((wI (wI h24 a0 4 (h24.1 a1 4)) a0 5 ((wI h24 a0 4 (h24.1 a1 4)).1 a1 5)).1 a1 6)) a0 7 ((wI (wI (wI h24 a0 4 (h24.1 a1 4)) a0 5 ((wI h24 a0 4 (h24.1 a1 4)).1 a1 5)) a0 6 ((wI (wI h24 a0 4 (h24.1 a1 4)) a0 5 ((wI h24 a0 4 (h24.1 a1 4)).1 a1 5)).1 a1 6)).1 a1 7)) a0 8 ((wI (wI (wI (wI h24 a0 4 (h24.1 a1 4)) a0 5 ((wI h24 a0 4 (h24.1 a1 4)).1 a1 5)) a0 6 ((wI (wI h24 a0 4 (h24.1 a1 4)) a0 5 ((wI h24 a0 4 (h24.1 a1 4)).1 a1 5)).1 a1 6)) a0 7 ((wI (wI (wI h24 a0 4 (h24.1 a1 4)) a0 5 ((wI h24 a0 4 (h24.1 a1 4)).1 a1 5)) a0 6 ((wI (wI h24 a0 4 (h24.1 a1 4)) a0 5 ((wI h24 a0 4 (h24.1 a1 4)).1 a1 5)).1 a1 6)).1 a1 7)).1 a1 8)) a0 9 ((wI (wI (wI (wI (wI h24 a0 4 (h24.1 a1 4)) a0 5 ((wI h24 a0 4 (h24.1 a1 4)).1 a1 5)) a0 6 ((wI (wI h24 a0 4 (h24.1 a1 4)) a0 5 ((wI h24 a0 4 (h24.1 a1 4)).1 a1 5)).1 a1 6)) a0 7 ((wI (wI (wI h24 a0 4 (h24.1 a1 4)) a0 5 ((wI h24 a0 4 (h24.1 a1 4)).1 a1 5)) a0 6 ((wI (wI h24 a0 4 (h24.1 a1 4)) a0 5 ((wI h24 a0 4 (h24.1 a1 4)).1 a1 5)).1 a1 6)).1 a1 7)) a0 8 ((wI (wI (wI (wI h24 a0 4 (h24.1 a1 4)) a0 5 ((wI h24 a0 4 (h24.1 a1 4)).1 a1 5)) a0 6 ((wI (wI h24 a0 4 (h24.1 a1 4)) a0 5 ((wI h24 a0 4 (h24.1 a1 4)).1 a1 5)).1 a1 6)) a0 7 ((wI (wI (wI h24 a0 4 (h24.1 a1 4)) a0 5 ((wI h24 a0 4 (h24.1 a1 4)).1 a1 5)) a0 6 ((wI (wI h24 a0 4 (h24.1 a1 4)) a0 5 ((wI h24 a0 4 (h24.1 a1 4)).1 a1 5)).1 a1 6)).1 a1 7)).1 a1 8)).1 a1 9)) a0 10 ((wI (wI (wI (wI (wI (wI h24 a0 4 (h24.1 a1 4)) a0 5 ((wI h24 a0 4 (h24.1 a1 4)).1 a1 5)) a0 6 ((wI (wI h24 a0 4 (h24.1 a1 4)) a0 5 ((wI h24 a0 4 (h24.1 a1 4)).1 a1 5)).1 a1 6)) a0 7 ((wI (wI (wI h24 a0 4 (h24.1 a1 4)) a0 5 ((wI h24 a0 4 (h24.1 a1 4)).1 a1 5)) a0 6 ((wI (wI h24 a0 4 (h24.1 a1 4)) a0 5 ((wI h24 a0 4 (h24.1 a1 4)).1 a1 5)).1 a1 6)).1 a1 7)) a0 8 ((wI (wI (wI (wI h24 a0 4 (h24.1 a1 4)) a0 5 ((wI h24 a0 4 (h24.1 a1 4)).1 a1 5)) a0 6 ((wI (wI h24 a0 4 (h24.1 a1 4)) a0 5 ((wI h24 a0 4 (h24.1 a1 4)).1 a1 5)).1 a1 6)) a0 7 ((wI (wI (wI h24 a0 4 (h24.1 a1 4)) a0 5 ((wI h24 a0 4 (h24.1 a1 4)).1 a1 5)) a0 6 ((wI (wI h24 a0 4 (h24.1 a1 4)) a0 5 ((wI h24 a0 4 (h24.1 a1 4)).1 a1 5)).1 a1 6)).1 a1 7)).1 a1 8)) a0 9 ((wI (wI (wI (wI (wI h24 a0 4 (h24.1 a1 4)) a0 5 ((wI h24 a0 4 (h24.1 a1 4)).1 a1 5)) a0 6 ((wI (wI h24 a0 4 (h24.1 a1 4)) a0 5 ((wI h24 a0 4 (h24.1 a1 4)).1 a1 5)).1 a1 6)) a0 7 ((wI (wI (wI h24 a0 4 (h24.1 a1 4)) a0 5 ((wI h24 a0 4 (h24.1 a1 4)).1 a1 5)) a0 6 ((wI (wI h24 a0 4 (h24.1 a1 4)) a0 5 ((wI h24 a0 4 (h24.1 a1 4)).1 a1 5)).1 a1 6)).1 a1 7)) a0 8 ((wI (wI (wI (wI h24 a0 4 (h24.1 a1 4)) a0 5 ((wI h24 a0 4 (h24.1 a1 4)).1 a1 5)) a0 6 ((wI (wI h24 a0 4 (h24.1 a1 4)) a0 5 ((wI h24 a0 4 (h24.1 a1 4)).1 a1 5)).1 a1 6)) a0 7 ((wI (wI (wI h24 a0 4 (h24.1 a1 4)) a0 5 ((wI h24 a0 4 (h24.1 a1 4)).1 a1 5)) a0 6 ((wI (wI h24 a0 4 (h24.1 a1 4)) a0 5 ((wI h24 a0 4 (h24.1 a1 4)).1 a1 5)).1 a1 6)).1 a1 7)).1 a1 8)).1 a1 9)).1 a1 10)) a0 11 ((wI (wI (wI (wI (wI (wI (wI h24 a0 4 (h24.1 a1 4)) a0 5 ((wI h24 a0 4 (h24.1 a1 4)).1 a1 5)) a0 6 ((wI (wI h24 a0 4 (h24.1 a1 4)) a0 5 ((wI h24 a0 4 (h24.1 a1 4)).1 a1 5)).1 a1 6)) a0 7 ((wI (wI (wI h24 a0 4 (h24.1 a1 4)) a0 5 ((wI h24 a0 4 (h24.1 a1 4)).1 a1 5)) a0 6 ((wI (wI h24 a0 4 (h24.1 a1 4)) a0 5 ((wI h24 a0 4 (h24.1 a1 4)).1 a1 5)).1 a1 6)).1 a1 7)) a0 8 ((wI (wI (wI (wI h24 a0 4 (h24.1 a1 4)) a0 5 ((wI h24 a0 4 (h24.1 a1 4)).1 a1 5)) a0 6 ((wI (wI h24 a0 4 (h24.1 a1 4)) a0 5 ((wI h24 a0 4 (h24.1 a1 4)).1 a1 5)).1 a1 6)) a0 7 ((wI (wI (wI h24 a0 4 (h24.1 a1 4)) a0 5 ((wI h24 a0 4 (h24.1 a1 4)).1 a1 5)) a0 6 ((wI (wI h24 a0 4 (h24.1 a1 4)) a0 5 ((wI h24 a0 4 (h24.1 a1 4)).1 a1 5)).1 a1 6)).1 a1 7)).1 a1 8)) a0 9 ((wI (wI (wI (wI (wI h24 a0 4 (h24.1 a1 4)) a0 5 ((wI h24 a0 4 (h24.1 a1 4)).1 a1 5)) a0 6 ((wI (wI h24 a0 4 (h24.1 a1 4)) a0 5 ((wI h24 a0 4 (h24.1 a1 4)).1 a1 5)).1 a1 6)) a0 7 ((wI (wI (wI h24 a0 4 (h24.1 a1 4)) a0 5 ((wI h24 a0 4 (h24.1 a1 4)).1 a1 5)) a0 6 ((wI (wI h24 a0 4 (h24.1 a1 4)) a0 5 ((wI h24 a0 4 (h24.1 a1 4)).1 a1 5)).1 a1 6)).1 a1 7)) a0 8 ((wI (wI (wI (wI h24 a0 4 (h24.1 a1 4)) a0 5 ((wI h24 a0 4 (h24.1 a1 4)).1 a1 5)) a0 6 ((wI (wI h24 a0 4 (h24.1 a1 4)) a0 5 ((wI h24 a0 4 (h24.1 a1 4)).1 a1 5)).1 a1 6)) a0 7 ((wI (wI (wI h24 a0 4 (h24.1 a1 4)) a0 5 ((wI h24 a0 4 (h24.1 a1 4)).1 a1 5)) a0 6 ((wI (wI h24 a0 4 (h24.1 a1 4)) a0 5 ((wI h24 a0 4 (h24.1 a1 4)).1 a1 5)).1 a1 6)).1 a1 7)).1 a1 8)).1 a1 9)) a0 10 ((wI (wI (wI (wI (wI (wI h24 a0 4 (h24.1 a1 4)) a0 5 ((wI h24 a0 4 (h24.1 a1 4)).1 a1 5)) a0 6 ((wI (wI h24 a0 4 (h24.1 a1 4)) a0 5 ((wI h24 a0 4 (h24.1 a1 4)).1 a1 5)).1 a1 6)) a0 7 ((wI (wI (wI h24 a0 4 (h24.1 a1 4)) a0 5 ((wI h24 a0 4 (h24.1 a1 4)).1 a1 5)) a0 6 ((wI (wI h24 a0 4 (h24.1 a1 4)) a0 5 ((wI h24 a0 4 (h24.1 a1 4)).1 a1 5)).1 a1 6)).1 a1 7)) a0 8 ((wI (wI (wI (wI h24 a0 4 (h24.1 a1 4)) a0 5 ((wI h24 a0 4 (h24.1 a1 4)).1 a1 5)) a0 6 ((wI (wI h24 a0 4 (h24.1 a1 4)) a0 5 ((wI h24 a0 4 (h24.1 a1 4)).1 a1 5)).1 a1 6)) a0 7 ((wI (wI (wI h24 a0 4 (h24.1 a1 4)) a0 5 ((wI h24 a0 4 (h24.1 a1 4)).1 a1 5)) a0 6 ((wI (wI h24 a0 4 (h24.1 a1 4)) a0 5 ((wI h24 a0 4 (h24.1 a1 4)).1 a1 5)).1 a1 6)).1 a1 7)).1 a1 8)) a0 9 ((wI (wI (wI (wI (wI h24 a0 4 (h24.1 a1 4)) a0 5 ((wI h24 a0 4 (h24.1 a1 4)).1 a1 5)) a0 6 ((wI (wI h24 a0 4 (h24.1 a1 4)) a0 5 ((wI h24 a0 4 (h24.1 a1 4)).1 a1 5)).1 a1 6)) a0 7 ((wI (wI (wI h24 a0 4 (h24.1 a1 4)) a0 5 ((wI h24 a0 4 (h24.1 a1 4)).1 a1 5)) a0 6 ((wI (wI h24 a0 4 (h24.1 a1 4)) a0 5 ((wI h24 a0 4 (h24.1 a1 4)).1 a1 5)).1 a1 6)).1 a1 7)) a0 8 ((wI (wI (wI (wI h24 a0 4 (h24.1 a1 4)) a0 5 ((wI h24 a0 4 (h24.1 a1 4)).1 a1 5)) a0 6 ((wI (wI h24 a0 4 (h24.1 a1 4)) a0 5 ((wI h24 a0 4 (h24.1 a1 4)).1 a1 5)).1 a1 6)) a0 7 ((wI (wI (wI h24 a0 4 (h24.1 a1 4)) a0 5 ((wI h24 a0 4 (h24.1 a1 4)).1 a1 5)) a0 6 ((wI (wI h24 a0 4 (h24.1 a1 4)) a0 5 ((wI h24 a0 4 (h24.1 a1 4)).1 a1 5)).1 a1 6)).1 a1 7)).1 a1 8)).1 a1 9)).1 a1 10)).1 a1 11)).1 a1 12) = 0 ∨ ((wI (wI (wI (wI (wI (wI (wI (wI h24 a0 4 (h24.1 a1 4)) a0 5 ((wI h24 a0 4 (h24.1 a1 4)).1 a1 5)) a0 6 ((wI (wI h24 a0 4 (h24.1 a1 4)) a0 5 ((wI h24 a0 4 (h24.1 a1 4)).1 a1 5)).1 a1 6)) a0 7 ((wI (wI (wI h24 a0 4 (h24.1 a1 4)) a0 5 ((wI h24 a0 4 (h24.1 a1 4)).1 a1 5)) a0 6 ((wI (wI h24 a0 4 (h24.1 a1 4)) a0 5 ((wI h24 a0 4 (h24.1 a1 4)).1 a1 5)).1 a1 6)).1 a1 7)) a0 8 ((wI (wI (wI (wI h24 a0 4 (h24.1 a1 4)) a0 5 ((wI h24 a0 4 (h24.1 a1 4)).1 a1 5)) a0 6 ((wI (wI h24 a0 4 (h24.1 a1 4)) a0 5 ((wI h24 a0 4 (h24.1 a1 4)).1 a1 5)).1 a1 6)) a0 7 ((wI (wI (wI h24 a0 4 (h24.1 a1 4)) a0 5 ((wI h24 a0 4 (h24.1 a1 4)).1 a1 5)) a0 6 ((wI (wI h24 a0 4 (h24.1 a1 4)) a0 5 ((wI h24 a0 4 (h24.1 a1 4)).1 a1 5)).1 a1 6)).1 a1 7)).1 a1 8)) a0 9 ((wI (wI (wI (wI (wI h24 a0 4 (h24.1 a1 4)) a0 5 ((wI h24 a0 4 (h24.1 a1 4)).1 a1 5)) a0 6 ((wI (wI h24 a0 4 (h24.1 a1 4)) a0 5 ((wI h24 a0 4 (h24.1 a1 4)).1 a1 5)).1 a1 6)) a0 7 ((wI (wI (wI h24 a0 4 (h24.1 a1 4)) a0 5 ((wI h24 a0 4 (h24.1 a1 4)).1 a1 5)) a0 6 ((wI (wI h24 a0 4 (h24.1 a1 4)) a0 5 ((wI h24 a0 4 (h24.1 a1 4)).1 a1 5)).1 a1 6)).1 a1 7)) a0 8 ((wI (wI (wI (wI h24 a0 4 (h24.1 a1 4)) a0 5 ((wI h24 a0 4 (h24.1 a1 4)).1 a1 5)) a0 6 ((wI (wI h24 a0 4 (h24.1 a1 4)) a0 5 ((wI h24 a0 4 (h24.1 a1 4)).1 a1 5)).1 a1 6)) a0 7 ((wI (wI (wI h24 a0 4 (h24.1 a1 4)) a0 5 ((wI h24 a0 4 (h24.1 a1 4)).1 a1 5)) a0 6 ((wI (wI h24 a0 4 (h24.1 a1 4)) a0 5 ((wI h24 a0 4 (h24.1 a1 4)).1 a1 5)).1 a1 6)).1 a1 7)).1 a1 8)).1 a1 9)) a0 10 ((wI (wI (wI (wI (wI (wI h24 a0 4 (h24.1 a1 4)) a0 5 ((wI h24 a0 4 (h24.1 a1 4)).1 a1 5)) a0 6 ((wI (wI h24 a0 4 (h24.1 a1 4)) a0 5 ((wI h24 a0 4 (h24.1 a1 4)).1 a1 5)).1 a1 6)) a0 7 ((wI (wI (wI h24 a0 4 (h24.1 a1 4)) a0 5 ((wI h24 a0 4 (h24.1 a1 4)).1 a1 5)) a0 6 ((wI (wI h24 a0 4 (h24.1 a1 4)) a0 5 ((wI h24 a0 4 (h24.1 a1 4)).1 a1 5)).1 a1 6)).1 a1 7)) a0 8 ((wI (wI (wI (wI h24 a0 4 (h24.1 a1 4)) a0 5 ((wI h24 a0 4 (h24.1 a1 4)).1 a1 5)) a0 6 ((wI (wI h24 a0 4 (h24.1 a1 4)) a0 5 ((wI h24 a0 4 (h24.1 a1 4)).1 a1 5)).1 a1 6)) a0 7 ((wI (wI (wI h24 a0 4 (h24.1 a1 4)) a0 5 ((wI h24 a0 4 (h24.1 a1 4)).1 a1 5)) a0 6 ((wI (wI h24 a0 4 (h24.1 a1 4)) a0 5 ((wI h24 a0 4 (h24.1 a1 4)).1 a1 5)).1 a1 6)).1 a1 7)).1 a1 8)) a0 9 ((wI (wI (wI (wI (wI h24 a0 4 (h24.1 a1 4)) a0 5 ((wI h24 a0 4 (h24.1 a1 4)).1 a1 5)) a0 6 ((wI (wI h24 a0 4 (h24.1 a1 4)) a0 5 ((wI h24 a0 4 (h24.1 a1 4)).1 a1 5)).1 a1 6)) a0 7 ((wI (wI (wI h24 a0 4 (h24.1 a1 4)) a0 5 ((wI h24 a0 4 (h24.1 a1 4)).1 a1 5)) a0 6 ((wI (wI h24 a0 4 (h24.1 a1 4)) a0 5 ((wI h24 a0 4 (h24.1 a1 4)).1 a1 5)).1 a1 6)).1 a1 7)) a0 8 ((wI (wI (wI (wI h24 a0 4 (h24.1 a1 4)) a0 5 ((wI h24 a0 4 (h24.1 a1 4)).1 a1 5)) a0 6 ((wI (wI h24 a0 4 (h24.1 a1 4)) a0 5 ((wI h24 a0 4 (h24.1 a1 4)).1 a1 5)).1 a1 6)) a0 7 ((wI (wI (wI h24 a0 4 (h24.1 a1 4)) a0 5 ((wI h24 a0 4 (h24.1 a1 4)).1 a1 5)) a0 6 ((wI (wI h24 a0 4 (h24.1 a1 4)) a0 5 ((wI h24 a0 4 (h24.1 a1 4)).1 a1 5)).1 a1 6)).1 a1 7)).1 a1 8)).1 a1 9)).1 a1 10)) a0 11 ((wI (wI (wI (wI (wI (wI (wI h24 a0 4 (h24.1 a1 4)) a0 5 ((wI h24 a0 4 (h24.1 a1 4)).1 a1 5)) a0 6 ((wI (wI h24 a0 4 (h24.1 a1 4)) a0 5 ((wI h24 a0 4 (h24.1 a1 4)).1 a1 5)).1 a1 6)) a0 7 ((wI (wI (wI h24 a0 4 (h24.1 a1 4)) a0 5 ((wI h24 a0 4 (h24.1 a1 4)).1 a1 5)) a0 6 ((wI (wI h24 a0 4 (h24.1 a1 4)) a0 5 ((wI h24 a0 4 (h24.1 a1 4)).1 a1 5)).1 a1 6)).1 a1 7)) a0 8 ((wI (wI (wI (wI h24 a0 4 (h24.1 a1 4)) a0 5 ((wI h24 a0 4 (h24.1 a1 4)).1 a1 5)) a0 6 ((wI (wI h24 a0 4 (h24.1 a1 4)) a0 5 ((wI h24 a0 4 (h24.1 a1 4)).1 a1 5)).1 a1 6)) a0 7 ((wI (wI (wI h24 a0 4 (h24.1 a1 4)) a0 5 ((wI h24 a0 4 (h24.1 a1 4)).1 a1 5)) a0 6 ((wI (wI h24 a0 4 (h24.1 a1 4)) a0 5 ((wI h24 a0 4 (h24.1 a1 4)).1 a1 5)).1 a1 6)).1 a1 7)).1 a1 8)) a0 9 ((wI (wI (wI (wI (wI h24 a0 4 (h24.1 a1 4)) a0 5 ((wI h24 a0 4 (h24.1 a1 4)).1 a1 5)) a0 6 ((wI (wI h24 a0 4 (h24.1 a1 4)) a0 5 ((wI h24 a0 4 (h24.1 a1 4)).1 a1 5)).1 a1 6)) a0 7 ((wI (wI (wI h24 a0 4 (h24.1 a1 4)) a0 5 ((wI h24 a0 4 (h24.1 a1 4)).1 a1 5)) a0 6 ((wI (wI h24 a0 4 (h24.1 a1 4)) a0 5 ((wI h24 a0 4 (h24.1 a1 4)).1 a1 5)).1 a1 6)).1 a1 7)) a0 8 ((wI (wI (wI (wI h24 a0 4 (h24.1 a1 4)) a0 5 ((wI h24 a0 4 (h24.1 a1 4)).1 a1 5)) a0 6 ((wI (wI h24 a0 4 (h24.1 a1 4)) a0 5 ((wI h24 a0 4 (h24.1 a1 4)).1 a1 5)).1 a1 6)) a0 7 ((wI (wI (wI h24 a0 4 (h24.1 a1 4)) a0 5 ((wI h24 a0 4 (h24.1 a1 4)).1 a1 5)) a0 6 ((wI (wI h24 a0 4 (h24.1 a1 4)) a0 5 ((wI h24 a0 4 (h24.1 a1 4)).1 a1 5)).1 a1 6)).1 a1 7)).1 a1 8)).1 a1 9)) a0 10 ((wI (wI (wI (wI (wI (wI h24 a0 4 (h24.1 a1 4)) a0 5 ((wI h24 a0 4 (h24.1 a1 4)).1 a1 5)) a0 6 ((wI (wI h24 a0 4 (h24.1 a1 4)) a0 5 ((wI h24 a0 4 (h24.1 a1 4)).1 a1 5)).1 a1 6)) a0 7 ((wI (wI (wI h24 a0 4 (h24.1 a1 4)) a0 5 ((wI h24 a0 4 (h24.1 a1 4)).1 a1 5)) a0 6 ((wI (wI h24 a0 4 (h24.1 a1 4)) a0 5 ((wI h24 a0 4 (h24.1 a1 4)).1 a1 5)).1 a1 6)).1 a1 7)) a0 8 ((wI (wI (wI (wI h24 a0 4 (h24.1 a1 4)) a0 5 ((wI h24 a0 4 (h24.1 a1 4)).1 a1 5)) a0 6 ((wI (wI h24 a0 4 (h24.1 a1 4)) a0 5 ((wI h24 a0 4 (h24.1 a1 4)).1 a1 5)).1 a1 6)) a0 7 ((wI (wI (wI h24 a0 4 (h24.1 a1 4)) a0 5 ((wI h24 a0 4 (h24.1 a1 4)).1 a1 5)) a0 6 ((wI (wI h24 a0 4 (h24.1 a1 4)) a0 5 ((wI h24 a0 4 (h24.1 a1 4)).1 a1 5)).1 a1 6)).1 a1 7)).1 a1 8)) a0 9 ((wI (wI (wI (wI (wI h24 a0 4 (h24.1 a1 4)) a0 5 ((wI h24 a0 4 (h24.1 a1 4)).1 a1 5)) a0 6 ((wI (wI h24 a0 4 (h24.1 a1 4)) a0 5 ((wI h24 a0 4 (h24.1 a1 4)).1 a1 5)).1 a1 6)) a0 7 ((wI (wI (wI h24 a0 4 (h24.1 a1 4)) a0 5 ((wI h24 a0 4 (h24.1 a1 4)).1 a1 5)) a0 6 ((wI (wI h24 a0 4 (h24.1 a1 4)) a0 5 ((wI h24 a0 4 (h24.1 a1 4)).1 a1 5)).1 a1 6)).1 a1 7)) a0 8 ((wI (wI (wI (wI h24 a0 4 (h24.1 a1 4)) a0 5 ((wI h24 a0 4 (h24.1 a1 4)).1 a1 5)) a0 6 ((wI (wI h24 a0 4 (h24.1 a1 4)) a0 5 ((wI h24 a0 4 (h24.1 a1 4)).1 a1 5)).1 a1 6)) a0 7 ((wI (wI (wI h24 a0 4 (h24.1 a1 4)) a0 5 ((wI h24 a0 4 (h24.1 a1 4)).1 a1 5)) a0 6 ((wI (wI h24 a0 4 (h24.1 a1 4)) a0 5 ((wI h24 a0 4 (h24.1 a1 4)).1 a1 5)).1 a1 6)).1 a1 7)).1 a1 8)).1 a1 9)).1 a1 10)).1 a1 11)).1 a1 12) = 1 then (some ((), (wI (wI (wI (wI (wI (wI (wI (wI (wI h24 a0 4 (h24.1 a1 4)) a0 5 ((wI h24 a0 4 (h24.1 a1 4)).1 a1 5)) a0 6 ((wI (wI h24 a0 4 (h24.1 a1 4)) a0 5 ((wI h24 a0 4 (h24.1 a1 4)).1 a1 5)).1 a1 6)) a0 7 ((wI (wI (wI h24 a0 4 (h24.1 a1 4)) a0 5 ((wI h24 a0 4 (h24.1 a1 4)).1 a1 5)) a0 6 ((wI (wI h24 a0 4 (h24.1 a1 4)) a0 5 ((wI h24 a0 4 (h24.1 a1 4)).1 a1 5)).1 a1 6)).1 a1 7)) a0 8 ((wI (wI (wI (wI h24 a0 4 (h24.1 a1 4)) a0 5 ((wI h24 a0 4 (h24.1 a1 4)).1 a1 5)) a0 6 ((wI (wI h24 a0 4 (h24.1 a1 4)) a0 5 ((wI h24 a0 4 (h24.1 a1 4)).1 a1 5)).1 a1 6)) a0 7 ((wI (wI (wI h24 a0 4 (h24.1 a1 4)) a0 5 ((wI h24 a0 4 (h24.1 a1 4)).1 a1 5)) a0 6 ((wI (wI h24 a0 4 (h24.1 a1 4)) a0 5 ((wI h24 a0 4 (h24.1 a1 4)).1 a1 5)).1 a1 6)).1 a1 7)).1 a1 8)) a0 9 ((wI (wI (wI (wI (wI h24 a0 4 (h24.1 a1 4)) a0 5 ((wI h24 a0 4 (h24.1 a1 4)).1 a1 5)) a0 6 ((wI (wI h24 a0 4 (h24.1 a1 4)) a0 5 ((wI h24 a0 4 (h24.1 a1 4)).1 a1 5)).1 a1 6)) a0 7 ((wI (wI (wI h24 a0 4 (h24.1 a1 4)) a0 5 ((wI h24 a0 4 (h24.1 a1 4)).1 a1 5)) a0 6 ((wI (wI h24 a0 4 (h24.1 a1 4)) a0 5 ((wI h24 a0 4 (h24.1 a1 4)).1 a1 5)).1 a1 6)).1 a1 7)) a0 8 ((wI (wI (wI (wI h24 a0 4 (h24.1 a1 4)) a0 5 ((wI h24 a0 4 (h24.1 a1 4)).1 a1 5)) a0 6 ((wI (wI h24 a0 4 (h24.1 a1 4)) a0 5 ((wI h24 a0 4 (h24.1 a1 4)).1 a1 5)).1 a1 6)) a0 7 ((wI (wI (wI h24 a0 4 (h24.1 a1 4)) a0 5 ((wI h24 a0 4 (h24.1 a1 4)).1 a1 5)) a0 6 ((wI (wI h24 a0 4 (h24.1 a1 4)) a0 5 ((wI h24 a0 4 (h24.1 a1 4)).1 a1 5)).1 a1 6)).1 a1 7)).1 a1 8)).1 a1 9)) a0 10 ((wI (wI (wI (wI (wI (wI h24 a0 4 (h24.1 a1 4)) a0 5 ((wI h24 a0 4 (h24.1 a1 4)).1 a1 5)) a0 6 ((wI (wI h24 a0 4 (h24.1 a1 4)) a0 5 ((wI h24 a0 4 (h24.1 a1 4)).1 a1 5)).1 a1 6)) a0 7 ((wI (wI (wI h24 a0 4 (h24.1 a1 4)) a0 5 ((wI h24 a0 4 (h24.1 a1 4)).1 a1 5)) a0 6 ((wI (wI h24 a0 4 (h24.1 a1 4)) a0 5 ((wI h24 a0 4 (h24.1 a1 4)).1 a1 5)).1 a1 6)).1 a1 7)) a0 8 ((wI (wI (wI (wI h24 a0 4 (h24.1 a1 4)) a0 5 ((wI h24 a0 4 (h24.1 a1 4)).1 a1 5)) a0 6 ((wI (wI h24 a0 4 (h24.1 a1 4)) a0 5 ((wI h24 a0 4 (h24.1 a1 4)).1 a1 5)).1 a1 6)) a0 7 ((wI (wI (wI h24 a0 4 (h24.1 a1 4)) a0 5 ((wI h24 a0 4 (h24.1 a1 4)).1 a1 5)) a0 6 ((wI (wI h24 a0 4 (h24.1 a1 4)) a0 5 ((wI h24 a0 4 (h24.1 a1 4)).1 a1 5)).1 a1 6)).1 a1 7)).1 a1 8)) a0 9 ((wI (wI (wI (wI (wI h24 a0 4 (h24.1 a1 4)) a0 5 ((wI h24 a0 4 (h24.1 a1 4)).1 a1 5)) a0 6 ((wI (wI h24 a0 4 (h24.1 a1 4)) a0 5 ((wI h24 a0 4 (h24.1 a1 4)).1 a1 5)).1 a1 6)) a0 7 ((wI (wI (wI h24 a0 4 (h24.1 a1 4)) a0 5 ((wI h24 a0 4 (h24.1 a1 4)).1 a1 5)) a0 6 ((wI (wI h24 a0 4 (h24.1 a1 4)) a0 5 ((wI h24 a0 4 (h24.1 a1 4)).1 a1 5)).1 a1 6)).1 a1 7)) a0 8 ((wI (wI (wI (wI h24 a0 4 (h24.1 a1 4)) a0 5 ((wI h24 a0 4 (h24.1 a1 4)).1 a1 5)) a0 6 ((wI (wI h24 a0 4 (h24.1 a1 4)) a0 5 ((wI h24 a0 4 (h24.1 a1 4)).1 a1 5)).1 a1 6)) a0 7 ((wI (wI (wI h24 a0 4 (h24.1 a1 4)) a0 5 ((wI h24 a0 4 (h24.1 a1 4)).1 a1 5)) a0 6 ((wI (wI h24 a0 4 (h24.1 a1 4)) a0 5 ((wI h24 a0 4 (h24.1 a1 4)).1 a1 5)).1 a1 6)).1 a1 7)).1 a1 8)).1 a1 9)).1 a1 10)) a0 11 ((wI (wI (wI (wI (wI (wI (wI h24 a0 4 (h24.1 a1 4)) a0 5 ((wI h24 a0 4 (h24.1 a1 4)).1 a1 5)) a0 6 ((wI (wI h24 a0 4 (h24.1 a1 4)) a0 5 ((wI h24 a0 4 (h24.1 a1 4)).1 a1 5)).1 a1 6)) a0 7 ((wI (wI (wI h24 a0 4 (h24.1 a1 4)) a0 5 ((wI h24 a0 4 (h24.1 a1 4)).1 a1 5)) a0 6 ((wI (wI h24 a0 4 (h24.1 a1 4)) a0 5 ((wI h24 a0 4 (h24.1 a1 4)).1 a1 5)).1 a1 6)).1 a1 7)) a0 8 ((wI (wI (wI (wI h24 a0 4 (h24.1 a1 4)) a0 5 ((wI h24 a0 4 (h24.1 a1 4)).1 a1 5)) a0 6 ((wI (wI h24 a0 4 (h24.1 a1 4)) a0 5 ((wI h24 a0 4 (h24.1 a1 4)).1 a1 5)).1 a1 6)) a0 7 ((wI (wI (wI h24 a0 4 (h24.1 a1 4)) a0 5 ((wI h24 a0 4 (h24.1 a1 4)).1 a1 5)) a0 6 ((wI (wI h24 a0 4 (h24.1 a1 4)) a0 5 ((wI h24 a0 4 (h24.1 a1 4)).1 a1 5)).1 a1 6)).1 a1 7)).1 a1 8)) a0 9 ((wI (wI (wI (wI (wI h24 a0 4 (h24.1 a1 4)) a0 5 ((wI h24 a0 4 (h24.1 a1 4)).1 a1 5)) a0 6 ((wI (wI h24 a0 4 (h24.1 a1 4)) a0 5 ((wI h24 a0 4 (h24.1 a1 4)).1 a1 5)).1 a1 6)) a0 7 ((wI (wI (wI h24 a0 4 (h24.1 a1 4)) a0 5 ((wI h24 a0 4 (h24.1 a1 4)).1 a1 5)) a0 6 ((wI (wI h24 a0 4 (h24.1 a1 4)) a0 5 ((wI h24 a0 4 (h24.1 a1 4)).1 a1 5)).1 a1 6)).1 a1 7)) a0 8 ((wI (wI (wI (wI h24 a0 4 (h24.1 a1 4)) a0 5 ((wI h24 a0 4 (h24.1 a1 4)).1 a1 5)) a0 6 ((wI (wI h24 a0 4 (h24.1 a1 4)) a0 5 ((wI h24 a0 4 (h24.1 a1 4)).1 a1 5)).1 a1 6)) a0 7 ((wI (wI (wI h24 a0 4 (h24.1 a1 4)) a0 5 ((wI h24 a0 4 (h24.1 a1 4)).1 a1 5)) a0 6 ((wI (wI h24 a0 4 (h24.1 a1 4)) a0 5 ((wI h24 a0 4 (h24.1 a1 4)).1 a1 5)).1 a1 6)).1 a1 7)).1 a1 8)).1 a1 9)) a0 10 ((wI (wI (wI (wI (wI (wI h24 a0 4 (h24.1 a1 4)) a0 5 ((wI h24 a0 4 (h24.1 a1 4)).1 a1 5)) a0 6 ((wI (wI h24 a0 4 (h24.1 a1 4)) a0 5 ((wI h24 a0 4 (h24.1 a1 4)).1 a1 5)).1 a1 6)) a0 7 ((wI (wI (wI h24 a0 4 (h24.1 a1 4)) a0 5 ((wI h24 a0 4 (h24.1 a1 4)).1 a1 5)) a0 6 ((wI (wI h24 a0 4 (h24.1 a1 4)) a0 5 ((wI h24 a0 4 (h24.1 a1 4)).1 a1 5)).1 a1 6)).1 a1 7)) a0 8 ((wI (wI (wI (wI h24 a0 4 (h24.1 a1 4)) a0 5 ((wI h24 a0 4 (h24.1 a1 4)).1 a1 5)) a0 6 ((wI (wI h24 a0 4 (h24.1 a1 4)) a0 5 ((wI h24 a0 4 (h24.1 a1 4)).1 a1 5)).1 a1 6)) a0 7 ((wI (wI (wI h24 a0 4 (h24.1 a1 4)) a0 5 ((wI h24 a0 4 (h24.1 a1 4)).1 a1 5)) a0 6 ((wI (wI h24 a0 4 (h24.1 a1 4)) a0 5 ((wI h24 a0 4 (h24.1 a1 4)).1 a1 5)).1 a1 6)).1 a1 7)).1 a1 8)) a0 9 ((wI (wI (wI (wI (wI h24 a0 4 (h24.1 a1 4)) a0 5 ((wI h24 a0 4 (h24.1 a1 4)).1 a1 5)) a0 6 ((wI (wI h24 a0 4 (h24.1 a1 4)) a0 5 ((wI h24 a0 4 (h24.1 a1 4)).1 a1 5)).1 a1 6)) a0 7 ((wI (wI (wI h24 a0 4 (h24.1 a1 4)) a0 5 ((wI h24 a0 4 (h24.1 a1 4)).1 a1 5)) a0 6 ((wI (wI h24 a0 4 (h24.1 a1 4)) a0 5 ((wI h24 a0 4 (h24.1 a1 4)).1 a1 5)).1 a1 6)).1 a1 7)) a0 8 ((wI (wI (wI (wI h24 a0 4 (h24.1 a1 4)) a0 5 ((wI h24 a0 4 (h24.1 a1 4)).1 a1 5)) a0 6 ((wI (wI h24 a0 4 (h24.1 a1 4)) a0 5 ((wI h24 a0 4 (h24.1 a1 4)).1 a1 5)).1 a1 6)) a0 7 ((wI (wI (wI h24 a0 4 (h24.1 a1 4)) a0 5 ((wI h24 a0 4 (h24.1 a1 4)).1 a1 5)) a0 6 ((wI (wI h24 a0 4 (h24.1 a1 4)) a0 5 ((wI h24 a0 4 (h24.1 a1 4)).1 a1 5)).1 a1 6)).1 a1 7)).1 a1 8)).1 a1 9)).1 a1 10)).1 a1 11)) a0 12 ((wI (wI (wI (wI (wI (wI (wI (wI h24 a0 4 (h24.1 a1 4)) a0 5 ((wI h24 a0 4 (h24.1 a1 4)).1 a1 5)) a0 6 ((wI (wI h24 a0 4 (h24.1 a1 4)) a0 5 ((wI h24 a0 4 (h24.1 a1 4)).1 a1 5)).1 a1 6)) a0 7 ((wI (wI (wI h24 a0 4 (h24.1 a1 4)) a0 5 ((wI h24 a0 4 (h24.1 a1 4)).1 a1 5)) a0 6 ((wI (wI h24 a0 4 (h24.1 a1 4)) a0 5 ((wI h24 a0 4 (h24.1 a1 4)).1 a1 5)).1 a1 6)).1 a1 7)) a0 8 ((wI (wI (wI (wI h24 a0 4 (h24.1 a1 4)) a0 5 ((wI h24 a0 4 (h24.1 a1 4)).1 a1 5)) a0 6 ((wI (wI h24 a0 4 (h24.1 a1 4)) a0 5 ((wI h24 a0 4 (h24.1 a1 4)).1 a1 5)).1 a1 6)) a0 7 ((wI (wI (wI h24 a0 4 (h24.1 a1 4)) a0 5 ((wI h24 a0 4 (h24.1 a1 4)).1 a1 5)) a0 6 ((wI (wI h24 a0 4 (h24.1 a1 4)) a0 5 ((wI h24 a0 4 (h24.1 a1 4)).1 a1 5)).1 a1 6)).1 a1 7)).1 a1 8)) a0 9 ((wI (wI (wI (wI (wI h24 a0 4 (h24.1 a1 4)) a0 5 ((wI h24 a0 4 (h24.1 a1 4)).1 a1 5)) a0 6 ((wI (wI h24 a0 4 (h24.1 a1 4)) a0 5 ((wI h24 a0 4 (h24.1 a1 4)).1 a1 5)).1 a1 6)) a0 7 ((wI (wI (wI h24 a0 4 (h24.1 a1 4)) a0 5 ((wI h24 a0 4 (h24.1 a1 4)).1 a1 5)) a0 6 ((wI (wI h24 a0 4 (h24.1 a1 4)) a0 5 ((wI h24 a0 4 (h24.1 a1 4)).1 a1 5)).1 a1 6)).1 a1 7)) a0 8 ((wI (wI (wI (wI h24 a0 4 (h24.1 a1 4)) a0 5 ((wI h24 a0 4 (h24.1 a1 4)).1 a1 5)) a0 6 ((wI (wI h24 a0 4 (h24.1 a1 4)) a0 5 ((wI h24 a0 4 (h24.1 a1 4)).1 a1 5)).1 a1 6)) a0 7 ((wI (wI (wI h24 a0 4 (h24.1 a1 4)) a0 5 ((wI h24 a0 4 (h24.1 a1 4)).1 a1 5)) a0 6 ((wI (wI h24 a0 4 (h24.1 a1 4)) a0 5 ((wI h24 a0 4 (h24.1 a1 4)).1 a1 5)).1 a1 6)).1 a1 7)).1 a1 8)).1 a1 9)) a0 10 ((wI (wI (wI (wI (wI (wI h24 a0 4 (h24.1 a1 4)) a0 5 ((wI h24 a0 4 (h24.1 a1 4)).1 a1 5)) a0 6 ((wI (wI h24 a0 4 (h24.1 a1 4)) a0 5 ((wI h24 a0 4 (h24.1 a1 4)).1 a1 5)).1 a1 6)) a0 7 ((wI (wI (wI h24 a0 4 (h24.1 a1 4)) a0 5 ((wI h24 a0 4 (h24.1 a1 4)).1 a1 5)) a0 6 ((wI (wI h24 a0 4 (h24.1 a1 4)) a0 5 ((wI h24 a0 4 (h24.1 a1 4)).1 a1 5)).1 a1 6)).1 a1 7)) a0 8 ((wI (wI (wI (wI h24 a0 4 (h24.1 a1 4)) a0 5 ((wI h24 a0 4 (h24.1 a1 4)).1 a1 5)) a0 6 ((wI (wI h24 a0 4 (h24.1 a1 4)) a0 5 ((wI h24 a0 4 (h24.1 a1 4)).1 a1 5)).1 a1 6)) a0 7 ((wI (wI (wI h24 a0 4 (h24.1 a1 4)) a0 5 ((wI h24 a0 4 (h24.1 a1 4)).1 a1 5)) a0 6 ((wI (wI h24 a0 4 (h24.1 a1 4)) a0 5 ((wI h24 a0 4 (h24.1 a1 4)).1 a1 5)).1 a1 6)).1 a1 7)).1 a1 8)) a0 9 ((wI (wI (wI (wI (wI h24 a0 4 (h24.1 a1 4)) a0 5 ((wI h24 a0 4 (h24.1 a1 4)).1 a1 5)) a0 6 ((wI (wI h24 a0 4 (h24.1 a1 4)) a0 5 ((wI h24 a0 4 (h24.1 a1 4)).1 a1 5)).1 a1 6)) a0 7 ((wI (wI (wI h24 a0 4 (h24.1 a1 4)) a0 5 ((wI h24 a0 4 (h24.1 a1 4)).1 a1 5)) a0 6 ((wI (wI h24 a0 4 (h24.1 a1 4)) a0 5 ((wI h24 a0 4 (h24.1 a1 4)).1 a1 5)).1 a1 6)).1 a1 7)) a0 8 ((wI (wI (wI (wI h24 a0 4 (h24.1 a1 4)) a0 5 ((wI h24 a0 4 (h24.1 a1 4)).1 a1 5)) a0 6 ((wI (wI h24 a0 4 (h24.1 a1 4)) a0 5 ((wI h24 a0 4 (h24.1 a1 4)).1 a1 5)).1 a1 6)) a0 7 ((wI (wI (wI h24 a0 4 (h24.1 a1 4)) a0 5 ((wI h24 a0 4 (h24.1 a1 4)).1 a1 5)) a0 6 ((wI (wI h24 a0 4 (h24.1 a1 4)) a0 5 ((wI h24 a0 4 (h24.1 a1 4)).1 a1 5)).1 a1 6)).1 a1 7)).1 a1 8)).1 a1 9)).1 a1 10)) a0 11 ((wI (wI (wI (wI (wI (wI (wI h24 a0 4 (h24.1 a1 4)) a0 5 ((wI h24 a0 4 (h24.1 a1 4)).1 a1 5)) a0 6 ((wI (wI h24 a0 4 (h24.1 a1 4)) a0 5 ((wI h24 a0 4 (h24.1 a1 4)).1 a1 5)).1 a1 6)) a0 7 ((wI (wI (wI h24 a0 4 (h24.1 a1 4)) a0 5 ((wI h24 a0 4 (h24.1 a1 4)).1 a1 5)) a0 6 ((wI (wI h24 a0 4 (h24.1 a1 4)) a0 5 ((wI h24 a0 4 (h24.1 a1 4)).1 a1 5)).1 a1 6)).1 a1 7)) a0 8 ((wI (wI (wI (wI h24 a0 4 (h24.1 a1 4)) a0 5 ((wI h24 a0 4 (h24.1 a1 4)).1 a1 5)) a0 6 ((wI (wI h24 a0 4 (h24.1 a1 4)) a0 5 ((wI h24 a0 4 (h24.1 a1 4)).1 a1 5)).1 a1 6)) a0 7 ((wI (wI (wI h24 a0 4 (h24.1 a1 4)) a0 5 ((wI h24 a0 4 (h24.1 a1 4)).1 a1 5)) a0 6 ((wI (wI h24 a0 4 (h24.1 a1 4)) a0 5 ((wI h24 a0 4 (h24.1 a1 4)).1 a1 5)).1 a1 6)).1 a1 7)).1 a1 8)) a0 9 ((wI (wI (wI (wI (wI h24 a0 4 (h24.1 a1 4)) a0 5 ((wI h24 a0 4 (h24.1 a1 4)).1 a1 5)) a0 6 ((wI (wI h24 a0 4 (h24.1 a1 4)) a0 5 ((wI h24 a0 4 (h24.1 a1 4)).1 a1 5)).1 a1 6)) a0 7 ((wI (wI (wI h24 a0 4 (h24.1 a1 4)) a0 5 ((wI h24 a0 4 (h24.1 a1 4)).1 a1 5)) a0 6 ((wI (wI h24 a0 4 (h24.1 a1 4)) a0 5 ((wI h24 a0 4 (h24.1 a1 4)).1 a1 5)).1 a1 6)).1 a1 7)) a0 8 ((wI (wI (wI (wI h24 a0 4 (h24.1 a1 4)) a0 5 ((wI h24 a0 4 (h24.1 a1 4)).1 a1 5)) a0 6 ((wI (wI h24 a0 4 (h24.1 a1 4)) a0 5 ((wI h24 a0 4 (h24.1 a1 4)).1 a1 5)).1 a1 6)) a0 7 ((wI (wI (wI h24 a0 4 (h24.1 a1 4)) a0 5 ((wI h24 a0 4 (h24.1 a1 4)).1 a1 5)) a0 6 ((wI (wI h24 a0 4 (h24.1 a1 4)) a0 5 ((wI h24 a0 4 (h24.1 a1 4)).1 a1 5)).1 a1 6)).1 a1 7)).1 a1 8)).1 a1 9)) a0 10 ((wI (wI (wI (wI (wI (wI h24 a0 4 (h24.1 a1 4)) a0 5 ((wI h24 a0 4 (h24.1 a1 4)).1 a1 5)) a0 6 ((wI (wI h24 a0 4 (h24.1 a1 4)) a0 5 ((wI h24 a0 4 (h24.1 a1 4)).1 a1 5)).1 a1 6)) a0 7 ((wI (wI (wI h24 a0 4 (h24.1 a1 4)) a0 5 ((wI h24 a0 4 (h24.1 a1 4)).1 a1 5)) a0 6 ((wI (wI h24 a0 4 (h24.1 a1 4)) a0 5 ((wI h24 a0 4 (h24.1 a1 4)).1 a1 5)).1 a1 6)).1 a1 7)) a0 8 ((wI (wI (wI (wI h24 a0 4 (h24.1 a1 4)) a0 5 ((wI h24 a0 4 (h24.1 a1 4)).1 a1 5)) a0 6 ((wI (wI h24 a0 4 (h24.1 a1 4)) a0 5 ((wI h24 a0 4 (h24.1 a1 4)).1 a1 5)).1 a1 6)) a0 7 ((wI (wI (wI h24 a0 4 (h24.1 a1 4)) a0 5 ((wI h24 a0 4 (h24.1 a1 4)).1 a1 5)) a0 6 ((wI (wI h24 a0 4 (h24.1 a1 4)) a0 5 ((wI h24 a0 4 (h24.1 a1 4)).1 a1 5)).1 a1 6)).1 a1 7)).1 a1 8)) a0 9 ((wI (wI (wI (wI (wI h24 a0 4 (h24.1 a1 4)) a0 5 ((wI h24 a0 4 (h24.1 a1 4)).1 a1 5)) a0 6 ((wI (wI h24 a0 4 (h24.1 a1 4)) a0 5 ((wI h24 a0 4 (h24.1 a1 4)).1 a1 5)).1 a1 6)) a0 7 ((wI (wI (wI h24 a0 4 (h24.1 a1 4)) a0 5 ((wI h24 a0 4 (h24.1 a1 4)).1 a1 5)) a0 6 ((wI (wI h24 a0 4 (h24.1 a1 4)) a0 5 ((wI h24 a0 4 (h24.1 a1 4)).1 a1 5)).1 a1 6)).1 a1 7)) a0 8 ((wI (wI (wI (wI h24 a0 4 (h24.1 a1 4)) a0 5 ((wI h24 a0 4 (h24.1 a1 4)).1 a1 5)) a0 6 ((wI (wI h24 a0 4 (h24.1 a1 4)) a0 5 ((wI h24 a0 4 (h24.1 a1 4)).1 a1 5)).1 a1 6)) a0 7 ((wI (wI (wI h24 a0 4 (h24.1 a1 4)) a0 5 ((wI h24 a0 4 (h24.1 a1 4)).1 a1 5)) a0 6 ((wI (wI h24 a0 4 (h24.1 a1 4)) a0 5 ((wI h24 a0 4 (h24.1 a1 4)).1 a1 5)).1 a1 6)).1 a1 7)).1 a1 8)).1 a1 9)).1 a1 10)).1 a1 11)).1 a1 12)))) else none) else none)))))))))
set_option maxRecDepth 100000 in
set_option maxHeartbeats 4000000 in
theorem s_X0_copyFrom {X : WX} {o : Mm} {a0 : Nat} {a1 : Nat} {rv : Unit} {hz : Mm} {h : Mm} (ha0 : isBed a0) (ha1 : isBed a1) (hF : X0_copyFrom a0 a1 h = some (rv, hz)) : Sat X yX0_copyFrom cX0_copyFrom 2 (none) 3 [.ref (xa X a0), .ref (xa X a1)] true o h none hz := by
  unfold X0_copyFrom at hF
  refine Sat.mk (own := RX0) rfl (by decide +kernel) (Nat.le_of_ble_eq_true rfl) (fun G => ?_)
  refine V.sub (lv2 := [(0, _), (1, _)]) [0, 1] rfl ?_
  refine V.aload_n 1 dX0_copyFrom_0 rfl rfl ?_
  refine V.getR (v := a1 + 1) fl_X0_9 ha1.sh rfl ha1.fx0 (by have := ha1.lt; omega) dX0_copyFrom_1 ?_
  refine V.aload_n 0 dX0_copyFrom_4 rfl rfl ?_
  refine V.getR (v := a0 + 1) fl_X0_9 ha0.sh rfl ha0.fx0 (by have := ha0.lt; omega) dX0_copyFrom_5 ?_
  obtain ⟨r13, h15, hc14, hF⟩ := bd_s hF
  refine V.callNv mf_X11_copy ml_X0_76 (s_X11_copy ha1.a0 ha0.a0 hc14) (by decide) rfl rfl (Nat.le_of_ble_eq_true rfl) dX0_copyFrom_8 ?_
  refine V.aload_n 1 dX0_copyFrom_11 rfl rfl ?_
  refine V.getR (v := a1 + 2) fl_X0_15 ha1.sh rfl ha1.fx1 (by have := ha1.lt; omega) dX0_copyFrom_12 ?_
  refine V.aload_n 0 dX0_copyFrom_15 rfl rfl ?_
  refine V.getR (v := a0 + 2) fl_X0_15 ha0.sh rfl ha0.fx1 (by have := ha0.lt; omega) dX0_copyFrom_16 ?_
  obtain ⟨r16, h18, hc17, hF⟩ := bd_s hF
  refine V.callNv mf_X11_copy ml_X0_76 (s_X11_copy ha1.a1 ha0.a1 hc17) (by decide) rfl rfl (Nat.le_of_ble_eq_true rfl) dX0_copyFrom_19 ?_
  refine V.aload_n 1 dX0_copyFrom_22 rfl rfl ?_
  refine V.getR (v := a1 + 3) fl_X0_18 ha1.sh rfl ha1.fx2 (by have := ha1.lt; omega) dX0_copyFrom_23 ?_
  refine V.aload_n 0 dX0_copyFrom_26 rfl rfl ?_
  refine V.getR (v := a0 + 3) fl_X0_18 ha0.sh rfl ha0.fx2 (by have := ha0.lt; omega) dX0_copyFrom_27 ?_
  obtain ⟨r19, h21, hc20, hF⟩ := bd_s hF
  refine V.callNv mf_X11_copy ml_X0_76 (s_X11_copy ha1.a2 ha0.a2 hc20) (by decide) rfl rfl (Nat.le_of_ble_eq_true rfl) dX0_copyFrom_30 ?_
  refine V.aload_n 1 dX0_copyFrom_33 rfl rfl ?_
  refine V.getR (v := a1 + 4) fl_X0_21 ha1.sh rfl ha1.fx3 (by have := ha1.lt; omega) dX0_copyFrom_34 ?_
  refine V.aload_n 0 dX0_copyFrom_37 rfl rfl ?_
  refine V.getR (v := a0 + 4) fl_X0_21 ha0.sh rfl ha0.fx3 (by have := ha0.lt; omega) dX0_copyFrom_38 ?_
  obtain ⟨r22, h24, hc23, hF⟩ := bd_s hF
  refine V.callNv mf_X11_copy ml_X0_76 (s_X11_copy ha1.a3 ha0.a3 hc23) (by decide) rfl rfl (Nat.le_of_ble_eq_true rfl) dX0_copyFrom_41 ?_
  refine V.aload_n 0 dX0_copyFrom_44 rfl rfl ?_
  refine V.aload_n 1 dX0_copyFrom_45 rfl rfl ?_
  refine V.getI fl_X0_44 ha1.sh rfl ha1.km dX0_copyFrom_46 ?_
  refine V.putI fl_X0_44 rfl (tyX0_ok 4 (by decide)) rfl rfl ha0.sh rfl ha0.km dX0_copyFrom_49 ?_
  refine V.aload_n 0 dX0_copyFrom_52 rfl rfl ?_
  refine V.aload_n 1 dX0_copyFrom_53 rfl rfl ?_
  refine V.getI fl_X0_48 ha1.sh rfl ha1.km dX0_copyFrom_54 ?_
  refine V.putI fl_X0_48 rfl (tyX0_ok 5 (by decide)) rfl rfl ha0.sh rfl ha0.km dX0_copyFrom_57 ?_
  refine V.aload_n 0 dX0_copyFrom_60 rfl rfl ?_
  refine V.aload_n 1 dX0_copyFrom_61 rfl rfl ?_
  refine V.getI fl_X0_51 ha1.sh rfl ha1.km dX0_copyFrom_62 ?_
  refine V.putI fl_X0_51 rfl (tyX0_ok 6 (by decide)) rfl rfl ha0.sh rfl ha0.km dX0_copyFrom_65 ?_
  refine V.aload_n 0 dX0_copyFrom_68 rfl rfl ?_
  refine V.aload_n 1 dX0_copyFrom_69 rfl rfl ?_
  refine V.getI fl_X0_54 ha1.sh rfl ha1.km dX0_copyFrom_70 ?_
  refine V.putI fl_X0_54 rfl (tyX0_ok 7 (by decide)) rfl rfl ha0.sh rfl ha0.km dX0_copyFrom_73 ?_
  refine V.aload_n 0 dX0_copyFrom_76 rfl rfl ?_
  refine V.aload_n 1 dX0_copyFrom_77 rfl rfl ?_
  refine V.getI fl_X0_57 ha1.sh rfl ha1.km dX0_copyFrom_78 ?_
  refine V.putI fl_X0_57 rfl (tyX0_ok 8 (by decide)) rfl rfl ha0.sh rfl ha0.km dX0_copyFrom_81 ?_
  refine V.aload_n 0 dX0_copyFrom_84 rfl rfl ?_
  refine V.aload_n 1 dX0_copyFrom_85 rfl rfl ?_
  refine V.getI fl_X0_66 ha1.sh rfl ha1.km dX0_copyFrom_86 ?_
  refine V.putI fl_X0_66 rfl (tyX0_ok 9 (by decide)) rfl rfl ha0.sh rfl ha0.km dX0_copyFrom_89 ?_
  refine V.aload_n 0 dX0_copyFrom_92 rfl rfl ?_
  refine V.aload_n 1 dX0_copyFrom_93 rfl rfl ?_
  refine V.getI fl_X0_60 ha1.sh rfl ha1.km dX0_copyFrom_94 ?_
  refine V.putI fl_X0_60 rfl (tyX0_ok 10 (by decide)) rfl rfl ha0.sh rfl ha0.km dX0_copyFrom_97 ?_
  refine V.aload_n 0 dX0_copyFrom_100 rfl rfl ?_
  refine V.aload_n 1 dX0_copyFrom_101 rfl rfl ?_
  refine V.getI fl_X0_69 ha1.sh rfl ha1.km dX0_copyFrom_102 ?_
  obtain ⟨hk, hF⟩ := ck hF
  refine V.putI fl_X0_69 rfl (tyX0_ok 11 (by decide)) (narI hk).1 (narI hk).2 ha0.sh rfl ha0.km dX0_copyFrom_105 ?_
  refine V.aload_n 0 dX0_copyFrom_108 rfl rfl ?_
  refine V.aload_n 1 dX0_copyFrom_109 rfl rfl ?_
  refine V.getI fl_X0_73 ha1.sh rfl ha1.km dX0_copyFrom_110 ?_
  obtain ⟨hk, hF⟩ := ck hF
  refine V.putI fl_X0_73 rfl (tyX0_ok 12 (by decide)) (narI hk).1 (narI hk).2 ha0.sh rfl ha0.km dX0_copyFrom_113 ?_
  cases hF
  exact V.vret dX0_copyFrom_116
/-! MonsterCot$Past.keep -/
theorem dX5_keep_0 : decode cX5_keep 0 = .ok (.aload_n 0, 1) := by decide +kernel
theorem dX5_keep_1 : decode cX5_keep 1 = .ok (.getfield 37, 3) := by decide +kernel
theorem dX5_keep_4 : decode cX5_keep 4 = .ok (.ifCond .lt 80, 3) := by decide +kernel
theorem dX5_keep_7 : decode cX5_keep 7 = .ok (.aload_n 0, 1) := by decide +kernel
theorem dX5_keep_8 : decode cX5_keep 8 = .ok (.getfield 37, 3) := by decide +kernel
theorem dX5_keep_11 : decode cX5_keep 11 = .ok (.aload_n 0, 1) := by decide +kernel
theorem dX5_keep_12 : decode cX5_keep 12 = .ok (.getfield 13, 3) := by decide +kernel
theorem dX5_keep_15 : decode cX5_keep 15 = .ok (.arraylength, 1) := by decide +kernel
theorem dX5_keep_16 : decode cX5_keep 16 = .ok (.if_icmp .ge 68, 3) := by decide +kernel
theorem dX5_keep_19 : decode cX5_keep 19 = .ok (.aload_n 0, 1) := by decide +kernel
theorem dX5_keep_20 : decode cX5_keep 20 = .ok (.getfield 13, 3) := by decide +kernel
theorem dX5_keep_23 : decode cX5_keep 23 = .ok (.aload_n 0, 1) := by decide +kernel
theorem dX5_keep_24 : decode cX5_keep 24 = .ok (.getfield 37, 3) := by decide +kernel
theorem dX5_keep_27 : decode cX5_keep 27 = .ok (.aaload, 1) := by decide +kernel
theorem dX5_keep_28 : decode cX5_keep 28 = .ok (.ifnull 56, 3) := by decide +kernel
theorem dX5_keep_31 : decode cX5_keep 31 = .ok (.aload_n 0, 1) := by decide +kernel
theorem dX5_keep_32 : decode cX5_keep 32 = .ok (.getfield 13, 3) := by decide +kernel
theorem dX5_keep_35 : decode cX5_keep 35 = .ok (.aload_n 0, 1) := by decide +kernel
theorem dX5_keep_36 : decode cX5_keep 36 = .ok (.getfield 37, 3) := by decide +kernel
theorem dX5_keep_39 : decode cX5_keep 39 = .ok (.aaload, 1) := by decide +kernel
theorem dX5_keep_40 : decode cX5_keep 40 = .ok (.aload_n 1, 1) := by decide +kernel
theorem dX5_keep_41 : decode cX5_keep 41 = .ok (.invokevirtual 40, 3) := by decide +kernel
theorem dX5_keep_44 : decode cX5_keep 44 = .ok (.aload_n 0, 1) := by decide +kernel
theorem dX5_keep_45 : decode cX5_keep 45 = .ok (.aload_n 0, 1) := by decide +kernel
theorem dX5_keep_46 : decode cX5_keep 46 = .ok (.getfield 37, 3) := by decide +kernel
theorem dX5_keep_49 : decode cX5_keep 49 = .ok (.iconst 1, 1) := by decide +kernel
theorem dX5_keep_50 : decode cX5_keep 50 = .ok (.iadd, 1) := by decide +kernel
theorem dX5_keep_51 : decode cX5_keep 51 = .ok (.bipush 40, 2) := by decide +kernel
theorem dX5_keep_53 : decode cX5_keep 53 = .ok (.if_icmp .ge 12, 3) := by decide +kernel
theorem dX5_keep_56 : decode cX5_keep 56 = .ok (.aload_n 0, 1) := by decide +kernel
theorem dX5_keep_57 : decode cX5_keep 57 = .ok (.getfield 37, 3) := by decide +kernel
theorem dX5_keep_60 : decode cX5_keep 60 = .ok (.iconst 1, 1) := by decide +kernel
theorem dX5_keep_61 : decode cX5_keep 61 = .ok (.iadd, 1) := by decide +kernel
theorem dX5_keep_62 : decode cX5_keep 62 = .ok (.goto 4, 3) := by decide +kernel
theorem dX5_keep_65 : decode cX5_keep 65 = .ok (.iconst 0, 1) := by decide +kernel
theorem dX5_keep_66 : decode cX5_keep 66 = .ok (.putfield 37, 3) := by decide +kernel
theorem dX5_keep_69 : decode cX5_keep 69 = .ok (.aload_n 0, 1) := by decide +kernel
theorem dX5_keep_70 : decode cX5_keep 70 = .ok (.aload_n 0, 1) := by decide +kernel
theorem dX5_keep_71 : decode cX5_keep 71 = .ok (.getfield 29, 3) := by decide +kernel
theorem dX5_keep_74 : decode cX5_keep 74 = .ok (.iconst 1, 1) := by decide +kernel
theorem dX5_keep_75 : decode cX5_keep 75 = .ok (.iadd, 1) := by decide +kernel
theorem dX5_keep_76 : decode cX5_keep 76 = .ok (.bipush 40, 2) := by decide +kernel
theorem dX5_keep_78 : decode cX5_keep 78 = .ok (.invokestatic 44, 3) := by decide +kernel
theorem dX5_keep_81 : decode cX5_keep 81 = .ok (.putfield 29, 3) := by decide +kernel
theorem dX5_keep_84 : decode cX5_keep 84 = .ok (.return_, 1) := by decide +kernel
def X5_keep_66 (a1 : Nat) (s1 : Int32) (h : Mm) : Option (Unit × Mm) := (bp (J9_min_7cf53 (((wI h 37 6 s1).1 37 5) + (1 : Int32)) (40 : Int32) (wI h 37 6 s1)) (fun r15 => (some ((), (wI (wI h 37 6 s1) 37 5 r15)))))
set_option maxRecDepth 100000 in
set_option maxHeartbeats 4000000 in
theorem v_X5_keep_66 {X : WX} {G : GX} {o : Mm} {a1 : Nat} {rv : Unit} {hz : Mm} (ha1 : isBed a1) {s1 : Int32} {h : Mm} (hF : X5_keep_66 a1 s1 h = some (rv, hz)) : V X G RX5 cX5_keep 2 (none) 4 0 0 (QR X G true o none hz) true o 66 [(0, .ref (xa X 37))] [.int s1, .ref (xa X 37)] h := by
  unfold X5_keep_66 at hF
  refine V.putI fl_X5_37 rfl (tyX5_ok 6 (by decide)) rfl rfl sh_37 rfl km_37 dX5_keep_66 ?_
  refine V.aload_n 0 dX5_keep_69 rfl rfl ?_
  refine V.aload_n 0 dX5_keep_70 rfl rfl ?_
  refine V.getI fl_X5_29 sh_37 rfl km_37 dX5_keep_71 ?_
  refine V.iconst (v := 1) dX5_keep_74 rfl ?_
  refine V.iadd dX5_keep_75 ?_
  refine V.bipush (v := 40) dX5_keep_76 (by decide) ?_
  obtain ⟨r15, hc16, hF⟩ := bp_s hF
  refine V.callSi mf_J9_min_7cf53 ml_X5_44 (s_J9_min_7cf53 hc16) (by decide) rfl rfl (Nat.le_of_ble_eq_true rfl) dX5_keep_78 ?_
  refine V.putI fl_X5_29 rfl (tyX5_ok 5 (by decide)) rfl rfl sh_37 rfl km_37 dX5_keep_81 ?_
  cases hF
  exact V.vret dX5_keep_84
def X5_keep (a1 : Nat) (h : Mm) : Option (Unit × Mm) := (if (h.1 37 6) < 0 then (some ((), h)) else (if (40 : Int32) ≤ (h.1 37 6) then (some ((), h)) else (if inB (h.1 37 6) 40 then (if inB (h.1 37 6) 40 then (bd (X0_copyFrom (46 + 5 * (h.1 37 6).toNatClampNeg) a1 h) (fun _ h21 => (if (40 : Int32) ≤ ((h21.1 37 6) + (1 : Int32)) then (X5_keep_66 a1 (0 : Int32) h21) else (X5_keep_66 a1 ((h21.1 37 6) + (1 : Int32)) h21)))) else none) else none)))
set_option maxRecDepth 100000 in
set_option maxHeartbeats 4000000 in
theorem s_X5_keep {X : WX} {o : Mm} {a1 : Nat} {rv : Unit} {hz : Mm} {h : Mm} (ha1 : isBed a1) (hF : X5_keep a1 h = some (rv, hz)) : Sat X yX5_keep cX5_keep 2 (none) 4 [.ref (xa X 37), .ref (xa X a1)] true o h none hz := by
  unfold X5_keep at hF
  refine Sat.mk (own := RX5) rfl (by decide +kernel) (Nat.le_of_ble_eq_true rfl) (fun G => ?_)
  refine V.sub (lv2 := [(0, _), (1, _)]) [0, 1] rfl ?_
  refine V.aload_n 0 dX5_keep_0 rfl rfl ?_
  refine V.getI fl_X5_37 sh_37 rfl km_37 dX5_keep_1 ?_
  refine V.if_lt (tgt := 84) dX5_keep_4 rfl (fun c => ?_) (fun c => ?_)
  · replace hF := ip c hF
    cases hF
    exact V.vret dX5_keep_84
  · replace hF := iq c hF
    refine V.aload_n 0 dX5_keep_7 rfl rfl ?_
    refine V.getI fl_X5_37 sh_37 rfl km_37 dX5_keep_8 ?_
    refine V.aload_n 0 dX5_keep_11 rfl rfl ?_
    refine V.getR (v := 38) fl_X5_13 sh_37 rfl fx_37_0 (by decide) dX5_keep_12 ?_
    refine V.alen (v := 40) sh_38 (by decide) rfl dX5_keep_15 ?_
    refine V.icmp_ge (tgt := 84) dX5_keep_16 rfl (fun c => ?_) (fun c => ?_)
    · replace hF := ip c hF
      cases hF
      exact V.vret dX5_keep_84
    · replace hF := iq c hF
      refine V.aload_n 0 dX5_keep_19 rfl rfl ?_
      refine V.getR (v := 38) fl_X5_13 sh_37 rfl fx_37_0 (by decide) dX5_keep_20 ?_
      refine V.aload_n 0 dX5_keep_23 rfl rfl ?_
      refine V.getI fl_X5_37 sh_37 rfl km_37 dX5_keep_24 ?_
      obtain ⟨hk, hF⟩ := ck hF
      have hx17 := hk.lt
      refine V.aald (v := (46 + 5 * (h.1 37 6).toNatClampNeg)) sh_38 (Or.inl rfl) hk (ring_fx hx17) (by omega) dX5_keep_27 ?_
      refine V.ifnull dX5_keep_28 ?_
      refine V.aload_n 0 dX5_keep_31 rfl rfl ?_
      refine V.getR (v := 38) fl_X5_13 sh_37 rfl fx_37_0 (by decide) dX5_keep_32 ?_
      refine V.aload_n 0 dX5_keep_35 rfl rfl ?_
      refine V.getI fl_X5_37 sh_37 rfl km_37 dX5_keep_36 ?_
      obtain ⟨hk, hF⟩ := ck hF
      have hx18 := hk.lt
      refine V.aald (v := (46 + 5 * (h.1 37 6).toNatClampNeg)) sh_38 (Or.inl rfl) hk (ring_fx hx18) (by omega) dX5_keep_39 ?_
      refine V.aload_n 1 dX5_keep_40 rfl rfl ?_
      obtain ⟨r19, h21, hc20, hF⟩ := bd_s hF
      refine V.callVv mf_X0_copyFrom ml_X5_40 (ring_bed hx18).sh (s_X0_copyFrom (ring_bed hx18) ha1 hc20) (by decide) rfl rfl (Nat.le_of_ble_eq_true rfl) dX5_keep_41 ?_
      refine V.aload_n 0 dX5_keep_44 rfl rfl ?_
      refine V.aload_n 0 dX5_keep_45 rfl rfl ?_
      refine V.getI fl_X5_37 sh_37 rfl km_37 dX5_keep_46 ?_
      refine V.iconst (v := 1) dX5_keep_49 rfl ?_
      refine V.iadd dX5_keep_50 ?_
      refine V.bipush (v := 40) dX5_keep_51 (by decide) ?_
      refine V.icmp_ge (tgt := 65) dX5_keep_53 rfl (fun c => ?_) (fun c => ?_)
      · replace hF := ip c hF
        refine V.iconst (v := 0) dX5_keep_65 rfl ?_
        exact V.sub [0] rfl (v_X5_keep_66 ha1 hF)
      · replace hF := iq c hF
        refine V.aload_n 0 dX5_keep_56 rfl rfl ?_
        refine V.getI fl_X5_37 sh_37 rfl km_37 dX5_keep_57 ?_
        refine V.iconst (v := 1) dX5_keep_60 rfl ?_
        refine V.iadd dX5_keep_61 ?_
        refine V.goto (tgt := 66) dX5_keep_62 rfl ?_
        exact V.sub [0] rfl (v_X5_keep_66 ha1 hF)
/-! MonsterCot.within -/
theorem dX11_within_0 : decode cX11_within 0 = .ok (.iload_n 1, 1) := by decide +kernel
theorem dX11_within_1 : decode cX11_within 1 = .ok (.iload_n 0, 1) := by decide +kernel
theorem dX11_within_2 : decode cX11_within 2 = .ok (.if_icmp .ge 7, 3) := by decide +kernel
theorem dX11_within_5 : decode cX11_within 5 = .ok (.iload_n 0, 1) := by decide +kernel
theorem dX11_within_6 : decode cX11_within 6 = .ok (.goto 13, 3) := by decide +kernel
theorem dX11_within_9 : decode cX11_within 9 = .ok (.iload_n 1, 1) := by decide +kernel
theorem dX11_within_10 : decode cX11_within 10 = .ok (.iload_n 2, 1) := by decide +kernel
theorem dX11_within_11 : decode cX11_within 11 = .ok (.if_icmp .le 7, 3) := by decide +kernel
theorem dX11_within_14 : decode cX11_within 14 = .ok (.iload_n 2, 1) := by decide +kernel
theorem dX11_within_15 : decode cX11_within 15 = .ok (.goto 4, 3) := by decide +kernel
theorem dX11_within_18 : decode cX11_within 18 = .ok (.iload_n 1, 1) := by decide +kernel
theorem dX11_within_19 : decode cX11_within 19 = .ok (.ireturn, 1) := by decide +kernel
def X11_within (x0 : Int32) (x1 : Int32) (x2 : Int32) (h : Mm) : Option Int32 := (if x0 ≤ x1 then (if x1 ≤ x2 then (some x1) else (some x2)) else (some x0))
set_option maxRecDepth 100000 in
set_option maxHeartbeats 4000000 in
theorem s_X11_within {X : WX} {o : Mm} {x0 : Int32} {x1 : Int32} {x2 : Int32} {rv : Int32} {h : Mm} (hF : X11_within x0 x1 x2 h = some rv) : Sat X yX11_within cX11_within 3 (some .int) 1 [.int x0, .int x1, .int x2] true o h (some (.int rv)) h := by
  unfold X11_within at hF
  refine Sat.mk (own := RX11) rfl (by decide +kernel) (Nat.le_of_ble_eq_true rfl) (fun G => ?_)
  refine V.sub (lv2 := [(0, _), (1, _), (2, _)]) [0, 1, 2] rfl ?_
  refine V.iload_n 1 dX11_within_0 rfl rfl ?_
  refine V.iload_n 0 dX11_within_1 rfl rfl ?_
  refine V.icmp_ge (tgt := 9) dX11_within_2 rfl (fun c => ?_) (fun c => ?_)
  · replace hF := ip c hF
    refine V.iload_n 1 dX11_within_9 rfl rfl ?_
    refine V.iload_n 2 dX11_within_10 rfl rfl ?_
    refine V.icmp_le (tgt := 18) dX11_within_11 rfl (fun c => ?_) (fun c => ?_)
    · replace hF := ip c hF
      refine V.iload_n 1 dX11_within_18 rfl rfl ?_
      cases hF
      exact V.iret dX11_within_19
    · replace hF := iq c hF
      refine V.iload_n 2 dX11_within_14 rfl rfl ?_
      refine V.goto (tgt := 19) dX11_within_15 rfl ?_
      cases hF
      exact V.iret dX11_within_19
  · replace hF := iq c hF
    refine V.iload_n 0 dX11_within_5 rfl rfl ?_
    refine V.goto (tgt := 19) dX11_within_6 rfl ?_
    cases hF
    exact V.iret dX11_within_19
/-! MonsterCot$Laws.pop -/
theorem dX4_pop_0 : decode cX4_pop 0 = .ok (.aload_n 0, 1) := by decide +kernel
theorem dX4_pop_1 : decode cX4_pop 1 = .ok (.getfield 78, 3) := by decide +kernel
theorem dX4_pop_4 : decode cX4_pop 4 = .ok (.iconst 1, 1) := by decide +kernel
theorem dX4_pop_5 : decode cX4_pop 5 = .ok (.if_icmp .lt 15, 3) := by decide +kernel
theorem dX4_pop_8 : decode cX4_pop 8 = .ok (.aload_n 0, 1) := by decide +kernel
theorem dX4_pop_9 : decode cX4_pop 9 = .ok (.getfield 78, 3) := by decide +kernel
theorem dX4_pop_12 : decode cX4_pop 12 = .ok (.aload_n 0, 1) := by decide +kernel
theorem dX4_pop_13 : decode cX4_pop 13 = .ok (.getfield 23, 3) := by decide +kernel
theorem dX4_pop_16 : decode cX4_pop 16 = .ok (.arraylength, 1) := by decide +kernel
theorem dX4_pop_17 : decode cX4_pop 17 = .ok (.if_icmp .le 5, 3) := by decide +kernel
theorem dX4_pop_20 : decode cX4_pop 20 = .ok (.iconst 0, 1) := by decide +kernel
theorem dX4_pop_21 : decode cX4_pop 21 = .ok (.ireturn, 1) := by decide +kernel
theorem dX4_pop_22 : decode cX4_pop 22 = .ok (.aload_n 0, 1) := by decide +kernel
theorem dX4_pop_23 : decode cX4_pop 23 = .ok (.dup, 1) := by decide +kernel
theorem dX4_pop_24 : decode cX4_pop 24 = .ok (.getfield 78, 3) := by decide +kernel
theorem dX4_pop_27 : decode cX4_pop 27 = .ok (.iconst 1, 1) := by decide +kernel
theorem dX4_pop_28 : decode cX4_pop 28 = .ok (.isub, 1) := by decide +kernel
theorem dX4_pop_29 : decode cX4_pop 29 = .ok (.putfield 78, 3) := by decide +kernel
theorem dX4_pop_32 : decode cX4_pop 32 = .ok (.aload_n 0, 1) := by decide +kernel
theorem dX4_pop_33 : decode cX4_pop 33 = .ok (.getfield 23, 3) := by decide +kernel
theorem dX4_pop_36 : decode cX4_pop 36 = .ok (.aload_n 0, 1) := by decide +kernel
theorem dX4_pop_37 : decode cX4_pop 37 = .ok (.getfield 78, 3) := by decide +kernel
theorem dX4_pop_40 : decode cX4_pop 40 = .ok (.iaload, 1) := by decide +kernel
theorem dX4_pop_41 : decode cX4_pop 41 = .ok (.ireturn, 1) := by decide +kernel
def X4_pop (h : Mm) : Option (Int32 × Mm) := (if (h.1 16 7) < (1 : Int32) then (some ((0 : Int32), h)) else (if (h.1 16 7) ≤ (64 : Int32) then (if inB ((wI h 16 7 ((h.1 16 7) - (1 : Int32))).1 16 7) (aln 24) then (some (((wI h 16 7 ((h.1 16 7) - (1 : Int32))).1 24 ((wI h 16 7 ((h.1 16 7) - (1 : Int32))).1 16 7).toNatClampNeg), (wI h 16 7 ((h.1 16 7) - (1 : Int32))))) else none) else (some ((0 : Int32), h))))
set_option maxRecDepth 100000 in
set_option maxHeartbeats 4000000 in
theorem s_X4_pop {X : WX} {o : Mm} {rv : Int32} {hz : Mm} {h : Mm} (hF : X4_pop h = some (rv, hz)) : Sat X yX4_pop cX4_pop 1 (some .int) 1 [.ref (xa X 16)] true o h (some (.int rv)) hz := by
  unfold X4_pop at hF
  refine Sat.mk (own := RX4) rfl (by decide +kernel) (Nat.le_of_ble_eq_true rfl) (fun G => ?_)
  refine V.sub (lv2 := [(0, _)]) [0] rfl ?_
  refine V.aload_n 0 dX4_pop_0 rfl rfl ?_
  refine V.getI fl_X4_78 sh_16 rfl km_16 dX4_pop_1 ?_
  refine V.iconst (v := 1) dX4_pop_4 rfl ?_
  refine V.icmp_lt (tgt := 20) dX4_pop_5 rfl (fun c => ?_) (fun c => ?_)
  · replace hF := ip c hF
    refine V.iconst (v := 0) dX4_pop_20 rfl ?_
    cases hF
    exact V.iret dX4_pop_21
  · replace hF := iq c hF
    refine V.aload_n 0 dX4_pop_8 rfl rfl ?_
    refine V.getI fl_X4_78 sh_16 rfl km_16 dX4_pop_9 ?_
    refine V.aload_n 0 dX4_pop_12 rfl rfl ?_
    refine V.getR (v := 24) fl_X4_23 sh_16 rfl fx_16_3 (by decide) dX4_pop_13 ?_
    refine V.alen (v := 64) sh_24 (by decide) rfl dX4_pop_16 ?_
    refine V.icmp_le (tgt := 22) dX4_pop_17 rfl (fun c => ?_) (fun c => ?_)
    · replace hF := ip c hF
      refine V.aload_n 0 dX4_pop_22 rfl rfl ?_
      refine V.dup dX4_pop_23 rfl ?_
      refine V.getI fl_X4_78 sh_16 rfl km_16 dX4_pop_24 ?_
      refine V.iconst (v := 1) dX4_pop_27 rfl ?_
      refine V.isub dX4_pop_28 ?_
      refine V.putI fl_X4_78 rfl (tyX4_ok 7 (by decide)) rfl rfl sh_16 rfl km_16 dX4_pop_29 ?_
      refine V.aload_n 0 dX4_pop_32 rfl rfl ?_
      refine V.getR (v := 24) fl_X4_23 sh_16 rfl fx_16_3 (by decide) dX4_pop_33 ?_
      refine V.aload_n 0 dX4_pop_36 rfl rfl ?_
      refine V.getI fl_X4_78 sh_16 rfl km_16 dX4_pop_37 ?_
      obtain ⟨hk, hF⟩ := ck hF
      refine V.iald io_24 hk dX4_pop_40 ?_
      cases hF
      exact V.iret dX4_pop_41
    · replace hF := iq c hF
      refine V.iconst (v := 0) dX4_pop_20 rfl ?_
      cases hF
      exact V.iret dX4_pop_21
/-! MonsterCot$Laws.push -/
theorem dX4_push_0 : decode cX4_push 0 = .ok (.aload_n 0, 1) := by decide +kernel
theorem dX4_push_1 : decode cX4_push 1 = .ok (.getfield 78, 3) := by decide +kernel
theorem dX4_push_4 : decode cX4_push 4 = .ok (.ifCond .lt 35, 3) := by decide +kernel
theorem dX4_push_7 : decode cX4_push 7 = .ok (.aload_n 0, 1) := by decide +kernel
theorem dX4_push_8 : decode cX4_push 8 = .ok (.getfield 78, 3) := by decide +kernel
theorem dX4_push_11 : decode cX4_push 11 = .ok (.aload_n 0, 1) := by decide +kernel
theorem dX4_push_12 : decode cX4_push 12 = .ok (.getfield 23, 3) := by decide +kernel
theorem dX4_push_15 : decode cX4_push 15 = .ok (.arraylength, 1) := by decide +kernel
theorem dX4_push_16 : decode cX4_push 16 = .ok (.if_icmp .ge 23, 3) := by decide +kernel
theorem dX4_push_19 : decode cX4_push 19 = .ok (.aload_n 0, 1) := by decide +kernel
theorem dX4_push_20 : decode cX4_push 20 = .ok (.getfield 23, 3) := by decide +kernel
theorem dX4_push_23 : decode cX4_push 23 = .ok (.aload_n 0, 1) := by decide +kernel
theorem dX4_push_24 : decode cX4_push 24 = .ok (.getfield 78, 3) := by decide +kernel
theorem dX4_push_27 : decode cX4_push 27 = .ok (.iload_n 1, 1) := by decide +kernel
theorem dX4_push_28 : decode cX4_push 28 = .ok (.iastore, 1) := by decide +kernel
theorem dX4_push_29 : decode cX4_push 29 = .ok (.aload_n 0, 1) := by decide +kernel
theorem dX4_push_30 : decode cX4_push 30 = .ok (.dup, 1) := by decide +kernel
theorem dX4_push_31 : decode cX4_push 31 = .ok (.getfield 78, 3) := by decide +kernel
theorem dX4_push_34 : decode cX4_push 34 = .ok (.iconst 1, 1) := by decide +kernel
theorem dX4_push_35 : decode cX4_push 35 = .ok (.iadd, 1) := by decide +kernel
theorem dX4_push_36 : decode cX4_push 36 = .ok (.putfield 78, 3) := by decide +kernel
theorem dX4_push_39 : decode cX4_push 39 = .ok (.return_, 1) := by decide +kernel
def X4_push (x1 : Int32) (h : Mm) : Option (Unit × Mm) := (if (h.1 16 7) < 0 then (some ((), h)) else (if (64 : Int32) ≤ (h.1 16 7) then (some ((), h)) else (if inB (h.1 16 7) (aln 24) then (some ((), (wI (wI h 24 (h.1 16 7).toNatClampNeg x1) 16 7 (((wI h 24 (h.1 16 7).toNatClampNeg x1).1 16 7) + (1 : Int32))))) else none)))
set_option maxRecDepth 100000 in
set_option maxHeartbeats 4000000 in
theorem s_X4_push {X : WX} {o : Mm} {x1 : Int32} {rv : Unit} {hz : Mm} {h : Mm} (hF : X4_push x1 h = some (rv, hz)) : Sat X yX4_push cX4_push 2 (none) 1 [.ref (xa X 16), .int x1] true o h none hz := by
  unfold X4_push at hF
  refine Sat.mk (own := RX4) rfl (by decide +kernel) (Nat.le_of_ble_eq_true rfl) (fun G => ?_)
  refine V.sub (lv2 := [(0, _), (1, _)]) [0, 1] rfl ?_
  refine V.aload_n 0 dX4_push_0 rfl rfl ?_
  refine V.getI fl_X4_78 sh_16 rfl km_16 dX4_push_1 ?_
  refine V.if_lt (tgt := 39) dX4_push_4 rfl (fun c => ?_) (fun c => ?_)
  · replace hF := ip c hF
    cases hF
    exact V.vret dX4_push_39
  · replace hF := iq c hF
    refine V.aload_n 0 dX4_push_7 rfl rfl ?_
    refine V.getI fl_X4_78 sh_16 rfl km_16 dX4_push_8 ?_
    refine V.aload_n 0 dX4_push_11 rfl rfl ?_
    refine V.getR (v := 24) fl_X4_23 sh_16 rfl fx_16_3 (by decide) dX4_push_12 ?_
    refine V.alen (v := 64) sh_24 (by decide) rfl dX4_push_15 ?_
    refine V.icmp_ge (tgt := 39) dX4_push_16 rfl (fun c => ?_) (fun c => ?_)
    · replace hF := ip c hF
      cases hF
      exact V.vret dX4_push_39
    · replace hF := iq c hF
      refine V.aload_n 0 dX4_push_19 rfl rfl ?_
      refine V.getR (v := 24) fl_X4_23 sh_16 rfl fx_16_3 (by decide) dX4_push_20 ?_
      refine V.aload_n 0 dX4_push_23 rfl rfl ?_
      refine V.getI fl_X4_78 sh_16 rfl km_16 dX4_push_24 ?_
      refine V.iload_n 1 dX4_push_27 rfl rfl ?_
      obtain ⟨hk, hF⟩ := ck hF
      refine V.iast io_24 hk dX4_push_28 ?_
      refine V.aload_n 0 dX4_push_29 rfl rfl ?_
      refine V.dup dX4_push_30 rfl ?_
      refine V.getI fl_X4_78 sh_16 rfl km_16 dX4_push_31 ?_
      refine V.iconst (v := 1) dX4_push_34 rfl ?_
      refine V.iadd dX4_push_35 ?_
      refine V.putI fl_X4_78 rfl (tyX4_ok 7 (by decide)) rfl rfl sh_16 rfl km_16 dX4_push_36 ?_
      cases hF
      exact V.vret dX4_push_39
/-! MonsterCot$Laws.reckon -/
theorem dX4_reckon_0 : decode cX4_reckon 0 = .ok (.iload_n 0, 1) := by decide +kernel
theorem dX4_reckon_1 : decode cX4_reckon 1 = .ok (.bipush (-7), 2) := by decide +kernel
theorem dX4_reckon_3 : decode cX4_reckon 3 = .ok (.if_icmp .ne 12, 3) := by decide +kernel
theorem dX4_reckon_6 : decode cX4_reckon 6 = .ok (.iload_n 1, 1) := by decide +kernel
theorem dX4_reckon_7 : decode cX4_reckon 7 = .ok (.i2l, 1) := by decide +kernel
theorem dX4_reckon_8 : decode cX4_reckon 8 = .ok (.iload_n 2, 1) := by decide +kernel
theorem dX4_reckon_9 : decode cX4_reckon 9 = .ok (.i2l, 1) := by decide +kernel
theorem dX4_reckon_10 : decode cX4_reckon 10 = .ok (.ladd, 1) := by decide +kernel
theorem dX4_reckon_11 : decode cX4_reckon 11 = .ok (.lstore_n 3, 1) := by decide +kernel
theorem dX4_reckon_12 : decode cX4_reckon 12 = .ok (.goto 46, 3) := by decide +kernel
theorem dX4_reckon_15 : decode cX4_reckon 15 = .ok (.iload_n 0, 1) := by decide +kernel
theorem dX4_reckon_16 : decode cX4_reckon 16 = .ok (.bipush (-8), 2) := by decide +kernel
theorem dX4_reckon_18 : decode cX4_reckon 18 = .ok (.if_icmp .ne 12, 3) := by decide +kernel
theorem dX4_reckon_21 : decode cX4_reckon 21 = .ok (.iload_n 1, 1) := by decide +kernel
theorem dX4_reckon_22 : decode cX4_reckon 22 = .ok (.i2l, 1) := by decide +kernel
theorem dX4_reckon_23 : decode cX4_reckon 23 = .ok (.iload_n 2, 1) := by decide +kernel
theorem dX4_reckon_24 : decode cX4_reckon 24 = .ok (.i2l, 1) := by decide +kernel
theorem dX4_reckon_25 : decode cX4_reckon 25 = .ok (.lsub, 1) := by decide +kernel
theorem dX4_reckon_26 : decode cX4_reckon 26 = .ok (.lstore_n 3, 1) := by decide +kernel
theorem dX4_reckon_27 : decode cX4_reckon 27 = .ok (.goto 31, 3) := by decide +kernel
theorem dX4_reckon_30 : decode cX4_reckon 30 = .ok (.iload_n 0, 1) := by decide +kernel
theorem dX4_reckon_31 : decode cX4_reckon 31 = .ok (.bipush (-9), 2) := by decide +kernel
theorem dX4_reckon_33 : decode cX4_reckon 33 = .ok (.if_icmp .ne 12, 3) := by decide +kernel
theorem dX4_reckon_36 : decode cX4_reckon 36 = .ok (.iload_n 1, 1) := by decide +kernel
theorem dX4_reckon_37 : decode cX4_reckon 37 = .ok (.i2l, 1) := by decide +kernel
theorem dX4_reckon_38 : decode cX4_reckon 38 = .ok (.iload_n 2, 1) := by decide +kernel
theorem dX4_reckon_39 : decode cX4_reckon 39 = .ok (.i2l, 1) := by decide +kernel
theorem dX4_reckon_40 : decode cX4_reckon 40 = .ok (.lmul, 1) := by decide +kernel
theorem dX4_reckon_41 : decode cX4_reckon 41 = .ok (.lstore_n 3, 1) := by decide +kernel
theorem dX4_reckon_42 : decode cX4_reckon 42 = .ok (.goto 16, 3) := by decide +kernel
theorem dX4_reckon_45 : decode cX4_reckon 45 = .ok (.iload_n 2, 1) := by decide +kernel
theorem dX4_reckon_46 : decode cX4_reckon 46 = .ok (.ifCond .ne 7, 3) := by decide +kernel
theorem dX4_reckon_49 : decode cX4_reckon 49 = .ok (.lconst 0, 1) := by decide +kernel
theorem dX4_reckon_50 : decode cX4_reckon 50 = .ok (.goto 7, 3) := by decide +kernel
theorem dX4_reckon_53 : decode cX4_reckon 53 = .ok (.iload_n 1, 1) := by decide +kernel
theorem dX4_reckon_54 : decode cX4_reckon 54 = .ok (.iload_n 2, 1) := by decide +kernel
theorem dX4_reckon_55 : decode cX4_reckon 55 = .ok (.idiv, 1) := by decide +kernel
theorem dX4_reckon_56 : decode cX4_reckon 56 = .ok (.i2l, 1) := by decide +kernel
theorem dX4_reckon_57 : decode cX4_reckon 57 = .ok (.lstore_n 3, 1) := by decide +kernel
theorem dX4_reckon_58 : decode cX4_reckon 58 = .ok (.lload_n 3, 1) := by decide +kernel
theorem dX4_reckon_59 : decode cX4_reckon 59 = .ok (.ldc2_w 98, 3) := by decide +kernel
theorem dX4_reckon_62 : decode cX4_reckon 62 = .ok (.lcmp, 1) := by decide +kernel
theorem dX4_reckon_63 : decode cX4_reckon 63 = .ok (.ifCond .le 8, 3) := by decide +kernel
theorem dX4_reckon_66 : decode cX4_reckon 66 = .ok (.ldc 100, 2) := by decide +kernel
theorem dX4_reckon_68 : decode cX4_reckon 68 = .ok (.goto 18, 3) := by decide +kernel
theorem dX4_reckon_71 : decode cX4_reckon 71 = .ok (.lload_n 3, 1) := by decide +kernel
theorem dX4_reckon_72 : decode cX4_reckon 72 = .ok (.ldc2_w 101, 3) := by decide +kernel
theorem dX4_reckon_75 : decode cX4_reckon 75 = .ok (.lcmp, 1) := by decide +kernel
theorem dX4_reckon_76 : decode cX4_reckon 76 = .ok (.ifCond .ge 8, 3) := by decide +kernel
theorem dX4_reckon_79 : decode cX4_reckon 79 = .ok (.ldc 103, 2) := by decide +kernel
theorem dX4_reckon_81 : decode cX4_reckon 81 = .ok (.goto 5, 3) := by decide +kernel
theorem dX4_reckon_84 : decode cX4_reckon 84 = .ok (.lload_n 3, 1) := by decide +kernel
theorem dX4_reckon_85 : decode cX4_reckon 85 = .ok (.l2i, 1) := by decide +kernel
theorem dX4_reckon_86 : decode cX4_reckon 86 = .ok (.ireturn, 1) := by decide +kernel
def X4_reckon_58 (x3 : Int64) (h : Mm) : Option Int32 := (if (lg_cmp x3 (1000000 : Int64)) ≤ 0 then (if 0 ≤ (lg_cmp x3 (-1000000 : Int64)) then (some x3.toInt32) else (some (-1000000 : Int32))) else (some (1000000 : Int32)))
set_option maxRecDepth 100000 in
set_option maxHeartbeats 4000000 in
theorem v_X4_reckon_58 {X : WX} {G : GX} {o : Mm} {rv : Int32} {h : Mm} {x3 : Int64} (hF : X4_reckon_58  x3 h = some rv) : V X G RX4 cX4_reckon 5 (some .int) 1 0 0 (QR X G true o (some (.int rv)) h) true o 58 [(3, .long x3)] [] h := by
  unfold X4_reckon_58 at hF
  refine V.lload_n 0 dX4_reckon_58 rfl rfl ?_
  refine V.ldc2 (v := 1000000) dX4_reckon_59 kc_X4_98 ?_
  refine V.lcmp dX4_reckon_62 ?_
  refine V.if_le (tgt := 71) dX4_reckon_63 rfl (fun c => ?_) (fun c => ?_)
  · replace hF := ip c hF
    refine V.lload_n 0 dX4_reckon_71 rfl rfl ?_
    refine V.ldc2 (v := -1000000) dX4_reckon_72 kc_X4_101 ?_
    refine V.lcmp dX4_reckon_75 ?_
    refine V.if_ge (tgt := 84) dX4_reckon_76 rfl (fun c => ?_) (fun c => ?_)
    · replace hF := ip c hF
      refine V.lload_n 0 dX4_reckon_84 rfl rfl ?_
      refine V.l2i dX4_reckon_85 ?_
      cases hF
      exact V.iret dX4_reckon_86
    · replace hF := iq c hF
      refine V.ldc (v := -1000000) dX4_reckon_79 kc_X4_103 ?_
      refine V.goto (tgt := 86) dX4_reckon_81 rfl ?_
      cases hF
      exact V.iret dX4_reckon_86
  · replace hF := iq c hF
    refine V.ldc (v := 1000000) dX4_reckon_66 kc_X4_100 ?_
    refine V.goto (tgt := 86) dX4_reckon_68 rfl ?_
    cases hF
    exact V.iret dX4_reckon_86
def X4_reckon_57 (s0 : Int64) (h : Mm) : Option Int32 := (X4_reckon_58 s0 h)
set_option maxRecDepth 100000 in
set_option maxHeartbeats 4000000 in
theorem v_X4_reckon_57 {X : WX} {G : GX} {o : Mm} {rv : Int32} {h : Mm} {s0 : Int64} (hF : X4_reckon_57  s0 h = some rv) : V X G RX4 cX4_reckon 5 (some .int) 1 0 0 (QR X G true o (some (.int rv)) h) true o 57 [] [.long s0] h := by
  unfold X4_reckon_57 at hF
  refine V.lstore_n [(3, _)] dX4_reckon_57 rfl (by decide) rfl ?_
  exact (v_X4_reckon_58 hF)
def X4_reckon (x0 : Int32) (x1 : Int32) (x2 : Int32) (h : Mm) : Option Int32 := (if x0 = (-7 : Int32) then (X4_reckon_58 (x1.toInt64 + x2.toInt64) h) else (if x0 = (-8 : Int32) then (X4_reckon_58 (x1.toInt64 - x2.toInt64) h) else (if x0 = (-9 : Int32) then (X4_reckon_58 (x1.toInt64 * x2.toInt64) h) else (if x2 = 0 then (X4_reckon_57 (0 : Int64) h) else (if ¬ x2 = 0 then (X4_reckon_57 ((x1 / x2).toInt64) h) else none)))))
set_option maxRecDepth 100000 in
set_option maxHeartbeats 4000000 in
theorem s_X4_reckon {X : WX} {o : Mm} {x0 : Int32} {x1 : Int32} {x2 : Int32} {rv : Int32} {h : Mm} (hF : X4_reckon x0 x1 x2 h = some rv) : Sat X yX4_reckon cX4_reckon 5 (some .int) 1 [.int x0, .int x1, .int x2] true o h (some (.int rv)) h := by
  unfold X4_reckon at hF
  refine Sat.mk (own := RX4) rfl (by decide +kernel) (Nat.le_of_ble_eq_true rfl) (fun G => ?_)
  refine V.sub (lv2 := [(0, _), (1, _), (2, _)]) [0, 1, 2] rfl ?_
  refine V.iload_n 0 dX4_reckon_0 rfl rfl ?_
  refine V.bipush (v := -7) dX4_reckon_1 (by decide) ?_
  refine V.icmp_ne (tgt := 15) dX4_reckon_3 rfl (fun c => ?_) (fun c => ?_)
  · replace hF := iq c hF
    refine V.iload_n 0 dX4_reckon_15 rfl rfl ?_
    refine V.bipush (v := -8) dX4_reckon_16 (by decide) ?_
    refine V.icmp_ne (tgt := 30) dX4_reckon_18 rfl (fun c => ?_) (fun c => ?_)
    · replace hF := iq c hF
      refine V.iload_n 0 dX4_reckon_30 rfl rfl ?_
      refine V.bipush (v := -9) dX4_reckon_31 (by decide) ?_
      refine V.icmp_ne (tgt := 45) dX4_reckon_33 rfl (fun c => ?_) (fun c => ?_)
      · replace hF := iq c hF
        refine V.iload_n 2 dX4_reckon_45 rfl rfl ?_
        refine V.if_ne (tgt := 53) dX4_reckon_46 rfl (fun c => ?_) (fun c => ?_)
        · replace hF := iq c hF
          refine V.iload_n 1 dX4_reckon_53 rfl rfl ?_
          refine V.iload_n 2 dX4_reckon_54 rfl rfl ?_
          obtain ⟨hk, hF⟩ := ck hF
          refine V.idiv dX4_reckon_55 hk ?_
          refine V.i2l dX4_reckon_56 ?_
          exact V.sub [] rfl (v_X4_reckon_57 hF)
        · replace hF := ip c hF
          refine V.lconst (v := 0) dX4_reckon_49 rfl ?_
          refine V.goto (tgt := 57) dX4_reckon_50 rfl ?_
          exact V.sub [] rfl (v_X4_reckon_57 hF)
      · replace hF := ip c hF
        refine V.iload_n 1 dX4_reckon_36 rfl rfl ?_
        refine V.i2l dX4_reckon_37 ?_
        refine V.iload_n 2 dX4_reckon_38 rfl rfl ?_
        refine V.i2l dX4_reckon_39 ?_
        refine V.lmul dX4_reckon_40 ?_
        refine V.lstore_n [(3, _), (0, _), (1, _), (2, _)] dX4_reckon_41 rfl (by decide) rfl ?_
        refine V.goto (tgt := 58) dX4_reckon_42 rfl ?_
        exact V.sub [0] rfl (v_X4_reckon_58 hF)
    · replace hF := ip c hF
      refine V.iload_n 1 dX4_reckon_21 rfl rfl ?_
      refine V.i2l dX4_reckon_22 ?_
      refine V.iload_n 2 dX4_reckon_23 rfl rfl ?_
      refine V.i2l dX4_reckon_24 ?_
      refine V.lsub dX4_reckon_25 ?_
      refine V.lstore_n [(3, _), (0, _), (1, _), (2, _)] dX4_reckon_26 rfl (by decide) rfl ?_
      refine V.goto (tgt := 58) dX4_reckon_27 rfl ?_
      exact V.sub [0] rfl (v_X4_reckon_58 hF)
  · replace hF := ip c hF
    refine V.iload_n 1 dX4_reckon_6 rfl rfl ?_
    refine V.i2l dX4_reckon_7 ?_
    refine V.iload_n 2 dX4_reckon_8 rfl rfl ?_
    refine V.i2l dX4_reckon_9 ?_
    refine V.ladd dX4_reckon_10 ?_
    refine V.lstore_n [(3, _), (0, _), (1, _), (2, _)] dX4_reckon_11 rfl (by decide) rfl ?_
    refine V.goto (tgt := 58) dX4_reckon_12 rfl ?_
    exact V.sub [0] rfl (v_X4_reckon_58 hF)
/-! MonsterCot$Laws.compare -/
theorem dX4_compare_0 : decode cX4_compare 0 = .ok (.iload_n 0, 1) := by decide +kernel
theorem dX4_compare_1 : decode cX4_compare 1 = .ok (.tableswitch 78 (-14) (-11) #[64, 53, 42, 31], 31) := by decide +kernel
theorem dX4_compare_32 : decode cX4_compare 32 = .ok (.iload_n 1, 1) := by decide +kernel
theorem dX4_compare_33 : decode cX4_compare 33 = .ok (.iload_n 2, 1) := by decide +kernel
theorem dX4_compare_34 : decode cX4_compare 34 = .ok (.if_icmp .ne 7, 3) := by decide +kernel
theorem dX4_compare_37 : decode cX4_compare 37 = .ok (.iconst 1, 1) := by decide +kernel
theorem dX4_compare_38 : decode cX4_compare 38 = .ok (.goto 4, 3) := by decide +kernel
theorem dX4_compare_41 : decode cX4_compare 41 = .ok (.iconst 0, 1) := by decide +kernel
theorem dX4_compare_42 : decode cX4_compare 42 = .ok (.ireturn, 1) := by decide +kernel
theorem dX4_compare_43 : decode cX4_compare 43 = .ok (.iload_n 1, 1) := by decide +kernel
theorem dX4_compare_44 : decode cX4_compare 44 = .ok (.iload_n 2, 1) := by decide +kernel
theorem dX4_compare_45 : decode cX4_compare 45 = .ok (.if_icmp .ge 7, 3) := by decide +kernel
theorem dX4_compare_48 : decode cX4_compare 48 = .ok (.iconst 1, 1) := by decide +kernel
theorem dX4_compare_49 : decode cX4_compare 49 = .ok (.goto 4, 3) := by decide +kernel
theorem dX4_compare_52 : decode cX4_compare 52 = .ok (.iconst 0, 1) := by decide +kernel
theorem dX4_compare_53 : decode cX4_compare 53 = .ok (.ireturn, 1) := by decide +kernel
theorem dX4_compare_54 : decode cX4_compare 54 = .ok (.iload_n 1, 1) := by decide +kernel
theorem dX4_compare_55 : decode cX4_compare 55 = .ok (.iload_n 2, 1) := by decide +kernel
theorem dX4_compare_56 : decode cX4_compare 56 = .ok (.if_icmp .le 7, 3) := by decide +kernel
theorem dX4_compare_59 : decode cX4_compare 59 = .ok (.iconst 1, 1) := by decide +kernel
theorem dX4_compare_60 : decode cX4_compare 60 = .ok (.goto 4, 3) := by decide +kernel
theorem dX4_compare_63 : decode cX4_compare 63 = .ok (.iconst 0, 1) := by decide +kernel
theorem dX4_compare_64 : decode cX4_compare 64 = .ok (.ireturn, 1) := by decide +kernel
theorem dX4_compare_65 : decode cX4_compare 65 = .ok (.iload_n 1, 1) := by decide +kernel
theorem dX4_compare_66 : decode cX4_compare 66 = .ok (.ifCond .eq 11, 3) := by decide +kernel
theorem dX4_compare_69 : decode cX4_compare 69 = .ok (.iload_n 2, 1) := by decide +kernel
theorem dX4_compare_70 : decode cX4_compare 70 = .ok (.ifCond .eq 7, 3) := by decide +kernel
theorem dX4_compare_73 : decode cX4_compare 73 = .ok (.iconst 1, 1) := by decide +kernel
theorem dX4_compare_74 : decode cX4_compare 74 = .ok (.goto 4, 3) := by decide +kernel
theorem dX4_compare_77 : decode cX4_compare 77 = .ok (.iconst 0, 1) := by decide +kernel
theorem dX4_compare_78 : decode cX4_compare 78 = .ok (.ireturn, 1) := by decide +kernel
theorem dX4_compare_79 : decode cX4_compare 79 = .ok (.iload_n 1, 1) := by decide +kernel
theorem dX4_compare_80 : decode cX4_compare 80 = .ok (.ifCond .ne 7, 3) := by decide +kernel
theorem dX4_compare_83 : decode cX4_compare 83 = .ok (.iload_n 2, 1) := by decide +kernel
theorem dX4_compare_84 : decode cX4_compare 84 = .ok (.ifCond .eq 7, 3) := by decide +kernel
theorem dX4_compare_87 : decode cX4_compare 87 = .ok (.iconst 1, 1) := by decide +kernel
theorem dX4_compare_88 : decode cX4_compare 88 = .ok (.goto 4, 3) := by decide +kernel
theorem dX4_compare_91 : decode cX4_compare 91 = .ok (.iconst 0, 1) := by decide +kernel
theorem dX4_compare_92 : decode cX4_compare 92 = .ok (.ireturn, 1) := by decide +kernel
def X4_compare_87 (h : Mm) : Option Bool := (some true)
set_option maxRecDepth 100000 in
set_option maxHeartbeats 4000000 in
theorem v_X4_compare_87 {X : WX} {G : GX} {o : Mm} {rv : Bool} {h : Mm} (hF : X4_compare_87  h = some rv) : V X G RX4 cX4_compare 3 (some .boolean) 1 0 0 (QR X G true o (some (.int (b2i rv))) h) true o 87 [] [] h := by
  unfold X4_compare_87 at hF
  refine V.iconst (v := 1) dX4_compare_87 rfl ?_
  refine V.goto (tgt := 92) dX4_compare_88 rfl ?_
  cases hF
  exact V.bret dX4_compare_92
def X4_compare (x0 : Int32) (x1 : Int32) (x2 : Int32) (h : Mm) : Option Bool := (if x0 = (-14) then (if x1 = 0 then (some false) else (if x2 = 0 then (some false) else (some true))) else (if x0 = (-13) then (if x1 ≤ x2 then (some false) else (some true)) else (if x0 = (-12) then (if x2 ≤ x1 then (some false) else (some true)) else (if x0 = (-11) then (if x1 = x2 then (some true) else (some false)) else (if x1 = 0 then (if x2 = 0 then (some false) else (X4_compare_87 h)) else (X4_compare_87 h))))))
set_option maxRecDepth 100000 in
set_option maxHeartbeats 4000000 in
theorem s_X4_compare {X : WX} {o : Mm} {x0 : Int32} {x1 : Int32} {x2 : Int32} {rv : Bool} {h : Mm} (hF : X4_compare x0 x1 x2 h = some rv) : Sat X yX4_compare cX4_compare 3 (some .boolean) 1 [.int x0, .int x1, .int x2] true o h (some (.int (b2i rv))) h := by
  unfold X4_compare at hF
  refine Sat.mk (own := RX4) rfl (by decide +kernel) (Nat.le_of_ble_eq_true rfl) (fun G => ?_)
  refine V.sub (lv2 := [(0, _), (1, _), (2, _)]) [0, 1, 2] rfl ?_
  refine V.iload_n 0 dX4_compare_0 rfl rfl ?_
  by_cases c0 : x0 = (-14)
  · replace hF := ip c0 hF
    refine V.tswIn (tgt := 65) c0 dX4_compare_1 (by decide) (by decide) rfl rfl ?_
    refine V.iload_n 1 dX4_compare_65 rfl rfl ?_
    refine V.if_eq (tgt := 77) dX4_compare_66 rfl (fun c => ?_) (fun c => ?_)
    · replace hF := ip c hF
      refine V.iconst (v := 0) dX4_compare_77 rfl ?_
      cases hF
      exact V.bret dX4_compare_78
    · replace hF := iq c hF
      refine V.iload_n 2 dX4_compare_69 rfl rfl ?_
      refine V.if_eq (tgt := 77) dX4_compare_70 rfl (fun c => ?_) (fun c => ?_)
      · replace hF := ip c hF
        refine V.iconst (v := 0) dX4_compare_77 rfl ?_
        cases hF
        exact V.bret dX4_compare_78
      · replace hF := iq c hF
        refine V.iconst (v := 1) dX4_compare_73 rfl ?_
        refine V.goto (tgt := 78) dX4_compare_74 rfl ?_
        cases hF
        exact V.bret dX4_compare_78
  replace hF := iq c0 hF
  by_cases c1 : x0 = (-13)
  · replace hF := ip c1 hF
    refine V.tswIn (tgt := 54) c1 dX4_compare_1 (by decide) (by decide) rfl rfl ?_
    refine V.iload_n 1 dX4_compare_54 rfl rfl ?_
    refine V.iload_n 2 dX4_compare_55 rfl rfl ?_
    refine V.icmp_le (tgt := 63) dX4_compare_56 rfl (fun c => ?_) (fun c => ?_)
    · replace hF := ip c hF
      refine V.iconst (v := 0) dX4_compare_63 rfl ?_
      cases hF
      exact V.bret dX4_compare_64
    · replace hF := iq c hF
      refine V.iconst (v := 1) dX4_compare_59 rfl ?_
      refine V.goto (tgt := 64) dX4_compare_60 rfl ?_
      cases hF
      exact V.bret dX4_compare_64
  replace hF := iq c1 hF
  by_cases c2 : x0 = (-12)
  · replace hF := ip c2 hF
    refine V.tswIn (tgt := 43) c2 dX4_compare_1 (by decide) (by decide) rfl rfl ?_
    refine V.iload_n 1 dX4_compare_43 rfl rfl ?_
    refine V.iload_n 2 dX4_compare_44 rfl rfl ?_
    refine V.icmp_ge (tgt := 52) dX4_compare_45 rfl (fun c => ?_) (fun c => ?_)
    · replace hF := ip c hF
      refine V.iconst (v := 0) dX4_compare_52 rfl ?_
      cases hF
      exact V.bret dX4_compare_53
    · replace hF := iq c hF
      refine V.iconst (v := 1) dX4_compare_48 rfl ?_
      refine V.goto (tgt := 53) dX4_compare_49 rfl ?_
      cases hF
      exact V.bret dX4_compare_53
  replace hF := iq c2 hF
  by_cases c3 : x0 = (-11)
  · replace hF := ip c3 hF
    refine V.tswIn (tgt := 32) c3 dX4_compare_1 (by decide) (by decide) rfl rfl ?_
    refine V.iload_n 1 dX4_compare_32 rfl rfl ?_
    refine V.iload_n 2 dX4_compare_33 rfl rfl ?_
    refine V.icmp_ne (tgt := 41) dX4_compare_34 rfl (fun c => ?_) (fun c => ?_)
    · replace hF := iq c hF
      refine V.iconst (v := 0) dX4_compare_41 rfl ?_
      cases hF
      exact V.bret dX4_compare_42
    · replace hF := ip c hF
      refine V.iconst (v := 1) dX4_compare_37 rfl ?_
      refine V.goto (tgt := 42) dX4_compare_38 rfl ?_
      cases hF
      exact V.bret dX4_compare_42
  replace hF := iq c3 hF
  refine V.tswOut (tgt := 79) dX4_compare_1 (tsw_out (by decide) (by decide) [-14, -13, -12, -11] rfl (fun v hv => ?_)) rfl ?_
  · simp only [List.mem_cons, List.not_mem_nil, or_false] at hv
    rcases hv with rfl | rfl | rfl | rfl <;> assumption
  refine V.iload_n 1 dX4_compare_79 rfl rfl ?_
  refine V.if_ne (tgt := 87) dX4_compare_80 rfl (fun c => ?_) (fun c => ?_)
  · replace hF := iq c hF
    exact V.sub [] rfl (v_X4_compare_87 hF)
  · replace hF := ip c hF
    refine V.iload_n 2 dX4_compare_83 rfl rfl ?_
    refine V.if_eq (tgt := 91) dX4_compare_84 rfl (fun c => ?_) (fun c => ?_)
    · replace hF := ip c hF
      refine V.iconst (v := 0) dX4_compare_91 rfl ?_
      cases hF
      exact V.bret dX4_compare_92
    · replace hF := iq c hF
      exact V.sub [] rfl (v_X4_compare_87 hF)
