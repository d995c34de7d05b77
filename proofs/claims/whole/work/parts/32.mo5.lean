theorem wd_24 : Cond.selects cn_Mo my_Mo_consumerStep my_Mo_consumerStep ∈ fq_TB := fq_in 24 (by decide +kernel) rfl
theorem wd_775 : Cond.fieldLink cn_Mo 16 cn_Mo "inWidth" "I" ∈ fq_TB := fq_in 775 (by decide +kernel) rfl
theorem wd_776 : Cond.fieldLink cn_Mo 20 cn_Mo "outWidth" "I" ∈ fq_TB := fq_in 776 (by decide +kernel) rfl
theorem wd_777 : Cond.fieldLink cn_Mo 94 cn_Mo "inHigh" "Z" ∈ fq_TB := fq_in 777 (by decide +kernel) rfl
theorem wd_778 : Cond.fieldLink cn_Mo 91 cn_Mo "outHigh" "Z" ∈ fq_TB := fq_in 778 (by decide +kernel) rfl
theorem wd_889 : Cond.instanceMethod my_Mo_format ∈ fq_TB := fq_in 889 (by decide +kernel) rfl
theorem wd_890 : Cond.selects cn_Mo my_Mo_format my_Mo_format ∈ fq_TB := fq_in 890 (by decide +kernel) rfl
theorem wd_891 : Cond.code my_Mo_format cb_Mo_format 4 (some .boolean) ∈ fq_TB := fq_in 891 (by decide +kernel) rfl
theorem wd_974 : Cond.instanceMethod my_Mo_consumerStep ∈ fq_TB := fq_in 974 (by decide +kernel) rfl
theorem wd_975 : Cond.code my_Mo_consumerStep cb_Mo_consumerStep 1 (some .boolean) ∈ fq_TB := fq_in 975 (by decide +kernel) rfl

theorem fo_d {x : Int32} (h : ¬ fo_w x = 0) : x / 8 = nI (fo_w x) := by
  obtain ⟨h1, h2⟩ := fo_x h
  have e : nI (8 * fo_w x) / 8 = nI (8 * fo_w x / 8) := pk_div (d := 8) (by omega) (by decide) (by decide)
  rw [← h1, Nat.mul_div_cancel_left _ (by decide)] at e
  exact e

theorem dc_Mo_consumerStep_0 : decode cb_Mo_consumerStep 0 = .ok (.aload_n 0, 1) := by decide +kernel
theorem dc_Mo_consumerStep_1 : decode cb_Mo_consumerStep 1 = .ok (.getfield 162, 3) := by decide +kernel
theorem dc_Mo_consumerStep_4 : decode cb_Mo_consumerStep 4 = .ok (.iconst 1, 1) := by decide +kernel
theorem dc_Mo_consumerStep_5 : decode cb_Mo_consumerStep 5 = .ok (.if_icmp .eq 5, 3) := by decide +kernel
theorem dc_Mo_consumerStep_8 : decode cb_Mo_consumerStep 8 = .ok (.iconst 0, 1) := by decide +kernel
theorem dc_Mo_consumerStep_9 : decode cb_Mo_consumerStep 9 = .ok (.ireturn, 1) := by decide +kernel
theorem dc_Mo_consumerStep_10 : decode cb_Mo_consumerStep 10 = .ok (.aload_n 0, 1) := by decide +kernel
theorem dc_Mo_consumerStep_11 : decode cb_Mo_consumerStep 11 = .ok (.getfield 153, 3) := by decide +kernel
theorem dc_Mo_consumerStep_14 : decode cb_Mo_consumerStep 14 = .ok (.aload_n 0, 1) := by decide +kernel
theorem dc_Mo_consumerStep_15 : decode cb_Mo_consumerStep 15 = .ok (.getfield 156, 3) := by decide +kernel
theorem dc_Mo_consumerStep_18 : decode cb_Mo_consumerStep 18 = .ok (.if_icmp .le 15, 3) := by decide +kernel
theorem dc_Mo_consumerStep_21 : decode cb_Mo_consumerStep 21 = .ok (.aload_n 0, 1) := by decide +kernel
theorem dc_Mo_consumerStep_22 : decode cb_Mo_consumerStep 22 = .ok (.dup, 1) := by decide +kernel
theorem dc_Mo_consumerStep_23 : decode cb_Mo_consumerStep 23 = .ok (.getfield 156, 3) := by decide +kernel
theorem dc_Mo_consumerStep_26 : decode cb_Mo_consumerStep 26 = .ok (.iconst 1, 1) := by decide +kernel
theorem dc_Mo_consumerStep_27 : decode cb_Mo_consumerStep 27 = .ok (.iadd, 1) := by decide +kernel
theorem dc_Mo_consumerStep_28 : decode cb_Mo_consumerStep 28 = .ok (.putfield 156, 3) := by decide +kernel
theorem dc_Mo_consumerStep_31 : decode cb_Mo_consumerStep 31 = .ok (.iconst 1, 1) := by decide +kernel
theorem dc_Mo_consumerStep_32 : decode cb_Mo_consumerStep 32 = .ok (.ireturn, 1) := by decide +kernel
theorem dc_Mo_consumerStep_33 : decode cb_Mo_consumerStep 33 = .ok (.aload_n 0, 1) := by decide +kernel
theorem dc_Mo_consumerStep_34 : decode cb_Mo_consumerStep 34 = .ok (.getfield 159, 3) := by decide +kernel
theorem dc_Mo_consumerStep_37 : decode cb_Mo_consumerStep 37 = .ok (.iconst 1, 1) := by decide +kernel
theorem dc_Mo_consumerStep_38 : decode cb_Mo_consumerStep 38 = .ok (.if_icmp .ne 5, 3) := by decide +kernel
theorem dc_Mo_consumerStep_41 : decode cb_Mo_consumerStep 41 = .ok (.iconst 0, 1) := by decide +kernel
theorem dc_Mo_consumerStep_42 : decode cb_Mo_consumerStep 42 = .ok (.ireturn, 1) := by decide +kernel
theorem dc_Mo_consumerStep_43 : decode cb_Mo_consumerStep 43 = .ok (.aload_n 0, 1) := by decide +kernel
theorem dc_Mo_consumerStep_44 : decode cb_Mo_consumerStep 44 = .ok (.iconst 2, 1) := by decide +kernel
theorem dc_Mo_consumerStep_45 : decode cb_Mo_consumerStep 45 = .ok (.putfield 162, 3) := by decide +kernel
theorem dc_Mo_consumerStep_48 : decode cb_Mo_consumerStep 48 = .ok (.iconst 1, 1) := by decide +kernel
theorem dc_Mo_consumerStep_49 : decode cb_Mo_consumerStep 49 = .ok (.ireturn, 1) := by decide +kernel
theorem yk_Mo_consumerStep : fq_Y my_Mo_consumerStep cb_Mo_consumerStep 1 (some .boolean) 0 := ⟨wd_975, wd_36, by decide +kernel⟩
theorem dc_Mo_format_0 : decode cb_Mo_format 0 = .ok (.aload_n 0, 1) := by decide +kernel
theorem dc_Mo_format_1 : decode cb_Mo_format 1 = .ok (.getfield 50, 3) := by decide +kernel
theorem dc_Mo_format_4 : decode cb_Mo_format 4 = .ok (.ifCond .ne 27, 3) := by decide +kernel
theorem dc_Mo_format_7 : decode cb_Mo_format 7 = .ok (.iload_n 1, 1) := by decide +kernel
theorem dc_Mo_format_8 : decode cb_Mo_format 8 = .ok (.bipush 8, 2) := by decide +kernel
theorem dc_Mo_format_10 : decode cb_Mo_format 10 = .ok (.if_icmp .eq 23, 3) := by decide +kernel
theorem dc_Mo_format_13 : decode cb_Mo_format 13 = .ok (.iload_n 1, 1) := by decide +kernel
theorem dc_Mo_format_14 : decode cb_Mo_format 14 = .ok (.bipush 16, 2) := by decide +kernel
theorem dc_Mo_format_16 : decode cb_Mo_format 16 = .ok (.if_icmp .eq 17, 3) := by decide +kernel
theorem dc_Mo_format_19 : decode cb_Mo_format 19 = .ok (.iload_n 1, 1) := by decide +kernel
theorem dc_Mo_format_20 : decode cb_Mo_format 20 = .ok (.bipush 24, 2) := by decide +kernel
theorem dc_Mo_format_22 : decode cb_Mo_format 22 = .ok (.if_icmp .eq 11, 3) := by decide +kernel
theorem dc_Mo_format_25 : decode cb_Mo_format 25 = .ok (.iload_n 1, 1) := by decide +kernel
theorem dc_Mo_format_26 : decode cb_Mo_format 26 = .ok (.bipush 32, 2) := by decide +kernel
theorem dc_Mo_format_28 : decode cb_Mo_format 28 = .ok (.if_icmp .eq 5, 3) := by decide +kernel
theorem dc_Mo_format_31 : decode cb_Mo_format 31 = .ok (.iconst 0, 1) := by decide +kernel
theorem dc_Mo_format_32 : decode cb_Mo_format 32 = .ok (.ireturn, 1) := by decide +kernel
theorem dc_Mo_format_33 : decode cb_Mo_format 33 = .ok (.iload_n 3, 1) := by decide +kernel
theorem dc_Mo_format_34 : decode cb_Mo_format 34 = .ok (.ifCond .eq 19, 3) := by decide +kernel
theorem dc_Mo_format_37 : decode cb_Mo_format 37 = .ok (.aload_n 0, 1) := by decide +kernel
theorem dc_Mo_format_38 : decode cb_Mo_format 38 = .ok (.iload_n 1, 1) := by decide +kernel
theorem dc_Mo_format_39 : decode cb_Mo_format 39 = .ok (.bipush 8, 2) := by decide +kernel
theorem dc_Mo_format_41 : decode cb_Mo_format 41 = .ok (.idiv, 1) := by decide +kernel
theorem dc_Mo_format_42 : decode cb_Mo_format 42 = .ok (.putfield 20, 3) := by decide +kernel
theorem dc_Mo_format_45 : decode cb_Mo_format 45 = .ok (.aload_n 0, 1) := by decide +kernel
theorem dc_Mo_format_46 : decode cb_Mo_format 46 = .ok (.iload_n 2, 1) := by decide +kernel
theorem dc_Mo_format_47 : decode cb_Mo_format 47 = .ok (.putfield 91, 3) := by decide +kernel
theorem dc_Mo_format_50 : decode cb_Mo_format 50 = .ok (.goto 16, 3) := by decide +kernel
theorem dc_Mo_format_53 : decode cb_Mo_format 53 = .ok (.aload_n 0, 1) := by decide +kernel
theorem dc_Mo_format_54 : decode cb_Mo_format 54 = .ok (.iload_n 1, 1) := by decide +kernel
theorem dc_Mo_format_55 : decode cb_Mo_format 55 = .ok (.bipush 8, 2) := by decide +kernel
theorem dc_Mo_format_57 : decode cb_Mo_format 57 = .ok (.idiv, 1) := by decide +kernel
theorem dc_Mo_format_58 : decode cb_Mo_format 58 = .ok (.putfield 16, 3) := by decide +kernel
theorem dc_Mo_format_61 : decode cb_Mo_format 61 = .ok (.aload_n 0, 1) := by decide +kernel
theorem dc_Mo_format_62 : decode cb_Mo_format 62 = .ok (.iload_n 2, 1) := by decide +kernel
theorem dc_Mo_format_63 : decode cb_Mo_format 63 = .ok (.putfield 94, 3) := by decide +kernel
theorem dc_Mo_format_66 : decode cb_Mo_format 66 = .ok (.iconst 1, 1) := by decide +kernel
theorem dc_Mo_format_67 : decode cb_Mo_format 67 = .ok (.ireturn, 1) := by decide +kernel
theorem yk_Mo_format : fq_Y my_Mo_format cb_Mo_format 4 (some .boolean) 3 := ⟨wd_891, wd_36, by decide +kernel⟩
set_option maxHeartbeats 4000000 in
set_option maxRecDepth 100000 in
theorem ct_Mo_consumerStep (l : Launch) (D : va_G) (cI cO : ClassId) (tE : Nat) (h aK aN aB aS aL aX : Nat) (rm : Nat) (sd : Bool) (ns : Nat) (iw : Nat) (ow : Nat) (ih : Bool) (oh : Bool) (ca : Nat) (us : Nat) (cl : Bool) (fl : Bool) (tk : Nat) (md : Nat) (gi : Nat) (su : Nat) (ps : Nat) (cs : Nat) (fK fN fB fS fL fX : Nat → Int32) (hcs : cs ≤ 3) (hps : ps ≤ 3) (hgi : gi < 2 ^ 31) (hsu : su ≤ gi) (sz : Nat) : Met l my_Mo_consumerStep (fq_w my_Mo_consumerStep cb_Mo_consumerStep 1 (some .boolean)) ({ frames := 0, cells := 0, slots := 0, locals := 0 }) (va_Pc ([.ref h]) (fq_Pre D cI cO tE sz ([(h, .inr (12, [.int (nI rm), .int (fq_b sd), .int (nI ns), .ref aK, .ref aN, .int (nI iw), .int (nI ow), .int (fq_b ih), .int (fq_b oh), .ref aB, .int (nI ca), .int (nI us), .int (fq_b cl), .int (fq_b fl), .ref aS, .int (nI tk), .ref aL, .ref aX, .int (nI md), .int (nI gi), .int (nI su), .int (nI ps), .int (nI cs)])), (aK, .inl (cI, 5, .inl fK)), (aN, .inl (cI, 25, .inl fN)), (aB, .inl (cI, 120, .inl fB)), (aS, .inl (cI, 120, .inl fS)), (aL, .inl (cI, 2300, .inl fL)), (aX, .inl (cI, 2300, .inl fX))]))) (va_Qi (S := va_W) (fun r w => if cs = 1 then (if gi ≤ su then (if ps = 1 then r = 0 ∧ w = [(h, .inr (12, [.int (nI rm), .int (fq_b sd), .int (nI ns), .ref aK, .ref aN, .int (nI iw), .int (nI ow), .int (fq_b ih), .int (fq_b oh), .ref aB, .int (nI ca), .int (nI us), .int (fq_b cl), .int (fq_b fl), .ref aS, .int (nI tk), .ref aL, .ref aX, .int (nI md), .int (nI gi), .int (nI su), .int (nI ps), .int (nI cs)])), (aK, .inl (cI, 5, .inl fK)), (aN, .inl (cI, 25, .inl fN)), (aB, .inl (cI, 120, .inl fB)), (aS, .inl (cI, 120, .inl fS)), (aL, .inl (cI, 2300, .inl fL)), (aX, .inl (cI, 2300, .inl fX))] else r = 1 ∧ w = [(h, .inr (12, [.int (nI rm), .int (fq_b sd), .int (nI ns), .ref aK, .ref aN, .int (nI iw), .int (nI ow), .int (fq_b ih), .int (fq_b oh), .ref aB, .int (nI ca), .int (nI us), .int (fq_b cl), .int (fq_b fl), .ref aS, .int (nI tk), .ref aL, .ref aX, .int (nI md), .int (nI gi), .int (nI su), .int (nI ps), .int (nI 2)])), (aK, .inl (cI, 5, .inl fK)), (aN, .inl (cI, 25, .inl fN)), (aB, .inl (cI, 120, .inl fB)), (aS, .inl (cI, 120, .inl fS)), (aL, .inl (cI, 2300, .inl fL)), (aX, .inl (cI, 2300, .inl fX))]) else r = 1 ∧ w = [(h, .inr (12, [.int (nI rm), .int (fq_b sd), .int (nI ns), .ref aK, .ref aN, .int (nI iw), .int (nI ow), .int (fq_b ih), .int (fq_b oh), .ref aB, .int (nI ca), .int (nI us), .int (fq_b cl), .int (fq_b fl), .ref aS, .int (nI tk), .ref aL, .ref aX, .int (nI md), .int (nI gi), .int (nI (su + 1)), .int (nI ps), .int (nI cs)])), (aK, .inl (cI, 5, .inl fK)), (aN, .inl (cI, 25, .inl fN)), (aB, .inl (cI, 120, .inl fB)), (aS, .inl (cI, 120, .inl fS)), (aL, .inl (cI, 2300, .inl fL)), (aX, .inl (cI, 2300, .inl fX))]) else r = 0 ∧ w = [(h, .inr (12, [.int (nI rm), .int (fq_b sd), .int (nI ns), .ref aK, .ref aN, .int (nI iw), .int (nI ow), .int (fq_b ih), .int (fq_b oh), .ref aB, .int (nI ca), .int (nI us), .int (fq_b cl), .int (fq_b fl), .ref aS, .int (nI tk), .ref aL, .ref aX, .int (nI md), .int (nI gi), .int (nI su), .int (nI ps), .int (nI cs)])), (aK, .inl (cI, 5, .inl fK)), (aN, .inl (cI, 25, .inl fN)), (aB, .inl (cI, 120, .inl fB)), (aS, .inl (cI, 120, .inl fS)), (aL, .inl (cI, 2300, .inl fL)), (aX, .inl (cI, 2300, .inl fX))]) (fq_Bw D (va_A ([(h, .inr (12, [.int (nI rm), .int (fq_b sd), .int (nI ns), .ref aK, .ref aN, .int (nI iw), .int (nI ow), .int (fq_b ih), .int (fq_b oh), .ref aB, .int (nI ca), .int (nI us), .int (fq_b cl), .int (fq_b fl), .ref aS, .int (nI tk), .ref aL, .ref aX, .int (nI md), .int (nI gi), .int (nI su), .int (nI ps), .int (nI cs)])), (aK, .inl (cI, 5, .inl fK)), (aN, .inl (cI, 25, .inl fN)), (aB, .inl (cI, 120, .inl fB)), (aS, .inl (cI, 120, .inl fS)), (aL, .inl (cI, 2300, .inl fL)), (aX, .inl (cI, 2300, .inl fX))]) sz)) (va_A ([(h, .inr (12, [.int (nI rm), .int (fq_b sd), .int (nI ns), .ref aK, .ref aN, .int (nI iw), .int (nI ow), .int (fq_b ih), .int (fq_b oh), .ref aB, .int (nI ca), .int (nI us), .int (fq_b cl), .int (fq_b fl), .ref aS, .int (nI tk), .ref aL, .ref aX, .int (nI md), .int (nI gi), .int (nI su), .int (nI ps), .int (nI cs)])), (aK, .inl (cI, 5, .inl fK)), (aN, .inl (cI, 25, .inl fN)), (aB, .inl (cI, 120, .inl fB)), (aS, .inl (cI, 120, .inl fS)), (aL, .inl (cI, 2300, .inl fL)), (aX, .inl (cI, 2300, .inl fX))]) sz)) (0) (0) (va_A ([(h, .inr (12, [.int (nI rm), .int (fq_b sd), .int (nI ns), .ref aK, .ref aN, .int (nI iw), .int (nI ow), .int (fq_b ih), .int (fq_b oh), .ref aB, .int (nI ca), .int (nI us), .int (fq_b cl), .int (fq_b fl), .ref aS, .int (nI tk), .ref aL, .ref aX, .int (nI md), .int (nI gi), .int (nI su), .int (nI ps), .int (nI cs)])), (aK, .inl (cI, 5, .inl fK)), (aN, .inl (cI, 25, .inl fN)), (aB, .inl (cI, 120, .inl fB)), (aS, .inl (cI, 120, .inl fS)), (aL, .inl (cI, 2300, .inl fL)), (aX, .inl (cI, 2300, .inl fX))]) sz) := by
  refine fq_open (by decide +kernel) (Nat.le_of_ble_eq_true rfl) ?_
  intro pg ev s mt below meth cd ls K hret hlk hin hK hZ hP hD hA hS hl
  generalize va_A ([(h, .inr (12, [.int (nI rm), .int (fq_b sd), .int (nI ns), .ref aK, .ref aN, .int (nI iw), .int (nI ow), .int (fq_b ih), .int (fq_b oh), .ref aB, .int (nI ca), .int (nI us), .int (fq_b cl), .int (fq_b fl), .ref aS, .int (nI tk), .ref aL, .ref aX, .int (nI md), .int (nI gi), .int (nI su), .int (nI ps), .int (nI cs)])), (aK, .inl (cI, 5, .inl fK)), (aN, .inl (cI, 25, .inl fN)), (aB, .inl (cI, 120, .inl fB)), (aS, .inl (cI, 120, .inl fS)), (aL, .inl (cI, 2300, .inl fL)), (aX, .inl (cI, 2300, .inl fX))]) sz = A at hZ hD hA hS ⊢
  have K : fq_Ctx pg mt cd cb_Mo_consumerStep 1 s _ cn_Mo := K
  have hl : lv_has ls 1 [(0, .ref h)] := hl
  refine lv_aload_n K.1 K.2.1 dc_Mo_consumerStep_0 rfl (lv_at hl 0 rfl) ?_
  refine fq_get K hK cl_Mo hP 0 22 rfl (by decide) wd_792 rfl dc_Mo_consumerStep_1 ?_
  refine lv_iconst (v := 1) K.1 K.2.1 dc_Mo_consumerStep_4 (by decide) ?_
  refine lv_icmp_eq (tgt := 10) K.1 K.2.1 dc_Mo_consumerStep_5 rfl (fun b5 => ?_) (fun b5 => ?_)
  · skip
    have hz5 : cs = 1 := (nI_eq (by omega) (by decide)).mp b5
    refine lv_aload_n K.1 K.2.1 dc_Mo_consumerStep_10 rfl (lv_at hl 0 rfl) ?_
    refine fq_get K hK cl_Mo hP 0 19 rfl (by decide) wd_789 rfl dc_Mo_consumerStep_11 ?_
    refine lv_aload_n K.1 K.2.1 dc_Mo_consumerStep_14 rfl (lv_at hl 0 rfl) ?_
    refine fq_get K hK cl_Mo hP 0 20 rfl (by decide) wd_790 rfl dc_Mo_consumerStep_15 ?_
    refine lv_icmp_le (tgt := 33) K.1 K.2.1 dc_Mo_consumerStep_18 rfl (fun b18 => ?_) (fun b18 => ?_)
    · skip
      rw [nI_leI (by omega) (by omega)] at b18
      refine lv_aload_n K.1 K.2.1 dc_Mo_consumerStep_33 rfl (lv_at hl 0 rfl) ?_
      refine fq_get K hK cl_Mo hP 0 21 rfl (by decide) wd_791 rfl dc_Mo_consumerStep_34 ?_
      refine lv_iconst (v := 1) K.1 K.2.1 dc_Mo_consumerStep_37 (by decide) ?_
      refine lv_icmp_ne (tgt := 43) K.1 K.2.1 dc_Mo_consumerStep_38 rfl (fun b38 => ?_) (fun b38 => ?_)
      · skip
        have hz38 : ¬ ps = 1 := fun z => b38 (by rw [z]; rfl)
        refine lv_aload_n K.1 K.2.1 dc_Mo_consumerStep_43 rfl (lv_at hl 0 rfl) ?_
        refine lv_iconst (v := 2) K.1 K.2.1 dc_Mo_consumerStep_44 (by decide) ?_
        refine fq_put K hK cl_Mo hP hD hS 0 22 rfl (by decide) wd_792 rfl rfl rfl (Nat.le_of_ble_eq_true rfl) dc_Mo_consumerStep_45 (fun H locs hP hD hS => ?_)
        have hP : va_P D fq_cl ([(h, .inr (12, [.int (nI rm), .int (fq_b sd), .int (nI ns), .ref aK, .ref aN, .int (nI iw), .int (nI ow), .int (fq_b ih), .int (fq_b oh), .ref aB, .int (nI ca), .int (nI us), .int (fq_b cl), .int (fq_b fl), .ref aS, .int (nI tk), .ref aL, .ref aX, .int (nI md), .int (nI gi), .int (nI su), .int (nI ps), .int 2])), (aK, .inl (cI, 5, .inl fK)), (aN, .inl (cI, 25, .inl fN)), (aB, .inl (cI, 120, .inl fB)), (aS, .inl (cI, 120, .inl fS)), (aL, .inl (cI, 2300, .inl fL)), (aX, .inl (cI, 2300, .inl fX))]) _ := hP
        have hD : va_D A ([(h, .inr (12, [.int (nI rm), .int (fq_b sd), .int (nI ns), .ref aK, .ref aN, .int (nI iw), .int (nI ow), .int (fq_b ih), .int (fq_b oh), .ref aB, .int (nI ca), .int (nI us), .int (fq_b cl), .int (fq_b fl), .ref aS, .int (nI tk), .ref aL, .ref aX, .int (nI md), .int (nI gi), .int (nI su), .int (nI ps), .int 2])), (aK, .inl (cI, 5, .inl fK)), (aN, .inl (cI, 25, .inl fN)), (aB, .inl (cI, 120, .inl fB)), (aS, .inl (cI, 120, .inl fS)), (aL, .inl (cI, 2300, .inl fL)), (aX, .inl (cI, 2300, .inl fX))]) := hD
        refine lv_iconst (v := 1) K.1 K.2.1 dc_Mo_consumerStep_48 (by decide) ?_
        exact fq_retz K hret hlk hS hP hD (by first | exact Or.inl rfl | exact Or.inr rfl) (by rw [if_pos hz5, if_pos b18, if_neg hz38]; exact ⟨rfl, rfl⟩) dc_Mo_consumerStep_49 (Nat.le_of_ble_eq_true rfl) (Nat.le_of_ble_eq_true rfl)
      · skip
        have hz38 : ps = 1 := (nI_eq (by omega) (by decide)).mp b38
        refine lv_iconst (v := 0) K.1 K.2.1 dc_Mo_consumerStep_41 (by decide) ?_
        exact fq_retz K hret hlk hS hP hD (by first | exact Or.inl rfl | exact Or.inr rfl) (by rw [if_pos hz5, if_pos b18, if_pos hz38]; exact ⟨rfl, rfl⟩) dc_Mo_consumerStep_42 (Nat.le_of_ble_eq_true rfl) (Nat.le_of_ble_eq_true rfl)
    · skip
      rw [nI_leI (by omega) (by omega)] at b18
      refine lv_aload_n K.1 K.2.1 dc_Mo_consumerStep_21 rfl (lv_at hl 0 rfl) ?_
      refine lv_dup K.1 K.2.1 dc_Mo_consumerStep_22 rfl ?_
      refine fq_get K hK cl_Mo hP 0 20 rfl (by decide) wd_790 rfl dc_Mo_consumerStep_23 ?_
      refine lv_iconst (v := 1) K.1 K.2.1 dc_Mo_consumerStep_26 (by decide) ?_
      refine lv_iadd K.1 K.2.1 dc_Mo_consumerStep_27 ?_
      refine fq_asi (y := nI (su + 1)) (nI_1 su) ?_
      refine fq_put K hK cl_Mo hP hD hS 0 20 rfl (by decide) wd_790 rfl rfl rfl (Nat.le_of_ble_eq_true rfl) dc_Mo_consumerStep_28 (fun H locs hP hD hS => ?_)
      have hP : va_P D fq_cl ([(h, .inr (12, [.int (nI rm), .int (fq_b sd), .int (nI ns), .ref aK, .ref aN, .int (nI iw), .int (nI ow), .int (fq_b ih), .int (fq_b oh), .ref aB, .int (nI ca), .int (nI us), .int (fq_b cl), .int (fq_b fl), .ref aS, .int (nI tk), .ref aL, .ref aX, .int (nI md), .int (nI gi), .int (nI (su + 1)), .int (nI ps), .int (nI cs)])), (aK, .inl (cI, 5, .inl fK)), (aN, .inl (cI, 25, .inl fN)), (aB, .inl (cI, 120, .inl fB)), (aS, .inl (cI, 120, .inl fS)), (aL, .inl (cI, 2300, .inl fL)), (aX, .inl (cI, 2300, .inl fX))]) _ := hP
      have hD : va_D A ([(h, .inr (12, [.int (nI rm), .int (fq_b sd), .int (nI ns), .ref aK, .ref aN, .int (nI iw), .int (nI ow), .int (fq_b ih), .int (fq_b oh), .ref aB, .int (nI ca), .int (nI us), .int (fq_b cl), .int (fq_b fl), .ref aS, .int (nI tk), .ref aL, .ref aX, .int (nI md), .int (nI gi), .int (nI (su + 1)), .int (nI ps), .int (nI cs)])), (aK, .inl (cI, 5, .inl fK)), (aN, .inl (cI, 25, .inl fN)), (aB, .inl (cI, 120, .inl fB)), (aS, .inl (cI, 120, .inl fS)), (aL, .inl (cI, 2300, .inl fL)), (aX, .inl (cI, 2300, .inl fX))]) := hD
      refine lv_iconst (v := 1) K.1 K.2.1 dc_Mo_consumerStep_31 (by decide) ?_
      exact fq_retz K hret hlk hS hP hD (by first | exact Or.inl rfl | exact Or.inr rfl) (by rw [if_pos hz5, if_neg b18]; exact ⟨rfl, rfl⟩) dc_Mo_consumerStep_32 (Nat.le_of_ble_eq_true rfl) (Nat.le_of_ble_eq_true rfl)
  · skip
    have hz5 : ¬ cs = 1 := fun z => b5 (by rw [z]; rfl)
    refine lv_iconst (v := 0) K.1 K.2.1 dc_Mo_consumerStep_8 (by decide) ?_
    exact fq_retz K hret hlk hS hP hD (by first | exact Or.inl rfl | exact Or.inr rfl) (by rw [if_neg hz5]; exact ⟨rfl, rfl⟩) dc_Mo_consumerStep_9 (Nat.le_of_ble_eq_true rfl) (Nat.le_of_ble_eq_true rfl)
set_option maxHeartbeats 4000000 in
set_option maxRecDepth 100000 in
theorem ct_Mo_format (l : Launch) (D : va_G) (cI cO : ClassId) (tE : Nat) (h aK aN aB aS aL aX : Nat) (rm : Nat) (sd : Bool) (ns : Nat) (iw : Nat) (ow : Nat) (ih : Bool) (oh : Bool) (ca : Nat) (us : Nat) (cl : Bool) (fl : Bool) (tk : Nat) (md : Nat) (gi : Nat) (su : Nat) (ps : Nat) (cs : Nat) (fK fN fB fS fL fX : Nat → Int32) (x : Int32) (hb ob : Bool) (sz : Nat) : Met l my_Mo_format (fq_w my_Mo_format cb_Mo_format 4 (some .boolean)) ({ frames := 0, cells := 0, slots := 0, locals := 0 }) (va_Pc ([.ref h, .int x, .int (fq_b hb), .int (fq_b ob)]) (fq_Pre D cI cO tE sz ([(h, .inr (12, [.int (nI rm), .int (fq_b sd), .int (nI ns), .ref aK, .ref aN, .int (nI iw), .int (nI ow), .int (fq_b ih), .int (fq_b oh), .ref aB, .int (nI ca), .int (nI us), .int (fq_b cl), .int (fq_b fl), .ref aS, .int (nI tk), .ref aL, .ref aX, .int (nI md), .int (nI gi), .int (nI su), .int (nI ps), .int (nI cs)])), (aK, .inl (cI, 5, .inl fK)), (aN, .inl (cI, 25, .inl fN)), (aB, .inl (cI, 120, .inl fB)), (aS, .inl (cI, 120, .inl fS)), (aL, .inl (cI, 2300, .inl fL)), (aX, .inl (cI, 2300, .inl fX))]))) (va_Qi (S := va_W) (fun r w => if sd = false ∧ ¬ fo_w x = 0 then r = 1 ∧ (if ob = true then w = [(h, .inr (12, [.int (nI rm), .int (fq_b sd), .int (nI ns), .ref aK, .ref aN, .int (nI iw), .int (nI (fo_w x)), .int (fq_b ih), .int (fq_b hb), .ref aB, .int (nI ca), .int (nI us), .int (fq_b cl), .int (fq_b fl), .ref aS, .int (nI tk), .ref aL, .ref aX, .int (nI md), .int (nI gi), .int (nI su), .int (nI ps), .int (nI cs)])), (aK, .inl (cI, 5, .inl fK)), (aN, .inl (cI, 25, .inl fN)), (aB, .inl (cI, 120, .inl fB)), (aS, .inl (cI, 120, .inl fS)), (aL, .inl (cI, 2300, .inl fL)), (aX, .inl (cI, 2300, .inl fX))] else w = [(h, .inr (12, [.int (nI rm), .int (fq_b sd), .int (nI ns), .ref aK, .ref aN, .int (nI (fo_w x)), .int (nI ow), .int (fq_b hb), .int (fq_b oh), .ref aB, .int (nI ca), .int (nI us), .int (fq_b cl), .int (fq_b fl), .ref aS, .int (nI tk), .ref aL, .ref aX, .int (nI md), .int (nI gi), .int (nI su), .int (nI ps), .int (nI cs)])), (aK, .inl (cI, 5, .inl fK)), (aN, .inl (cI, 25, .inl fN)), (aB, .inl (cI, 120, .inl fB)), (aS, .inl (cI, 120, .inl fS)), (aL, .inl (cI, 2300, .inl fL)), (aX, .inl (cI, 2300, .inl fX))]) else r = 0 ∧ w = [(h, .inr (12, [.int (nI rm), .int (fq_b sd), .int (nI ns), .ref aK, .ref aN, .int (nI iw), .int (nI ow), .int (fq_b ih), .int (fq_b oh), .ref aB, .int (nI ca), .int (nI us), .int (fq_b cl), .int (fq_b fl), .ref aS, .int (nI tk), .ref aL, .ref aX, .int (nI md), .int (nI gi), .int (nI su), .int (nI ps), .int (nI cs)])), (aK, .inl (cI, 5, .inl fK)), (aN, .inl (cI, 25, .inl fN)), (aB, .inl (cI, 120, .inl fB)), (aS, .inl (cI, 120, .inl fS)), (aL, .inl (cI, 2300, .inl fL)), (aX, .inl (cI, 2300, .inl fX))]) (fq_Bw D (va_A ([(h, .inr (12, [.int (nI rm), .int (fq_b sd), .int (nI ns), .ref aK, .ref aN, .int (nI iw), .int (nI ow), .int (fq_b ih), .int (fq_b oh), .ref aB, .int (nI ca), .int (nI us), .int (fq_b cl), .int (fq_b fl), .ref aS, .int (nI tk), .ref aL, .ref aX, .int (nI md), .int (nI gi), .int (nI su), .int (nI ps), .int (nI cs)])), (aK, .inl (cI, 5, .inl fK)), (aN, .inl (cI, 25, .inl fN)), (aB, .inl (cI, 120, .inl fB)), (aS, .inl (cI, 120, .inl fS)), (aL, .inl (cI, 2300, .inl fL)), (aX, .inl (cI, 2300, .inl fX))]) sz)) (va_A ([(h, .inr (12, [.int (nI rm), .int (fq_b sd), .int (nI ns), .ref aK, .ref aN, .int (nI iw), .int (nI ow), .int (fq_b ih), .int (fq_b oh), .ref aB, .int (nI ca), .int (nI us), .int (fq_b cl), .int (fq_b fl), .ref aS, .int (nI tk), .ref aL, .ref aX, .int (nI md), .int (nI gi), .int (nI su), .int (nI ps), .int (nI cs)])), (aK, .inl (cI, 5, .inl fK)), (aN, .inl (cI, 25, .inl fN)), (aB, .inl (cI, 120, .inl fB)), (aS, .inl (cI, 120, .inl fS)), (aL, .inl (cI, 2300, .inl fL)), (aX, .inl (cI, 2300, .inl fX))]) sz)) (0) (0) (va_A ([(h, .inr (12, [.int (nI rm), .int (fq_b sd), .int (nI ns), .ref aK, .ref aN, .int (nI iw), .int (nI ow), .int (fq_b ih), .int (fq_b oh), .ref aB, .int (nI ca), .int (nI us), .int (fq_b cl), .int (fq_b fl), .ref aS, .int (nI tk), .ref aL, .ref aX, .int (nI md), .int (nI gi), .int (nI su), .int (nI ps), .int (nI cs)])), (aK, .inl (cI, 5, .inl fK)), (aN, .inl (cI, 25, .inl fN)), (aB, .inl (cI, 120, .inl fB)), (aS, .inl (cI, 120, .inl fS)), (aL, .inl (cI, 2300, .inl fL)), (aX, .inl (cI, 2300, .inl fX))]) sz) := by
  refine fq_open (by decide +kernel) (Nat.le_of_ble_eq_true rfl) ?_
  intro pg ev s mt below meth cd ls K hret hlk hin hK hZ hP hD hA hS hl
  generalize va_A ([(h, .inr (12, [.int (nI rm), .int (fq_b sd), .int (nI ns), .ref aK, .ref aN, .int (nI iw), .int (nI ow), .int (fq_b ih), .int (fq_b oh), .ref aB, .int (nI ca), .int (nI us), .int (fq_b cl), .int (fq_b fl), .ref aS, .int (nI tk), .ref aL, .ref aX, .int (nI md), .int (nI gi), .int (nI su), .int (nI ps), .int (nI cs)])), (aK, .inl (cI, 5, .inl fK)), (aN, .inl (cI, 25, .inl fN)), (aB, .inl (cI, 120, .inl fB)), (aS, .inl (cI, 120, .inl fS)), (aL, .inl (cI, 2300, .inl fL)), (aX, .inl (cI, 2300, .inl fX))]) sz = A at hZ hD hA hS ⊢
  have K : fq_Ctx pg mt cd cb_Mo_format 4 s _ cn_Mo := K
  have hl : lv_has ls 4 [(0, .ref h), (1, .int x), (2, .int (fq_b hb)), (3, .int (fq_b ob))] := hl
  refine lv_aload_n K.1 K.2.1 dc_Mo_format_0 rfl (lv_at hl 0 rfl) ?_
  refine fq_get K hK cl_Mo hP 0 1 rfl (by decide) wd_771 rfl dc_Mo_format_1 ?_
  refine lv_if_ne (tgt := 31) K.1 K.2.1 dc_Mo_format_4 rfl (fun b4 => ?_) (fun b4 => ?_)
  · skip
    have hs : ¬ sd = false := fun z => by rw [fq_b1 b4] at z; exact absurd z (by decide)
    refine lv_iconst (v := 0) K.1 K.2.1 dc_Mo_format_31 (by decide) ?_
    exact fq_retz K hret hlk hS hP hD (by first | exact Or.inl rfl | exact Or.inr rfl) (by first | (rw [if_neg (fun z => hs z.1)]; exact ⟨rfl, rfl⟩) | (rw [if_neg (fun z => z.2 hx)]; exact ⟨rfl, rfl⟩)) dc_Mo_format_32 (Nat.le_of_ble_eq_true rfl) (Nat.le_of_ble_eq_true rfl)
  · skip
    have hs := fq_b0 b4
    refine lv_iload_n K.1 K.2.1 dc_Mo_format_7 rfl (lv_at hl 1 rfl) ?_
    refine lv_bipush (v := 8) K.1 K.2.1 dc_Mo_format_8 (by decide) ?_
    refine lv_icmp_eq (tgt := 33) K.1 K.2.1 dc_Mo_format_10 rfl (fun b10 => ?_) (fun b10 => ?_)
    · skip
      have hx : ¬ fo_w x = 0 := by rw [b10]; decide
      refine lv_iload_n K.1 K.2.1 dc_Mo_format_33 rfl (lv_at hl 3 rfl) ?_
      refine lv_if_eq (tgt := 53) K.1 K.2.1 dc_Mo_format_34 rfl (fun b34 => ?_) (fun b34 => ?_)
      · skip
        have hob := fq_b0 b34
        refine lv_aload_n K.1 K.2.1 dc_Mo_format_53 rfl (lv_at hl 0 rfl) ?_
        refine lv_iload_n K.1 K.2.1 dc_Mo_format_54 rfl (lv_at hl 1 rfl) ?_
        refine lv_bipush (v := 8) K.1 K.2.1 dc_Mo_format_55 (by decide) ?_
        refine lv_idiv K.1 K.2.1 dc_Mo_format_57 (by decide) ?_
        refine fq_asi (y := nI (fo_w x)) (fo_d hx) ?_
        refine fq_put K hK cl_Mo hP hD hS 0 5 rfl (by decide) wd_775 rfl rfl rfl (Nat.le_of_ble_eq_true rfl) dc_Mo_format_58 (fun H locs hP hD hS => ?_)
        have hP : va_P D fq_cl ([(h, .inr (12, [.int (nI rm), .int (fq_b sd), .int (nI ns), .ref aK, .ref aN, .int (nI (fo_w x)), .int (nI ow), .int (fq_b ih), .int (fq_b oh), .ref aB, .int (nI ca), .int (nI us), .int (fq_b cl), .int (fq_b fl), .ref aS, .int (nI tk), .ref aL, .ref aX, .int (nI md), .int (nI gi), .int (nI su), .int (nI ps), .int (nI cs)])), (aK, .inl (cI, 5, .inl fK)), (aN, .inl (cI, 25, .inl fN)), (aB, .inl (cI, 120, .inl fB)), (aS, .inl (cI, 120, .inl fS)), (aL, .inl (cI, 2300, .inl fL)), (aX, .inl (cI, 2300, .inl fX))]) _ := hP
        have hD : va_D A ([(h, .inr (12, [.int (nI rm), .int (fq_b sd), .int (nI ns), .ref aK, .ref aN, .int (nI (fo_w x)), .int (nI ow), .int (fq_b ih), .int (fq_b oh), .ref aB, .int (nI ca), .int (nI us), .int (fq_b cl), .int (fq_b fl), .ref aS, .int (nI tk), .ref aL, .ref aX, .int (nI md), .int (nI gi), .int (nI su), .int (nI ps), .int (nI cs)])), (aK, .inl (cI, 5, .inl fK)), (aN, .inl (cI, 25, .inl fN)), (aB, .inl (cI, 120, .inl fB)), (aS, .inl (cI, 120, .inl fS)), (aL, .inl (cI, 2300, .inl fL)), (aX, .inl (cI, 2300, .inl fX))]) := hD
        refine lv_aload_n K.1 K.2.1 dc_Mo_format_61 rfl (lv_at hl 0 rfl) ?_
        refine lv_iload_n K.1 K.2.1 dc_Mo_format_62 rfl (lv_at hl 2 rfl) ?_
        refine fq_put K hK cl_Mo hP hD hS 0 7 rfl (by decide) wd_777 rfl (fq_bn hb) (fq_bf hb) (Nat.le_of_ble_eq_true rfl) dc_Mo_format_63 (fun H locs hP hD hS => ?_)
        have hP : va_P D fq_cl ([(h, .inr (12, [.int (nI rm), .int (fq_b sd), .int (nI ns), .ref aK, .ref aN, .int (nI (fo_w x)), .int (nI ow), .int (fq_b hb), .int (fq_b oh), .ref aB, .int (nI ca), .int (nI us), .int (fq_b cl), .int (fq_b fl), .ref aS, .int (nI tk), .ref aL, .ref aX, .int (nI md), .int (nI gi), .int (nI su), .int (nI ps), .int (nI cs)])), (aK, .inl (cI, 5, .inl fK)), (aN, .inl (cI, 25, .inl fN)), (aB, .inl (cI, 120, .inl fB)), (aS, .inl (cI, 120, .inl fS)), (aL, .inl (cI, 2300, .inl fL)), (aX, .inl (cI, 2300, .inl fX))]) _ := hP
        have hD : va_D A ([(h, .inr (12, [.int (nI rm), .int (fq_b sd), .int (nI ns), .ref aK, .ref aN, .int (nI (fo_w x)), .int (nI ow), .int (fq_b hb), .int (fq_b oh), .ref aB, .int (nI ca), .int (nI us), .int (fq_b cl), .int (fq_b fl), .ref aS, .int (nI tk), .ref aL, .ref aX, .int (nI md), .int (nI gi), .int (nI su), .int (nI ps), .int (nI cs)])), (aK, .inl (cI, 5, .inl fK)), (aN, .inl (cI, 25, .inl fN)), (aB, .inl (cI, 120, .inl fB)), (aS, .inl (cI, 120, .inl fS)), (aL, .inl (cI, 2300, .inl fL)), (aX, .inl (cI, 2300, .inl fX))]) := hD
        refine lv_iconst (v := 1) K.1 K.2.1 dc_Mo_format_66 (by decide) ?_
        exact fq_retz K hret hlk hS hP hD (by first | exact Or.inl rfl | exact Or.inr rfl) (by rw [if_pos ⟨hs, hx⟩, hob]; exact ⟨rfl, rfl⟩) dc_Mo_format_67 (Nat.le_of_ble_eq_true rfl) (Nat.le_of_ble_eq_true rfl)
      · skip
        have hob := fq_b1 b34
        refine lv_aload_n K.1 K.2.1 dc_Mo_format_37 rfl (lv_at hl 0 rfl) ?_
        refine lv_iload_n K.1 K.2.1 dc_Mo_format_38 rfl (lv_at hl 1 rfl) ?_
        refine lv_bipush (v := 8) K.1 K.2.1 dc_Mo_format_39 (by decide) ?_
        refine lv_idiv K.1 K.2.1 dc_Mo_format_41 (by decide) ?_
        refine fq_asi (y := nI (fo_w x)) (fo_d hx) ?_
        refine fq_put K hK cl_Mo hP hD hS 0 6 rfl (by decide) wd_776 rfl rfl rfl (Nat.le_of_ble_eq_true rfl) dc_Mo_format_42 (fun H locs hP hD hS => ?_)
        have hP : va_P D fq_cl ([(h, .inr (12, [.int (nI rm), .int (fq_b sd), .int (nI ns), .ref aK, .ref aN, .int (nI iw), .int (nI (fo_w x)), .int (fq_b ih), .int (fq_b oh), .ref aB, .int (nI ca), .int (nI us), .int (fq_b cl), .int (fq_b fl), .ref aS, .int (nI tk), .ref aL, .ref aX, .int (nI md), .int (nI gi), .int (nI su), .int (nI ps), .int (nI cs)])), (aK, .inl (cI, 5, .inl fK)), (aN, .inl (cI, 25, .inl fN)), (aB, .inl (cI, 120, .inl fB)), (aS, .inl (cI, 120, .inl fS)), (aL, .inl (cI, 2300, .inl fL)), (aX, .inl (cI, 2300, .inl fX))]) _ := hP
        have hD : va_D A ([(h, .inr (12, [.int (nI rm), .int (fq_b sd), .int (nI ns), .ref aK, .ref aN, .int (nI iw), .int (nI (fo_w x)), .int (fq_b ih), .int (fq_b oh), .ref aB, .int (nI ca), .int (nI us), .int (fq_b cl), .int (fq_b fl), .ref aS, .int (nI tk), .ref aL, .ref aX, .int (nI md), .int (nI gi), .int (nI su), .int (nI ps), .int (nI cs)])), (aK, .inl (cI, 5, .inl fK)), (aN, .inl (cI, 25, .inl fN)), (aB, .inl (cI, 120, .inl fB)), (aS, .inl (cI, 120, .inl fS)), (aL, .inl (cI, 2300, .inl fL)), (aX, .inl (cI, 2300, .inl fX))]) := hD
        refine lv_aload_n K.1 K.2.1 dc_Mo_format_45 rfl (lv_at hl 0 rfl) ?_
        refine lv_iload_n K.1 K.2.1 dc_Mo_format_46 rfl (lv_at hl 2 rfl) ?_
        refine fq_put K hK cl_Mo hP hD hS 0 8 rfl (by decide) wd_778 rfl (fq_bn hb) (fq_bf hb) (Nat.le_of_ble_eq_true rfl) dc_Mo_format_47 (fun H locs hP hD hS => ?_)
        have hP : va_P D fq_cl ([(h, .inr (12, [.int (nI rm), .int (fq_b sd), .int (nI ns), .ref aK, .ref aN, .int (nI iw), .int (nI (fo_w x)), .int (fq_b ih), .int (fq_b hb), .ref aB, .int (nI ca), .int (nI us), .int (fq_b cl), .int (fq_b fl), .ref aS, .int (nI tk), .ref aL, .ref aX, .int (nI md), .int (nI gi), .int (nI su), .int (nI ps), .int (nI cs)])), (aK, .inl (cI, 5, .inl fK)), (aN, .inl (cI, 25, .inl fN)), (aB, .inl (cI, 120, .inl fB)), (aS, .inl (cI, 120, .inl fS)), (aL, .inl (cI, 2300, .inl fL)), (aX, .inl (cI, 2300, .inl fX))]) _ := hP
        have hD : va_D A ([(h, .inr (12, [.int (nI rm), .int (fq_b sd), .int (nI ns), .ref aK, .ref aN, .int (nI iw), .int (nI (fo_w x)), .int (fq_b ih), .int (fq_b hb), .ref aB, .int (nI ca), .int (nI us), .int (fq_b cl), .int (fq_b fl), .ref aS, .int (nI tk), .ref aL, .ref aX, .int (nI md), .int (nI gi), .int (nI su), .int (nI ps), .int (nI cs)])), (aK, .inl (cI, 5, .inl fK)), (aN, .inl (cI, 25, .inl fN)), (aB, .inl (cI, 120, .inl fB)), (aS, .inl (cI, 120, .inl fS)), (aL, .inl (cI, 2300, .inl fL)), (aX, .inl (cI, 2300, .inl fX))]) := hD
        refine lv_goto (tgt := 66) K.1 K.2.1 dc_Mo_format_50 rfl ?_
        refine lv_iconst (v := 1) K.1 K.2.1 dc_Mo_format_66 (by decide) ?_
        exact fq_retz K hret hlk hS hP hD (by first | exact Or.inl rfl | exact Or.inr rfl) (by rw [if_pos ⟨hs, hx⟩, hob]; exact ⟨rfl, rfl⟩) dc_Mo_format_67 (Nat.le_of_ble_eq_true rfl) (Nat.le_of_ble_eq_true rfl)
    · skip
      refine lv_iload_n K.1 K.2.1 dc_Mo_format_13 rfl (lv_at hl 1 rfl) ?_
      refine lv_bipush (v := 16) K.1 K.2.1 dc_Mo_format_14 (by decide) ?_
      refine lv_icmp_eq (tgt := 33) K.1 K.2.1 dc_Mo_format_16 rfl (fun b16 => ?_) (fun b16 => ?_)
      · skip
        have hx : ¬ fo_w x = 0 := by rw [b16]; decide
        refine lv_iload_n K.1 K.2.1 dc_Mo_format_33 rfl (lv_at hl 3 rfl) ?_
        refine lv_if_eq (tgt := 53) K.1 K.2.1 dc_Mo_format_34 rfl (fun b34 => ?_) (fun b34 => ?_)
        · skip
          have hob := fq_b0 b34
          refine lv_aload_n K.1 K.2.1 dc_Mo_format_53 rfl (lv_at hl 0 rfl) ?_
          refine lv_iload_n K.1 K.2.1 dc_Mo_format_54 rfl (lv_at hl 1 rfl) ?_
          refine lv_bipush (v := 8) K.1 K.2.1 dc_Mo_format_55 (by decide) ?_
          refine lv_idiv K.1 K.2.1 dc_Mo_format_57 (by decide) ?_
          refine fq_asi (y := nI (fo_w x)) (fo_d hx) ?_
          refine fq_put K hK cl_Mo hP hD hS 0 5 rfl (by decide) wd_775 rfl rfl rfl (Nat.le_of_ble_eq_true rfl) dc_Mo_format_58 (fun H locs hP hD hS => ?_)
          have hP : va_P D fq_cl ([(h, .inr (12, [.int (nI rm), .int (fq_b sd), .int (nI ns), .ref aK, .ref aN, .int (nI (fo_w x)), .int (nI ow), .int (fq_b ih), .int (fq_b oh), .ref aB, .int (nI ca), .int (nI us), .int (fq_b cl), .int (fq_b fl), .ref aS, .int (nI tk), .ref aL, .ref aX, .int (nI md), .int (nI gi), .int (nI su), .int (nI ps), .int (nI cs)])), (aK, .inl (cI, 5, .inl fK)), (aN, .inl (cI, 25, .inl fN)), (aB, .inl (cI, 120, .inl fB)), (aS, .inl (cI, 120, .inl fS)), (aL, .inl (cI, 2300, .inl fL)), (aX, .inl (cI, 2300, .inl fX))]) _ := hP
          have hD : va_D A ([(h, .inr (12, [.int (nI rm), .int (fq_b sd), .int (nI ns), .ref aK, .ref aN, .int (nI (fo_w x)), .int (nI ow), .int (fq_b ih), .int (fq_b oh), .ref aB, .int (nI ca), .int (nI us), .int (fq_b cl), .int (fq_b fl), .ref aS, .int (nI tk), .ref aL, .ref aX, .int (nI md), .int (nI gi), .int (nI su), .int (nI ps), .int (nI cs)])), (aK, .inl (cI, 5, .inl fK)), (aN, .inl (cI, 25, .inl fN)), (aB, .inl (cI, 120, .inl fB)), (aS, .inl (cI, 120, .inl fS)), (aL, .inl (cI, 2300, .inl fL)), (aX, .inl (cI, 2300, .inl fX))]) := hD
          refine lv_aload_n K.1 K.2.1 dc_Mo_format_61 rfl (lv_at hl 0 rfl) ?_
          refine lv_iload_n K.1 K.2.1 dc_Mo_format_62 rfl (lv_at hl 2 rfl) ?_
          refine fq_put K hK cl_Mo hP hD hS 0 7 rfl (by decide) wd_777 rfl (fq_bn hb) (fq_bf hb) (Nat.le_of_ble_eq_true rfl) dc_Mo_format_63 (fun H locs hP hD hS => ?_)
          have hP : va_P D fq_cl ([(h, .inr (12, [.int (nI rm), .int (fq_b sd), .int (nI ns), .ref aK, .ref aN, .int (nI (fo_w x)), .int (nI ow), .int (fq_b hb), .int (fq_b oh), .ref aB, .int (nI ca), .int (nI us), .int (fq_b cl), .int (fq_b fl), .ref aS, .int (nI tk), .ref aL, .ref aX, .int (nI md), .int (nI gi), .int (nI su), .int (nI ps), .int (nI cs)])), (aK, .inl (cI, 5, .inl fK)), (aN, .inl (cI, 25, .inl fN)), (aB, .inl (cI, 120, .inl fB)), (aS, .inl (cI, 120, .inl fS)), (aL, .inl (cI, 2300, .inl fL)), (aX, .inl (cI, 2300, .inl fX))]) _ := hP
          have hD : va_D A ([(h, .inr (12, [.int (nI rm), .int (fq_b sd), .int (nI ns), .ref aK, .ref aN, .int (nI (fo_w x)), .int (nI ow), .int (fq_b hb), .int (fq_b oh), .ref aB, .int (nI ca), .int (nI us), .int (fq_b cl), .int (fq_b fl), .ref aS, .int (nI tk), .ref aL, .ref aX, .int (nI md), .int (nI gi), .int (nI su), .int (nI ps), .int (nI cs)])), (aK, .inl (cI, 5, .inl fK)), (aN, .inl (cI, 25, .inl fN)), (aB, .inl (cI, 120, .inl fB)), (aS, .inl (cI, 120, .inl fS)), (aL, .inl (cI, 2300, .inl fL)), (aX, .inl (cI, 2300, .inl fX))]) := hD
          refine lv_iconst (v := 1) K.1 K.2.1 dc_Mo_format_66 (by decide) ?_
          exact fq_retz K hret hlk hS hP hD (by first | exact Or.inl rfl | exact Or.inr rfl) (by rw [if_pos ⟨hs, hx⟩, hob]; exact ⟨rfl, rfl⟩) dc_Mo_format_67 (Nat.le_of_ble_eq_true rfl) (Nat.le_of_ble_eq_true rfl)
        · skip
          have hob := fq_b1 b34
          refine lv_aload_n K.1 K.2.1 dc_Mo_format_37 rfl (lv_at hl 0 rfl) ?_
          refine lv_iload_n K.1 K.2.1 dc_Mo_format_38 rfl (lv_at hl 1 rfl) ?_
          refine lv_bipush (v := 8) K.1 K.2.1 dc_Mo_format_39 (by decide) ?_
          refine lv_idiv K.1 K.2.1 dc_Mo_format_41 (by decide) ?_
          refine fq_asi (y := nI (fo_w x)) (fo_d hx) ?_
          refine fq_put K hK cl_Mo hP hD hS 0 6 rfl (by decide) wd_776 rfl rfl rfl (Nat.le_of_ble_eq_true rfl) dc_Mo_format_42 (fun H locs hP hD hS => ?_)
          have hP : va_P D fq_cl ([(h, .inr (12, [.int (nI rm), .int (fq_b sd), .int (nI ns), .ref aK, .ref aN, .int (nI iw), .int (nI (fo_w x)), .int (fq_b ih), .int (fq_b oh), .ref aB, .int (nI ca), .int (nI us), .int (fq_b cl), .int (fq_b fl), .ref aS, .int (nI tk), .ref aL, .ref aX, .int (nI md), .int (nI gi), .int (nI su), .int (nI ps), .int (nI cs)])), (aK, .inl (cI, 5, .inl fK)), (aN, .inl (cI, 25, .inl fN)), (aB, .inl (cI, 120, .inl fB)), (aS, .inl (cI, 120, .inl fS)), (aL, .inl (cI, 2300, .inl fL)), (aX, .inl (cI, 2300, .inl fX))]) _ := hP
          have hD : va_D A ([(h, .inr (12, [.int (nI rm), .int (fq_b sd), .int (nI ns), .ref aK, .ref aN, .int (nI iw), .int (nI (fo_w x)), .int (fq_b ih), .int (fq_b oh), .ref aB, .int (nI ca), .int (nI us), .int (fq_b cl), .int (fq_b fl), .ref aS, .int (nI tk), .ref aL, .ref aX, .int (nI md), .int (nI gi), .int (nI su), .int (nI ps), .int (nI cs)])), (aK, .inl (cI, 5, .inl fK)), (aN, .inl (cI, 25, .inl fN)), (aB, .inl (cI, 120, .inl fB)), (aS, .inl (cI, 120, .inl fS)), (aL, .inl (cI, 2300, .inl fL)), (aX, .inl (cI, 2300, .inl fX))]) := hD
          refine lv_aload_n K.1 K.2.1 dc_Mo_format_45 rfl (lv_at hl 0 rfl) ?_
          refine lv_iload_n K.1 K.2.1 dc_Mo_format_46 rfl (lv_at hl 2 rfl) ?_
          refine fq_put K hK cl_Mo hP hD hS 0 8 rfl (by decide) wd_778 rfl (fq_bn hb) (fq_bf hb) (Nat.le_of_ble_eq_true rfl) dc_Mo_format_47 (fun H locs hP hD hS => ?_)
          have hP : va_P D fq_cl ([(h, .inr (12, [.int (nI rm), .int (fq_b sd), .int (nI ns), .ref aK, .ref aN, .int (nI iw), .int (nI (fo_w x)), .int (fq_b ih), .int (fq_b hb), .ref aB, .int (nI ca), .int (nI us), .int (fq_b cl), .int (fq_b fl), .ref aS, .int (nI tk), .ref aL, .ref aX, .int (nI md), .int (nI gi), .int (nI su), .int (nI ps), .int (nI cs)])), (aK, .inl (cI, 5, .inl fK)), (aN, .inl (cI, 25, .inl fN)), (aB, .inl (cI, 120, .inl fB)), (aS, .inl (cI, 120, .inl fS)), (aL, .inl (cI, 2300, .inl fL)), (aX, .inl (cI, 2300, .inl fX))]) _ := hP
          have hD : va_D A ([(h, .inr (12, [.int (nI rm), .int (fq_b sd), .int (nI ns), .ref aK, .ref aN, .int (nI iw), .int (nI (fo_w x)), .int (fq_b ih), .int (fq_b hb), .ref aB, .int (nI ca), .int (nI us), .int (fq_b cl), .int (fq_b fl), .ref aS, .int (nI tk), .ref aL, .ref aX, .int (nI md), .int (nI gi), .int (nI su), .int (nI ps), .int (nI cs)])), (aK, .inl (cI, 5, .inl fK)), (aN, .inl (cI, 25, .inl fN)), (aB, .inl (cI, 120, .inl fB)), (aS, .inl (cI, 120, .inl fS)), (aL, .inl (cI, 2300, .inl fL)), (aX, .inl (cI, 2300, .inl fX))]) := hD
          refine lv_goto (tgt := 66) K.1 K.2.1 dc_Mo_format_50 rfl ?_
          refine lv_iconst (v := 1) K.1 K.2.1 dc_Mo_format_66 (by decide) ?_
          exact fq_retz K hret hlk hS hP hD (by first | exact Or.inl rfl | exact Or.inr rfl) (by rw [if_pos ⟨hs, hx⟩, hob]; exact ⟨rfl, rfl⟩) dc_Mo_format_67 (Nat.le_of_ble_eq_true rfl) (Nat.le_of_ble_eq_true rfl)
      · skip
        refine lv_iload_n K.1 K.2.1 dc_Mo_format_19 rfl (lv_at hl 1 rfl) ?_
        refine lv_bipush (v := 24) K.1 K.2.1 dc_Mo_format_20 (by decide) ?_
        refine lv_icmp_eq (tgt := 33) K.1 K.2.1 dc_Mo_format_22 rfl (fun b22 => ?_) (fun b22 => ?_)
        · skip
          have hx : ¬ fo_w x = 0 := by rw [b22]; decide
          refine lv_iload_n K.1 K.2.1 dc_Mo_format_33 rfl (lv_at hl 3 rfl) ?_
          refine lv_if_eq (tgt := 53) K.1 K.2.1 dc_Mo_format_34 rfl (fun b34 => ?_) (fun b34 => ?_)
          · skip
            have hob := fq_b0 b34
            refine lv_aload_n K.1 K.2.1 dc_Mo_format_53 rfl (lv_at hl 0 rfl) ?_
            refine lv_iload_n K.1 K.2.1 dc_Mo_format_54 rfl (lv_at hl 1 rfl) ?_
            refine lv_bipush (v := 8) K.1 K.2.1 dc_Mo_format_55 (by decide) ?_
            refine lv_idiv K.1 K.2.1 dc_Mo_format_57 (by decide) ?_
            refine fq_asi (y := nI (fo_w x)) (fo_d hx) ?_
            refine fq_put K hK cl_Mo hP hD hS 0 5 rfl (by decide) wd_775 rfl rfl rfl (Nat.le_of_ble_eq_true rfl) dc_Mo_format_58 (fun H locs hP hD hS => ?_)
            have hP : va_P D fq_cl ([(h, .inr (12, [.int (nI rm), .int (fq_b sd), .int (nI ns), .ref aK, .ref aN, .int (nI (fo_w x)), .int (nI ow), .int (fq_b ih), .int (fq_b oh), .ref aB, .int (nI ca), .int (nI us), .int (fq_b cl), .int (fq_b fl), .ref aS, .int (nI tk), .ref aL, .ref aX, .int (nI md), .int (nI gi), .int (nI su), .int (nI ps), .int (nI cs)])), (aK, .inl (cI, 5, .inl fK)), (aN, .inl (cI, 25, .inl fN)), (aB, .inl (cI, 120, .inl fB)), (aS, .inl (cI, 120, .inl fS)), (aL, .inl (cI, 2300, .inl fL)), (aX, .inl (cI, 2300, .inl fX))]) _ := hP
            have hD : va_D A ([(h, .inr (12, [.int (nI rm), .int (fq_b sd), .int (nI ns), .ref aK, .ref aN, .int (nI (fo_w x)), .int (nI ow), .int (fq_b ih), .int (fq_b oh), .ref aB, .int (nI ca), .int (nI us), .int (fq_b cl), .int (fq_b fl), .ref aS, .int (nI tk), .ref aL, .ref aX, .int (nI md), .int (nI gi), .int (nI su), .int (nI ps), .int (nI cs)])), (aK, .inl (cI, 5, .inl fK)), (aN, .inl (cI, 25, .inl fN)), (aB, .inl (cI, 120, .inl fB)), (aS, .inl (cI, 120, .inl fS)), (aL, .inl (cI, 2300, .inl fL)), (aX, .inl (cI, 2300, .inl fX))]) := hD
            refine lv_aload_n K.1 K.2.1 dc_Mo_format_61 rfl (lv_at hl 0 rfl) ?_
            refine lv_iload_n K.1 K.2.1 dc_Mo_format_62 rfl (lv_at hl 2 rfl) ?_
            refine fq_put K hK cl_Mo hP hD hS 0 7 rfl (by decide) wd_777 rfl (fq_bn hb) (fq_bf hb) (Nat.le_of_ble_eq_true rfl) dc_Mo_format_63 (fun H locs hP hD hS => ?_)
            have hP : va_P D fq_cl ([(h, .inr (12, [.int (nI rm), .int (fq_b sd), .int (nI ns), .ref aK, .ref aN, .int (nI (fo_w x)), .int (nI ow), .int (fq_b hb), .int (fq_b oh), .ref aB, .int (nI ca), .int (nI us), .int (fq_b cl), .int (fq_b fl), .ref aS, .int (nI tk), .ref aL, .ref aX, .int (nI md), .int (nI gi), .int (nI su), .int (nI ps), .int (nI cs)])), (aK, .inl (cI, 5, .inl fK)), (aN, .inl (cI, 25, .inl fN)), (aB, .inl (cI, 120, .inl fB)), (aS, .inl (cI, 120, .inl fS)), (aL, .inl (cI, 2300, .inl fL)), (aX, .inl (cI, 2300, .inl fX))]) _ := hP
            have hD : va_D A ([(h, .inr (12, [.int (nI rm), .int (fq_b sd), .int (nI ns), .ref aK, .ref aN, .int (nI (fo_w x)), .int (nI ow), .int (fq_b hb), .int (fq_b oh), .ref aB, .int (nI ca), .int (nI us), .int (fq_b cl), .int (fq_b fl), .ref aS, .int (nI tk), .ref aL, .ref aX, .int (nI md), .int (nI gi), .int (nI su), .int (nI ps), .int (nI cs)])), (aK, .inl (cI, 5, .inl fK)), (aN, .inl (cI, 25, .inl fN)), (aB, .inl (cI, 120, .inl fB)), (aS, .inl (cI, 120, .inl fS)), (aL, .inl (cI, 2300, .inl fL)), (aX, .inl (cI, 2300, .inl fX))]) := hD
            refine lv_iconst (v := 1) K.1 K.2.1 dc_Mo_format_66 (by decide) ?_
            exact fq_retz K hret hlk hS hP hD (by first | exact Or.inl rfl | exact Or.inr rfl) (by rw [if_pos ⟨hs, hx⟩, hob]; exact ⟨rfl, rfl⟩) dc_Mo_format_67 (Nat.le_of_ble_eq_true rfl) (Nat.le_of_ble_eq_true rfl)
          · skip
            have hob := fq_b1 b34
            refine lv_aload_n K.1 K.2.1 dc_Mo_format_37 rfl (lv_at hl 0 rfl) ?_
            refine lv_iload_n K.1 K.2.1 dc_Mo_format_38 rfl (lv_at hl 1 rfl) ?_
            refine lv_bipush (v := 8) K.1 K.2.1 dc_Mo_format_39 (by decide) ?_
            refine lv_idiv K.1 K.2.1 dc_Mo_format_41 (by decide) ?_
            refine fq_asi (y := nI (fo_w x)) (fo_d hx) ?_
            refine fq_put K hK cl_Mo hP hD hS 0 6 rfl (by decide) wd_776 rfl rfl rfl (Nat.le_of_ble_eq_true rfl) dc_Mo_format_42 (fun H locs hP hD hS => ?_)
            have hP : va_P D fq_cl ([(h, .inr (12, [.int (nI rm), .int (fq_b sd), .int (nI ns), .ref aK, .ref aN, .int (nI iw), .int (nI (fo_w x)), .int (fq_b ih), .int (fq_b oh), .ref aB, .int (nI ca), .int (nI us), .int (fq_b cl), .int (fq_b fl), .ref aS, .int (nI tk), .ref aL, .ref aX, .int (nI md), .int (nI gi), .int (nI su), .int (nI ps), .int (nI cs)])), (aK, .inl (cI, 5, .inl fK)), (aN, .inl (cI, 25, .inl fN)), (aB, .inl (cI, 120, .inl fB)), (aS, .inl (cI, 120, .inl fS)), (aL, .inl (cI, 2300, .inl fL)), (aX, .inl (cI, 2300, .inl fX))]) _ := hP
            have hD : va_D A ([(h, .inr (12, [.int (nI rm), .int (fq_b sd), .int (nI ns), .ref aK, .ref aN, .int (nI iw), .int (nI (fo_w x)), .int (fq_b ih), .int (fq_b oh), .ref aB, .int (nI ca), .int (nI us), .int (fq_b cl), .int (fq_b fl), .ref aS, .int (nI tk), .ref aL, .ref aX, .int (nI md), .int (nI gi), .int (nI su), .int (nI ps), .int (nI cs)])), (aK, .inl (cI, 5, .inl fK)), (aN, .inl (cI, 25, .inl fN)), (aB, .inl (cI, 120, .inl fB)), (aS, .inl (cI, 120, .inl fS)), (aL, .inl (cI, 2300, .inl fL)), (aX, .inl (cI, 2300, .inl fX))]) := hD
            refine lv_aload_n K.1 K.2.1 dc_Mo_format_45 rfl (lv_at hl 0 rfl) ?_
            refine lv_iload_n K.1 K.2.1 dc_Mo_format_46 rfl (lv_at hl 2 rfl) ?_
            refine fq_put K hK cl_Mo hP hD hS 0 8 rfl (by decide) wd_778 rfl (fq_bn hb) (fq_bf hb) (Nat.le_of_ble_eq_true rfl) dc_Mo_format_47 (fun H locs hP hD hS => ?_)
            have hP : va_P D fq_cl ([(h, .inr (12, [.int (nI rm), .int (fq_b sd), .int (nI ns), .ref aK, .ref aN, .int (nI iw), .int (nI (fo_w x)), .int (fq_b ih), .int (fq_b hb), .ref aB, .int (nI ca), .int (nI us), .int (fq_b cl), .int (fq_b fl), .ref aS, .int (nI tk), .ref aL, .ref aX, .int (nI md), .int (nI gi), .int (nI su), .int (nI ps), .int (nI cs)])), (aK, .inl (cI, 5, .inl fK)), (aN, .inl (cI, 25, .inl fN)), (aB, .inl (cI, 120, .inl fB)), (aS, .inl (cI, 120, .inl fS)), (aL, .inl (cI, 2300, .inl fL)), (aX, .inl (cI, 2300, .inl fX))]) _ := hP
            have hD : va_D A ([(h, .inr (12, [.int (nI rm), .int (fq_b sd), .int (nI ns), .ref aK, .ref aN, .int (nI iw), .int (nI (fo_w x)), .int (fq_b ih), .int (fq_b hb), .ref aB, .int (nI ca), .int (nI us), .int (fq_b cl), .int (fq_b fl), .ref aS, .int (nI tk), .ref aL, .ref aX, .int (nI md), .int (nI gi), .int (nI su), .int (nI ps), .int (nI cs)])), (aK, .inl (cI, 5, .inl fK)), (aN, .inl (cI, 25, .inl fN)), (aB, .inl (cI, 120, .inl fB)), (aS, .inl (cI, 120, .inl fS)), (aL, .inl (cI, 2300, .inl fL)), (aX, .inl (cI, 2300, .inl fX))]) := hD
            refine lv_goto (tgt := 66) K.1 K.2.1 dc_Mo_format_50 rfl ?_
            refine lv_iconst (v := 1) K.1 K.2.1 dc_Mo_format_66 (by decide) ?_
            exact fq_retz K hret hlk hS hP hD (by first | exact Or.inl rfl | exact Or.inr rfl) (by rw [if_pos ⟨hs, hx⟩, hob]; exact ⟨rfl, rfl⟩) dc_Mo_format_67 (Nat.le_of_ble_eq_true rfl) (Nat.le_of_ble_eq_true rfl)
        · skip
          refine lv_iload_n K.1 K.2.1 dc_Mo_format_25 rfl (lv_at hl 1 rfl) ?_
          refine lv_bipush (v := 32) K.1 K.2.1 dc_Mo_format_26 (by decide) ?_
          refine lv_icmp_eq (tgt := 33) K.1 K.2.1 dc_Mo_format_28 rfl (fun b28 => ?_) (fun b28 => ?_)
          · skip
            have hx : ¬ fo_w x = 0 := by rw [b28]; decide
            refine lv_iload_n K.1 K.2.1 dc_Mo_format_33 rfl (lv_at hl 3 rfl) ?_
            refine lv_if_eq (tgt := 53) K.1 K.2.1 dc_Mo_format_34 rfl (fun b34 => ?_) (fun b34 => ?_)
            · skip
              have hob := fq_b0 b34
              refine lv_aload_n K.1 K.2.1 dc_Mo_format_53 rfl (lv_at hl 0 rfl) ?_
              refine lv_iload_n K.1 K.2.1 dc_Mo_format_54 rfl (lv_at hl 1 rfl) ?_
              refine lv_bipush (v := 8) K.1 K.2.1 dc_Mo_format_55 (by decide) ?_
              refine lv_idiv K.1 K.2.1 dc_Mo_format_57 (by decide) ?_
              refine fq_asi (y := nI (fo_w x)) (fo_d hx) ?_
              refine fq_put K hK cl_Mo hP hD hS 0 5 rfl (by decide) wd_775 rfl rfl rfl (Nat.le_of_ble_eq_true rfl) dc_Mo_format_58 (fun H locs hP hD hS => ?_)
              have hP : va_P D fq_cl ([(h, .inr (12, [.int (nI rm), .int (fq_b sd), .int (nI ns), .ref aK, .ref aN, .int (nI (fo_w x)), .int (nI ow), .int (fq_b ih), .int (fq_b oh), .ref aB, .int (nI ca), .int (nI us), .int (fq_b cl), .int (fq_b fl), .ref aS, .int (nI tk), .ref aL, .ref aX, .int (nI md), .int (nI gi), .int (nI su), .int (nI ps), .int (nI cs)])), (aK, .inl (cI, 5, .inl fK)), (aN, .inl (cI, 25, .inl fN)), (aB, .inl (cI, 120, .inl fB)), (aS, .inl (cI, 120, .inl fS)), (aL, .inl (cI, 2300, .inl fL)), (aX, .inl (cI, 2300, .inl fX))]) _ := hP
              have hD : va_D A ([(h, .inr (12, [.int (nI rm), .int (fq_b sd), .int (nI ns), .ref aK, .ref aN, .int (nI (fo_w x)), .int (nI ow), .int (fq_b ih), .int (fq_b oh), .ref aB, .int (nI ca), .int (nI us), .int (fq_b cl), .int (fq_b fl), .ref aS, .int (nI tk), .ref aL, .ref aX, .int (nI md), .int (nI gi), .int (nI su), .int (nI ps), .int (nI cs)])), (aK, .inl (cI, 5, .inl fK)), (aN, .inl (cI, 25, .inl fN)), (aB, .inl (cI, 120, .inl fB)), (aS, .inl (cI, 120, .inl fS)), (aL, .inl (cI, 2300, .inl fL)), (aX, .inl (cI, 2300, .inl fX))]) := hD
              refine lv_aload_n K.1 K.2.1 dc_Mo_format_61 rfl (lv_at hl 0 rfl) ?_
              refine lv_iload_n K.1 K.2.1 dc_Mo_format_62 rfl (lv_at hl 2 rfl) ?_
              refine fq_put K hK cl_Mo hP hD hS 0 7 rfl (by decide) wd_777 rfl (fq_bn hb) (fq_bf hb) (Nat.le_of_ble_eq_true rfl) dc_Mo_format_63 (fun H locs hP hD hS => ?_)
              have hP : va_P D fq_cl ([(h, .inr (12, [.int (nI rm), .int (fq_b sd), .int (nI ns), .ref aK, .ref aN, .int (nI (fo_w x)), .int (nI ow), .int (fq_b hb), .int (fq_b oh), .ref aB, .int (nI ca), .int (nI us), .int (fq_b cl), .int (fq_b fl), .ref aS, .int (nI tk), .ref aL, .ref aX, .int (nI md), .int (nI gi), .int (nI su), .int (nI ps), .int (nI cs)])), (aK, .inl (cI, 5, .inl fK)), (aN, .inl (cI, 25, .inl fN)), (aB, .inl (cI, 120, .inl fB)), (aS, .inl (cI, 120, .inl fS)), (aL, .inl (cI, 2300, .inl fL)), (aX, .inl (cI, 2300, .inl fX))]) _ := hP
              have hD : va_D A ([(h, .inr (12, [.int (nI rm), .int (fq_b sd), .int (nI ns), .ref aK, .ref aN, .int (nI (fo_w x)), .int (nI ow), .int (fq_b hb), .int (fq_b oh), .ref aB, .int (nI ca), .int (nI us), .int (fq_b cl), .int (fq_b fl), .ref aS, .int (nI tk), .ref aL, .ref aX, .int (nI md), .int (nI gi), .int (nI su), .int (nI ps), .int (nI cs)])), (aK, .inl (cI, 5, .inl fK)), (aN, .inl (cI, 25, .inl fN)), (aB, .inl (cI, 120, .inl fB)), (aS, .inl (cI, 120, .inl fS)), (aL, .inl (cI, 2300, .inl fL)), (aX, .inl (cI, 2300, .inl fX))]) := hD
              refine lv_iconst (v := 1) K.1 K.2.1 dc_Mo_format_66 (by decide) ?_
              exact fq_retz K hret hlk hS hP hD (by first | exact Or.inl rfl | exact Or.inr rfl) (by rw [if_pos ⟨hs, hx⟩, hob]; exact ⟨rfl, rfl⟩) dc_Mo_format_67 (Nat.le_of_ble_eq_true rfl) (Nat.le_of_ble_eq_true rfl)
            · skip
              have hob := fq_b1 b34
              refine lv_aload_n K.1 K.2.1 dc_Mo_format_37 rfl (lv_at hl 0 rfl) ?_
              refine lv_iload_n K.1 K.2.1 dc_Mo_format_38 rfl (lv_at hl 1 rfl) ?_
              refine lv_bipush (v := 8) K.1 K.2.1 dc_Mo_format_39 (by decide) ?_
              refine lv_idiv K.1 K.2.1 dc_Mo_format_41 (by decide) ?_
              refine fq_asi (y := nI (fo_w x)) (fo_d hx) ?_
              refine fq_put K hK cl_Mo hP hD hS 0 6 rfl (by decide) wd_776 rfl rfl rfl (Nat.le_of_ble_eq_true rfl) dc_Mo_format_42 (fun H locs hP hD hS => ?_)
              have hP : va_P D fq_cl ([(h, .inr (12, [.int (nI rm), .int (fq_b sd), .int (nI ns), .ref aK, .ref aN, .int (nI iw), .int (nI (fo_w x)), .int (fq_b ih), .int (fq_b oh), .ref aB, .int (nI ca), .int (nI us), .int (fq_b cl), .int (fq_b fl), .ref aS, .int (nI tk), .ref aL, .ref aX, .int (nI md), .int (nI gi), .int (nI su), .int (nI ps), .int (nI cs)])), (aK, .inl (cI, 5, .inl fK)), (aN, .inl (cI, 25, .inl fN)), (aB, .inl (cI, 120, .inl fB)), (aS, .inl (cI, 120, .inl fS)), (aL, .inl (cI, 2300, .inl fL)), (aX, .inl (cI, 2300, .inl fX))]) _ := hP
              have hD : va_D A ([(h, .inr (12, [.int (nI rm), .int (fq_b sd), .int (nI ns), .ref aK, .ref aN, .int (nI iw), .int (nI (fo_w x)), .int (fq_b ih), .int (fq_b oh), .ref aB, .int (nI ca), .int (nI us), .int (fq_b cl), .int (fq_b fl), .ref aS, .int (nI tk), .ref aL, .ref aX, .int (nI md), .int (nI gi), .int (nI su), .int (nI ps), .int (nI cs)])), (aK, .inl (cI, 5, .inl fK)), (aN, .inl (cI, 25, .inl fN)), (aB, .inl (cI, 120, .inl fB)), (aS, .inl (cI, 120, .inl fS)), (aL, .inl (cI, 2300, .inl fL)), (aX, .inl (cI, 2300, .inl fX))]) := hD
              refine lv_aload_n K.1 K.2.1 dc_Mo_format_45 rfl (lv_at hl 0 rfl) ?_
              refine lv_iload_n K.1 K.2.1 dc_Mo_format_46 rfl (lv_at hl 2 rfl) ?_
              refine fq_put K hK cl_Mo hP hD hS 0 8 rfl (by decide) wd_778 rfl (fq_bn hb) (fq_bf hb) (Nat.le_of_ble_eq_true rfl) dc_Mo_format_47 (fun H locs hP hD hS => ?_)
              have hP : va_P D fq_cl ([(h, .inr (12, [.int (nI rm), .int (fq_b sd), .int (nI ns), .ref aK, .ref aN, .int (nI iw), .int (nI (fo_w x)), .int (fq_b ih), .int (fq_b hb), .ref aB, .int (nI ca), .int (nI us), .int (fq_b cl), .int (fq_b fl), .ref aS, .int (nI tk), .ref aL, .ref aX, .int (nI md), .int (nI gi), .int (nI su), .int (nI ps), .int (nI cs)])), (aK, .inl (cI, 5, .inl fK)), (aN, .inl (cI, 25, .inl fN)), (aB, .inl (cI, 120, .inl fB)), (aS, .inl (cI, 120, .inl fS)), (aL, .inl (cI, 2300, .inl fL)), (aX, .inl (cI, 2300, .inl fX))]) _ := hP
              have hD : va_D A ([(h, .inr (12, [.int (nI rm), .int (fq_b sd), .int (nI ns), .ref aK, .ref aN, .int (nI iw), .int (nI (fo_w x)), .int (fq_b ih), .int (fq_b hb), .ref aB, .int (nI ca), .int (nI us), .int (fq_b cl), .int (fq_b fl), .ref aS, .int (nI tk), .ref aL, .ref aX, .int (nI md), .int (nI gi), .int (nI su), .int (nI ps), .int (nI cs)])), (aK, .inl (cI, 5, .inl fK)), (aN, .inl (cI, 25, .inl fN)), (aB, .inl (cI, 120, .inl fB)), (aS, .inl (cI, 120, .inl fS)), (aL, .inl (cI, 2300, .inl fL)), (aX, .inl (cI, 2300, .inl fX))]) := hD
              refine lv_goto (tgt := 66) K.1 K.2.1 dc_Mo_format_50 rfl ?_
              refine lv_iconst (v := 1) K.1 K.2.1 dc_Mo_format_66 (by decide) ?_
              exact fq_retz K hret hlk hS hP hD (by first | exact Or.inl rfl | exact Or.inr rfl) (by rw [if_pos ⟨hs, hx⟩, hob]; exact ⟨rfl, rfl⟩) dc_Mo_format_67 (Nat.le_of_ble_eq_true rfl) (Nat.le_of_ble_eq_true rfl)
          · skip
            have hx : fo_w x = 0 := by unfold fo_w; rw [if_neg b10, if_neg b16, if_neg b22, if_neg b28]
            refine lv_iconst (v := 0) K.1 K.2.1 dc_Mo_format_31 (by decide) ?_
            exact fq_retz K hret hlk hS hP hD (by first | exact Or.inl rfl | exact Or.inr rfl) (by first | (rw [if_neg (fun z => hs z.1)]; exact ⟨rfl, rfl⟩) | (rw [if_neg (fun z => z.2 hx)]; exact ⟨rfl, rfl⟩)) dc_Mo_format_32 (Nat.le_of_ble_eq_true rfl) (Nat.le_of_ble_eq_true rfl)
