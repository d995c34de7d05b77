theorem wd_780 : Cond.fieldLink cn_Mo 144 cn_Mo "came" "I" ∈ fq_TB := fq_in 780 (by decide +kernel) rfl
theorem wd_781 : Cond.fieldLink cn_Mo 147 cn_Mo "used" "I" ∈ fq_TB := fq_in 781 (by decide +kernel) rfl
theorem wd_783 : Cond.fieldLink cn_Mo 114 cn_Mo "flushed" "Z" ∈ fq_TB := fq_in 783 (by decide +kernel) rfl
theorem wd_785 : Cond.fieldLink cn_Mo 128 cn_Mo "taken" "I" ∈ fq_TB := fq_in 785 (by decide +kernel) rfl
theorem wd_790 : Cond.fieldLink cn_Mo 156 cn_Mo "sunk" "I" ∈ fq_TB := fq_in 790 (by decide +kernel) rfl
theorem wd_903 : Cond.instanceMethod my_Mo_start ∈ fq_TB := fq_in 903 (by decide +kernel) rfl
theorem wd_904 : Cond.selects cn_Mo my_Mo_start my_Mo_start ∈ fq_TB := fq_in 904 (by decide +kernel) rfl
theorem wd_905 : Cond.code my_Mo_start cb_Mo_start 1 (some .boolean) ∈ fq_TB := fq_in 905 (by decide +kernel) rfl
theorem wd_906 : Cond.methodLink cn_Mo 141 my_Mo_restart ∈ fq_TB := fq_in 906 (by decide +kernel) rfl
theorem wd_907 : Cond.instanceMethod my_Mo_restart ∈ fq_TB := fq_in 907 (by decide +kernel) rfl
theorem wd_908 : Cond.selects cn_Mo my_Mo_restart my_Mo_restart ∈ fq_TB := fq_in 908 (by decide +kernel) rfl
theorem wd_909 : Cond.code my_Mo_restart cb_Mo_restart 1 (some .boolean) ∈ fq_TB := fq_in 909 (by decide +kernel) rfl
theorem wd_985 : Cond.instanceMethod my_Mo_waiting ∈ fq_TB := fq_in 985 (by decide +kernel) rfl
theorem wd_986 : Cond.selects cn_Mo my_Mo_waiting my_Mo_waiting ∈ fq_TB := fq_in 986 (by decide +kernel) rfl
theorem wd_987 : Cond.code my_Mo_waiting cb_Mo_waiting 2 (some .int) ∈ fq_TB := fq_in 987 (by decide +kernel) rfl


theorem dc_Mo_restart_0 : decode cb_Mo_restart 0 = .ok (.aload_n 0, 1) := by decide +kernel
theorem dc_Mo_restart_1 : decode cb_Mo_restart 1 = .ok (.getfield 50, 3) := by decide +kernel
theorem dc_Mo_restart_4 : decode cb_Mo_restart 4 = .ok (.ifCond .ne 5, 3) := by decide +kernel
theorem dc_Mo_restart_7 : decode cb_Mo_restart 7 = .ok (.iconst 0, 1) := by decide +kernel
theorem dc_Mo_restart_8 : decode cb_Mo_restart 8 = .ok (.ireturn, 1) := by decide +kernel
theorem dc_Mo_restart_9 : decode cb_Mo_restart 9 = .ok (.aload_n 0, 1) := by decide +kernel
theorem dc_Mo_restart_10 : decode cb_Mo_restart 10 = .ok (.iconst 0, 1) := by decide +kernel
theorem dc_Mo_restart_11 : decode cb_Mo_restart 11 = .ok (.putfield 144, 3) := by decide +kernel
theorem dc_Mo_restart_14 : decode cb_Mo_restart 14 = .ok (.aload_n 0, 1) := by decide +kernel
theorem dc_Mo_restart_15 : decode cb_Mo_restart 15 = .ok (.iconst 0, 1) := by decide +kernel
theorem dc_Mo_restart_16 : decode cb_Mo_restart 16 = .ok (.putfield 147, 3) := by decide +kernel
theorem dc_Mo_restart_19 : decode cb_Mo_restart 19 = .ok (.aload_n 0, 1) := by decide +kernel
theorem dc_Mo_restart_20 : decode cb_Mo_restart 20 = .ok (.iconst 0, 1) := by decide +kernel
theorem dc_Mo_restart_21 : decode cb_Mo_restart 21 = .ok (.putfield 150, 3) := by decide +kernel
theorem dc_Mo_restart_24 : decode cb_Mo_restart 24 = .ok (.aload_n 0, 1) := by decide +kernel
theorem dc_Mo_restart_25 : decode cb_Mo_restart 25 = .ok (.iconst 0, 1) := by decide +kernel
theorem dc_Mo_restart_26 : decode cb_Mo_restart 26 = .ok (.putfield 114, 3) := by decide +kernel
theorem dc_Mo_restart_29 : decode cb_Mo_restart 29 = .ok (.aload_n 0, 1) := by decide +kernel
theorem dc_Mo_restart_30 : decode cb_Mo_restart 30 = .ok (.iconst 0, 1) := by decide +kernel
theorem dc_Mo_restart_31 : decode cb_Mo_restart 31 = .ok (.putfield 128, 3) := by decide +kernel
theorem dc_Mo_restart_34 : decode cb_Mo_restart 34 = .ok (.aload_n 0, 1) := by decide +kernel
theorem dc_Mo_restart_35 : decode cb_Mo_restart 35 = .ok (.iconst 0, 1) := by decide +kernel
theorem dc_Mo_restart_36 : decode cb_Mo_restart 36 = .ok (.putfield 138, 3) := by decide +kernel
theorem dc_Mo_restart_39 : decode cb_Mo_restart 39 = .ok (.aload_n 0, 1) := by decide +kernel
theorem dc_Mo_restart_40 : decode cb_Mo_restart 40 = .ok (.iconst 0, 1) := by decide +kernel
theorem dc_Mo_restart_41 : decode cb_Mo_restart 41 = .ok (.putfield 153, 3) := by decide +kernel
theorem dc_Mo_restart_44 : decode cb_Mo_restart 44 = .ok (.aload_n 0, 1) := by decide +kernel
theorem dc_Mo_restart_45 : decode cb_Mo_restart 45 = .ok (.iconst 0, 1) := by decide +kernel
theorem dc_Mo_restart_46 : decode cb_Mo_restart 46 = .ok (.putfield 156, 3) := by decide +kernel
theorem dc_Mo_restart_49 : decode cb_Mo_restart 49 = .ok (.aload_n 0, 1) := by decide +kernel
theorem dc_Mo_restart_50 : decode cb_Mo_restart 50 = .ok (.iconst 1, 1) := by decide +kernel
theorem dc_Mo_restart_51 : decode cb_Mo_restart 51 = .ok (.putfield 159, 3) := by decide +kernel
theorem dc_Mo_restart_54 : decode cb_Mo_restart 54 = .ok (.aload_n 0, 1) := by decide +kernel
theorem dc_Mo_restart_55 : decode cb_Mo_restart 55 = .ok (.iconst 1, 1) := by decide +kernel
theorem dc_Mo_restart_56 : decode cb_Mo_restart 56 = .ok (.putfield 162, 3) := by decide +kernel
theorem dc_Mo_restart_59 : decode cb_Mo_restart 59 = .ok (.iconst 1, 1) := by decide +kernel
theorem dc_Mo_restart_60 : decode cb_Mo_restart 60 = .ok (.ireturn, 1) := by decide +kernel
theorem yk_Mo_restart : fq_Y my_Mo_restart cb_Mo_restart 1 (some .boolean) 0 := ⟨wd_909, wd_36, by decide +kernel⟩
theorem dc_Mo_start_0 : decode cb_Mo_start 0 = .ok (.aload_n 0, 1) := by decide +kernel
theorem dc_Mo_start_1 : decode cb_Mo_start 1 = .ok (.getfield 50, 3) := by decide +kernel
theorem dc_Mo_start_4 : decode cb_Mo_start 4 = .ok (.ifCond .eq 5, 3) := by decide +kernel
theorem dc_Mo_start_7 : decode cb_Mo_start 7 = .ok (.iconst 0, 1) := by decide +kernel
theorem dc_Mo_start_8 : decode cb_Mo_start 8 = .ok (.ireturn, 1) := by decide +kernel
theorem dc_Mo_start_9 : decode cb_Mo_start 9 = .ok (.aload_n 0, 1) := by decide +kernel
theorem dc_Mo_start_10 : decode cb_Mo_start 10 = .ok (.iconst 1, 1) := by decide +kernel
theorem dc_Mo_start_11 : decode cb_Mo_start 11 = .ok (.putfield 50, 3) := by decide +kernel
theorem dc_Mo_start_14 : decode cb_Mo_start 14 = .ok (.aload_n 0, 1) := by decide +kernel
theorem dc_Mo_start_15 : decode cb_Mo_start 15 = .ok (.invokevirtual 141, 3) := by decide +kernel
theorem dc_Mo_start_18 : decode cb_Mo_start 18 = .ok (.ireturn, 1) := by decide +kernel
theorem yk_Mo_start : fq_Y my_Mo_start cb_Mo_start 1 (some .boolean) 0 := ⟨wd_905, wd_36, by decide +kernel⟩
theorem dc_Mo_waiting_0 : decode cb_Mo_waiting 0 = .ok (.iload_n 1, 1) := by decide +kernel
theorem dc_Mo_waiting_1 : decode cb_Mo_waiting 1 = .ok (.ifCond .ne 15, 3) := by decide +kernel
theorem dc_Mo_waiting_4 : decode cb_Mo_waiting 4 = .ok (.aload_n 0, 1) := by decide +kernel
theorem dc_Mo_waiting_5 : decode cb_Mo_waiting 5 = .ok (.getfield 144, 3) := by decide +kernel
theorem dc_Mo_waiting_8 : decode cb_Mo_waiting 8 = .ok (.aload_n 0, 1) := by decide +kernel
theorem dc_Mo_waiting_9 : decode cb_Mo_waiting 9 = .ok (.getfield 147, 3) := by decide +kernel
theorem dc_Mo_waiting_12 : decode cb_Mo_waiting 12 = .ok (.isub, 1) := by decide +kernel
theorem dc_Mo_waiting_13 : decode cb_Mo_waiting 13 = .ok (.goto 50, 3) := by decide +kernel
theorem dc_Mo_waiting_16 : decode cb_Mo_waiting 16 = .ok (.iload_n 1, 1) := by decide +kernel
theorem dc_Mo_waiting_17 : decode cb_Mo_waiting 17 = .ok (.iconst 1, 1) := by decide +kernel
theorem dc_Mo_waiting_18 : decode cb_Mo_waiting 18 = .ok (.if_icmp .ne 15, 3) := by decide +kernel
theorem dc_Mo_waiting_21 : decode cb_Mo_waiting 21 = .ok (.aload_n 0, 1) := by decide +kernel
theorem dc_Mo_waiting_22 : decode cb_Mo_waiting 22 = .ok (.getfield 138, 3) := by decide +kernel
theorem dc_Mo_waiting_25 : decode cb_Mo_waiting 25 = .ok (.aload_n 0, 1) := by decide +kernel
theorem dc_Mo_waiting_26 : decode cb_Mo_waiting 26 = .ok (.getfield 153, 3) := by decide +kernel
theorem dc_Mo_waiting_29 : decode cb_Mo_waiting 29 = .ok (.isub, 1) := by decide +kernel
theorem dc_Mo_waiting_30 : decode cb_Mo_waiting 30 = .ok (.goto 33, 3) := by decide +kernel
theorem dc_Mo_waiting_33 : decode cb_Mo_waiting 33 = .ok (.iload_n 1, 1) := by decide +kernel
theorem dc_Mo_waiting_34 : decode cb_Mo_waiting 34 = .ok (.iconst 2, 1) := by decide +kernel
theorem dc_Mo_waiting_35 : decode cb_Mo_waiting 35 = .ok (.if_icmp .ne 15, 3) := by decide +kernel
theorem dc_Mo_waiting_38 : decode cb_Mo_waiting 38 = .ok (.aload_n 0, 1) := by decide +kernel
theorem dc_Mo_waiting_39 : decode cb_Mo_waiting 39 = .ok (.getfield 153, 3) := by decide +kernel
theorem dc_Mo_waiting_42 : decode cb_Mo_waiting 42 = .ok (.aload_n 0, 1) := by decide +kernel
theorem dc_Mo_waiting_43 : decode cb_Mo_waiting 43 = .ok (.getfield 156, 3) := by decide +kernel
theorem dc_Mo_waiting_46 : decode cb_Mo_waiting 46 = .ok (.isub, 1) := by decide +kernel
theorem dc_Mo_waiting_47 : decode cb_Mo_waiting 47 = .ok (.goto 16, 3) := by decide +kernel
theorem dc_Mo_waiting_50 : decode cb_Mo_waiting 50 = .ok (.iload_n 1, 1) := by decide +kernel
theorem dc_Mo_waiting_51 : decode cb_Mo_waiting 51 = .ok (.iconst 3, 1) := by decide +kernel
theorem dc_Mo_waiting_52 : decode cb_Mo_waiting 52 = .ok (.if_icmp .ne 10, 3) := by decide +kernel
theorem dc_Mo_waiting_55 : decode cb_Mo_waiting 55 = .ok (.aload_n 0, 1) := by decide +kernel
theorem dc_Mo_waiting_56 : decode cb_Mo_waiting 56 = .ok (.getfield 156, 3) := by decide +kernel
theorem dc_Mo_waiting_59 : decode cb_Mo_waiting 59 = .ok (.goto 4, 3) := by decide +kernel
theorem dc_Mo_waiting_62 : decode cb_Mo_waiting 62 = .ok (.iconst (-1), 1) := by decide +kernel
theorem dc_Mo_waiting_63 : decode cb_Mo_waiting 63 = .ok (.ireturn, 1) := by decide +kernel
theorem yk_Mo_waiting : fq_Y my_Mo_waiting cb_Mo_waiting 2 (some .int) 1 := ⟨wd_987, wd_36, by decide +kernel⟩
set_option maxHeartbeats 4000000 in
set_option maxRecDepth 100000 in
theorem ct_Mo_restart (l : Launch) (D : va_G) (cI cO : ClassId) (tE : Nat) (h aK aN aB aS aL aX : Nat) (rm : Nat) (sd : Bool) (ns : Nat) (iw : Nat) (ow : Nat) (ih : Bool) (oh : Bool) (ca : Nat) (us : Nat) (cl : Bool) (fl : Bool) (tk : Nat) (md : Nat) (gi : Nat) (su : Nat) (ps : Nat) (cs : Nat) (fK fN fB fS fL fX : Nat → Int32)  (sz : Nat) : Met l my_Mo_restart (fq_w my_Mo_restart cb_Mo_restart 1 (some .boolean)) ({ frames := 0, cells := 0, slots := 0, locals := 0 }) (va_Pc ([.ref h]) (fq_Pre D cI cO tE sz ([(h, .inr (12, [.int (nI rm), .int (fq_b sd), .int (nI ns), .ref aK, .ref aN, .int (nI iw), .int (nI ow), .int (fq_b ih), .int (fq_b oh), .ref aB, .int (nI ca), .int (nI us), .int (fq_b cl), .int (fq_b fl), .ref aS, .int (nI tk), .ref aL, .ref aX, .int (nI md), .int (nI gi), .int (nI su), .int (nI ps), .int (nI cs)])), (aK, .inl (cI, 5, .inl fK)), (aN, .inl (cI, 25, .inl fN)), (aB, .inl (cI, 120, .inl fB)), (aS, .inl (cI, 120, .inl fS)), (aL, .inl (cI, 2300, .inl fL)), (aX, .inl (cI, 2300, .inl fX))]))) (va_Qi (S := va_W) (fun r w => if sd = true then r = 1 ∧ w = [(h, .inr (12, [.int (nI rm), .int (fq_b sd), .int (nI ns), .ref aK, .ref aN, .int (nI iw), .int (nI ow), .int (fq_b ih), .int (fq_b oh), .ref aB, .int (nI 0), .int (nI 0), .int (fq_b false), .int (fq_b false), .ref aS, .int (nI 0), .ref aL, .ref aX, .int (nI 0), .int (nI 0), .int (nI 0), .int (nI 1), .int (nI 1)])), (aK, .inl (cI, 5, .inl fK)), (aN, .inl (cI, 25, .inl fN)), (aB, .inl (cI, 120, .inl fB)), (aS, .inl (cI, 120, .inl fS)), (aL, .inl (cI, 2300, .inl fL)), (aX, .inl (cI, 2300, .inl fX))] else r = 0 ∧ w = [(h, .inr (12, [.int (nI rm), .int (fq_b sd), .int (nI ns), .ref aK, .ref aN, .int (nI iw), .int (nI ow), .int (fq_b ih), .int (fq_b oh), .ref aB, .int (nI ca), .int (nI us), .int (fq_b cl), .int (fq_b fl), .ref aS, .int (nI tk), .ref aL, .ref aX, .int (nI md), .int (nI gi), .int (nI su), .int (nI ps), .int (nI cs)])), (aK, .inl (cI, 5, .inl fK)), (aN, .inl (cI, 25, .inl fN)), (aB, .inl (cI, 120, .inl fB)), (aS, .inl (cI, 120, .inl fS)), (aL, .inl (cI, 2300, .inl fL)), (aX, .inl (cI, 2300, .inl fX))]) (fq_Bw D (va_A ([(h, .inr (12, [.int (nI rm), .int (fq_b sd), .int (nI ns), .ref aK, .ref aN, .int (nI iw), .int (nI ow), .int (fq_b ih), .int (fq_b oh), .ref aB, .int (nI ca), .int (nI us), .int (fq_b cl), .int (fq_b fl), .ref aS, .int (nI tk), .ref aL, .ref aX, .int (nI md), .int (nI gi), .int (nI su), .int (nI ps), .int (nI cs)])), (aK, .inl (cI, 5, .inl fK)), (aN, .inl (cI, 25, .inl fN)), (aB, .inl (cI, 120, .inl fB)), (aS, .inl (cI, 120, .inl fS)), (aL, .inl (cI, 2300, .inl fL)), (aX, .inl (cI, 2300, .inl fX))]) sz)) (va_A ([(h, .inr (12, [.int (nI rm), .int (fq_b sd), .int (nI ns), .ref aK, .ref aN, .int (nI iw), .int (nI ow), .int (fq_b ih), .int (fq_b oh), .ref aB, .int (nI ca), .int (nI us), .int (fq_b cl), .int (fq_b fl), .ref aS, .int (nI tk), .ref aL, .ref aX, .int (nI md), .int (nI gi), .int (nI su), .int (nI ps), .int (nI cs)])), (aK, .inl (cI, 5, .inl fK)), (aN, .inl (cI, 25, .inl fN)), (aB, .inl (cI, 120, .inl fB)), (aS, .inl (cI, 120, .inl fS)), (aL, .inl (cI, 2300, .inl fL)), (aX, .inl (cI, 2300, .inl fX))]) sz)) (0) (0) (va_A ([(h, .inr (12, [.int (nI rm), .int (fq_b sd), .int (nI ns), .ref aK, .ref aN, .int (nI iw), .int (nI ow), .int (fq_b ih), .int (fq_b oh), .ref aB, .int (nI ca), .int (nI us), .int (fq_b cl), .int (fq_b fl), .ref aS, .int (nI tk), .ref aL, .ref aX, .int (nI md), .int (nI gi), .int (nI su), .int (nI ps), .int (nI cs)])), (aK, .inl (cI, 5, .inl fK)), (aN, .inl (cI, 25, .inl fN)), (aB, .inl (cI, 120, .inl fB)), (aS, .inl (cI, 120, .inl fS)), (aL, .inl (cI, 2300, .inl fL)), (aX, .inl (cI, 2300, .inl fX))]) sz) := by
  refine fq_open (by decide +kernel) (Nat.le_of_ble_eq_true rfl) ?_
  intro pg ev s mt below meth cd ls K hret hlk hin hK hZ hP hD hA hS hl
  generalize va_A ([(h, .inr (12, [.int (nI rm), .int (fq_b sd), .int (nI ns), .ref aK, .ref aN, .int (nI iw), .int (nI ow), .int (fq_b ih), .int (fq_b oh), .ref aB, .int (nI ca), .int (nI us), .int (fq_b cl), .int (fq_b fl), .ref aS, .int (nI tk), .ref aL, .ref aX, .int (nI md), .int (nI gi), .int (nI su), .int (nI ps), .int (nI cs)])), (aK, .inl (cI, 5, .inl fK)), (aN, .inl (cI, 25, .inl fN)), (aB, .inl (cI, 120, .inl fB)), (aS, .inl (cI, 120, .inl fS)), (aL, .inl (cI, 2300, .inl fL)), (aX, .inl (cI, 2300, .inl fX))]) sz = A at hZ hD hA hS ⊢
  have K : fq_Ctx pg mt cd cb_Mo_restart 1 s _ cn_Mo := K
  have hl : lv_has ls 1 [(0, .ref h)] := hl
  refine lv_aload_n K.1 K.2.1 dc_Mo_restart_0 rfl (lv_at hl 0 rfl) ?_
  refine fq_get K hK cl_Mo hP 0 1 rfl (by decide) wd_771 rfl dc_Mo_restart_1 ?_
  refine lv_if_ne (tgt := 9) K.1 K.2.1 dc_Mo_restart_4 rfl (fun b4 => ?_) (fun b4 => ?_)
  · skip
    have hs := fq_b1 b4
    refine lv_aload_n K.1 K.2.1 dc_Mo_restart_9 rfl (lv_at hl 0 rfl) ?_
    refine lv_iconst (v := 0) K.1 K.2.1 dc_Mo_restart_10 (by decide) ?_
    refine fq_put K hK cl_Mo hP hD hS 0 10 rfl (by decide) wd_780 rfl rfl rfl (Nat.le_of_ble_eq_true rfl) dc_Mo_restart_11 (fun H locs hP hD hS => ?_)
    have hP : va_P D fq_cl ([(h, .inr (12, [.int (nI rm), .int (fq_b sd), .int (nI ns), .ref aK, .ref aN, .int (nI iw), .int (nI ow), .int (fq_b ih), .int (fq_b oh), .ref aB, .int 0, .int (nI us), .int (fq_b cl), .int (fq_b fl), .ref aS, .int (nI tk), .ref aL, .ref aX, .int (nI md), .int (nI gi), .int (nI su), .int (nI ps), .int (nI cs)])), (aK, .inl (cI, 5, .inl fK)), (aN, .inl (cI, 25, .inl fN)), (aB, .inl (cI, 120, .inl fB)), (aS, .inl (cI, 120, .inl fS)), (aL, .inl (cI, 2300, .inl fL)), (aX, .inl (cI, 2300, .inl fX))]) _ := hP
    have hD : va_D A ([(h, .inr (12, [.int (nI rm), .int (fq_b sd), .int (nI ns), .ref aK, .ref aN, .int (nI iw), .int (nI ow), .int (fq_b ih), .int (fq_b oh), .ref aB, .int 0, .int (nI us), .int (fq_b cl), .int (fq_b fl), .ref aS, .int (nI tk), .ref aL, .ref aX, .int (nI md), .int (nI gi), .int (nI su), .int (nI ps), .int (nI cs)])), (aK, .inl (cI, 5, .inl fK)), (aN, .inl (cI, 25, .inl fN)), (aB, .inl (cI, 120, .inl fB)), (aS, .inl (cI, 120, .inl fS)), (aL, .inl (cI, 2300, .inl fL)), (aX, .inl (cI, 2300, .inl fX))]) := hD
    refine lv_aload_n K.1 K.2.1 dc_Mo_restart_14 rfl (lv_at hl 0 rfl) ?_
    refine lv_iconst (v := 0) K.1 K.2.1 dc_Mo_restart_15 (by decide) ?_
    refine fq_put K hK cl_Mo hP hD hS 0 11 rfl (by decide) wd_781 rfl rfl rfl (Nat.le_of_ble_eq_true rfl) dc_Mo_restart_16 (fun H locs hP hD hS => ?_)
    have hP : va_P D fq_cl ([(h, .inr (12, [.int (nI rm), .int (fq_b sd), .int (nI ns), .ref aK, .ref aN, .int (nI iw), .int (nI ow), .int (fq_b ih), .int (fq_b oh), .ref aB, .int 0, .int 0, .int (fq_b cl), .int (fq_b fl), .ref aS, .int (nI tk), .ref aL, .ref aX, .int (nI md), .int (nI gi), .int (nI su), .int (nI ps), .int (nI cs)])), (aK, .inl (cI, 5, .inl fK)), (aN, .inl (cI, 25, .inl fN)), (aB, .inl (cI, 120, .inl fB)), (aS, .inl (cI, 120, .inl fS)), (aL, .inl (cI, 2300, .inl fL)), (aX, .inl (cI, 2300, .inl fX))]) _ := hP
    have hD : va_D A ([(h, .inr (12, [.int (nI rm), .int (fq_b sd), .int (nI ns), .ref aK, .ref aN, .int (nI iw), .int (nI ow), .int (fq_b ih), .int (fq_b oh), .ref aB, .int 0, .int 0, .int (fq_b cl), .int (fq_b fl), .ref aS, .int (nI tk), .ref aL, .ref aX, .int (nI md), .int (nI gi), .int (nI su), .int (nI ps), .int (nI cs)])), (aK, .inl (cI, 5, .inl fK)), (aN, .inl (cI, 25, .inl fN)), (aB, .inl (cI, 120, .inl fB)), (aS, .inl (cI, 120, .inl fS)), (aL, .inl (cI, 2300, .inl fL)), (aX, .inl (cI, 2300, .inl fX))]) := hD
    refine lv_aload_n K.1 K.2.1 dc_Mo_restart_19 rfl (lv_at hl 0 rfl) ?_
    refine lv_iconst (v := 0) K.1 K.2.1 dc_Mo_restart_20 (by decide) ?_
    refine fq_put K hK cl_Mo hP hD hS 0 12 rfl (by decide) wd_782 rfl rfl rfl (Nat.le_of_ble_eq_true rfl) dc_Mo_restart_21 (fun H locs hP hD hS => ?_)
    have hP : va_P D fq_cl ([(h, .inr (12, [.int (nI rm), .int (fq_b sd), .int (nI ns), .ref aK, .ref aN, .int (nI iw), .int (nI ow), .int (fq_b ih), .int (fq_b oh), .ref aB, .int 0, .int 0, .int 0, .int (fq_b fl), .ref aS, .int (nI tk), .ref aL, .ref aX, .int (nI md), .int (nI gi), .int (nI su), .int (nI ps), .int (nI cs)])), (aK, .inl (cI, 5, .inl fK)), (aN, .inl (cI, 25, .inl fN)), (aB, .inl (cI, 120, .inl fB)), (aS, .inl (cI, 120, .inl fS)), (aL, .inl (cI, 2300, .inl fL)), (aX, .inl (cI, 2300, .inl fX))]) _ := hP
    have hD : va_D A ([(h, .inr (12, [.int (nI rm), .int (fq_b sd), .int (nI ns), .ref aK, .ref aN, .int (nI iw), .int (nI ow), .int (fq_b ih), .int (fq_b oh), .ref aB, .int 0, .int 0, .int 0, .int (fq_b fl), .ref aS, .int (nI tk), .ref aL, .ref aX, .int (nI md), .int (nI gi), .int (nI su), .int (nI ps), .int (nI cs)])), (aK, .inl (cI, 5, .inl fK)), (aN, .inl (cI, 25, .inl fN)), (aB, .inl (cI, 120, .inl fB)), (aS, .inl (cI, 120, .inl fS)), (aL, .inl (cI, 2300, .inl fL)), (aX, .inl (cI, 2300, .inl fX))]) := hD
    refine lv_aload_n K.1 K.2.1 dc_Mo_restart_24 rfl (lv_at hl 0 rfl) ?_
    refine lv_iconst (v := 0) K.1 K.2.1 dc_Mo_restart_25 (by decide) ?_
    refine fq_put K hK cl_Mo hP hD hS 0 13 rfl (by decide) wd_783 rfl rfl rfl (Nat.le_of_ble_eq_true rfl) dc_Mo_restart_26 (fun H locs hP hD hS => ?_)
    have hP : va_P D fq_cl ([(h, .inr (12, [.int (nI rm), .int (fq_b sd), .int (nI ns), .ref aK, .ref aN, .int (nI iw), .int (nI ow), .int (fq_b ih), .int (fq_b oh), .ref aB, .int 0, .int 0, .int 0, .int 0, .ref aS, .int (nI tk), .ref aL, .ref aX, .int (nI md), .int (nI gi), .int (nI su), .int (nI ps), .int (nI cs)])), (aK, .inl (cI, 5, .inl fK)), (aN, .inl (cI, 25, .inl fN)), (aB, .inl (cI, 120, .inl fB)), (aS, .inl (cI, 120, .inl fS)), (aL, .inl (cI, 2300, .inl fL)), (aX, .inl (cI, 2300, .inl fX))]) _ := hP
    have hD : va_D A ([(h, .inr (12, [.int (nI rm), .int (fq_b sd), .int (nI ns), .ref aK, .ref aN, .int (nI iw), .int (nI ow), .int (fq_b ih), .int (fq_b oh), .ref aB, .int 0, .int 0, .int 0, .int 0, .ref aS, .int (nI tk), .ref aL, .ref aX, .int (nI md), .int (nI gi), .int (nI su), .int (nI ps), .int (nI cs)])), (aK, .inl (cI, 5, .inl fK)), (aN, .inl (cI, 25, .inl fN)), (aB, .inl (cI, 120, .inl fB)), (aS, .inl (cI, 120, .inl fS)), (aL, .inl (cI, 2300, .inl fL)), (aX, .inl (cI, 2300, .inl fX))]) := hD
    refine lv_aload_n K.1 K.2.1 dc_Mo_restart_29 rfl (lv_at hl 0 rfl) ?_
    refine lv_iconst (v := 0) K.1 K.2.1 dc_Mo_restart_30 (by decide) ?_
    refine fq_put K hK cl_Mo hP hD hS 0 15 rfl (by decide) wd_785 rfl rfl rfl (Nat.le_of_ble_eq_true rfl) dc_Mo_restart_31 (fun H locs hP hD hS => ?_)
    have hP : va_P D fq_cl ([(h, .inr (12, [.int (nI rm), .int (fq_b sd), .int (nI ns), .ref aK, .ref aN, .int (nI iw), .int (nI ow), .int (fq_b ih), .int (fq_b oh), .ref aB, .int 0, .int 0, .int 0, .int 0, .ref aS, .int 0, .ref aL, .ref aX, .int (nI md), .int (nI gi), .int (nI su), .int (nI ps), .int (nI cs)])), (aK, .inl (cI, 5, .inl fK)), (aN, .inl (cI, 25, .inl fN)), (aB, .inl (cI, 120, .inl fB)), (aS, .inl (cI, 120, .inl fS)), (aL, .inl (cI, 2300, .inl fL)), (aX, .inl (cI, 2300, .inl fX))]) _ := hP
    have hD : va_D A ([(h, .inr (12, [.int (nI rm), .int (fq_b sd), .int (nI ns), .ref aK, .ref aN, .int (nI iw), .int (nI ow), .int (fq_b ih), .int (fq_b oh), .ref aB, .int 0, .int 0, .int 0, .int 0, .ref aS, .int 0, .ref aL, .ref aX, .int (nI md), .int (nI gi), .int (nI su), .int (nI ps), .int (nI cs)])), (aK, .inl (cI, 5, .inl fK)), (aN, .inl (cI, 25, .inl fN)), (aB, .inl (cI, 120, .inl fB)), (aS, .inl (cI, 120, .inl fS)), (aL, .inl (cI, 2300, .inl fL)), (aX, .inl (cI, 2300, .inl fX))]) := hD
    refine lv_aload_n K.1 K.2.1 dc_Mo_restart_34 rfl (lv_at hl 0 rfl) ?_
    refine lv_iconst (v := 0) K.1 K.2.1 dc_Mo_restart_35 (by decide) ?_
    refine fq_put K hK cl_Mo hP hD hS 0 18 rfl (by decide) wd_788 rfl rfl rfl (Nat.le_of_ble_eq_true rfl) dc_Mo_restart_36 (fun H locs hP hD hS => ?_)
    have hP : va_P D fq_cl ([(h, .inr (12, [.int (nI rm), .int (fq_b sd), .int (nI ns), .ref aK, .ref aN, .int (nI iw), .int (nI ow), .int (fq_b ih), .int (fq_b oh), .ref aB, .int 0, .int 0, .int 0, .int 0, .ref aS, .int 0, .ref aL, .ref aX, .int 0, .int (nI gi), .int (nI su), .int (nI ps), .int (nI cs)])), (aK, .inl (cI, 5, .inl fK)), (aN, .inl (cI, 25, .inl fN)), (aB, .inl (cI, 120, .inl fB)), (aS, .inl (cI, 120, .inl fS)), (aL, .inl (cI, 2300, .inl fL)), (aX, .inl (cI, 2300, .inl fX))]) _ := hP
    have hD : va_D A ([(h, .inr (12, [.int (nI rm), .int (fq_b sd), .int (nI ns), .ref aK, .ref aN, .int (nI iw), .int (nI ow), .int (fq_b ih), .int (fq_b oh), .ref aB, .int 0, .int 0, .int 0, .int 0, .ref aS, .int 0, .ref aL, .ref aX, .int 0, .int (nI gi), .int (nI su), .int (nI ps), .int (nI cs)])), (aK, .inl (cI, 5, .inl fK)), (aN, .inl (cI, 25, .inl fN)), (aB, .inl (cI, 120, .inl fB)), (aS, .inl (cI, 120, .inl fS)), (aL, .inl (cI, 2300, .inl fL)), (aX, .inl (cI, 2300, .inl fX))]) := hD
    refine lv_aload_n K.1 K.2.1 dc_Mo_restart_39 rfl (lv_at hl 0 rfl) ?_
    refine lv_iconst (v := 0) K.1 K.2.1 dc_Mo_restart_40 (by decide) ?_
    refine fq_put K hK cl_Mo hP hD hS 0 19 rfl (by decide) wd_789 rfl rfl rfl (Nat.le_of_ble_eq_true rfl) dc_Mo_restart_41 (fun H locs hP hD hS => ?_)
    have hP : va_P D fq_cl ([(h, .inr (12, [.int (nI rm), .int (fq_b sd), .int (nI ns), .ref aK, .ref aN, .int (nI iw), .int (nI ow), .int (fq_b ih), .int (fq_b oh), .ref aB, .int 0, .int 0, .int 0, .int 0, .ref aS, .int 0, .ref aL, .ref aX, .int 0, .int 0, .int (nI su), .int (nI ps), .int (nI cs)])), (aK, .inl (cI, 5, .inl fK)), (aN, .inl (cI, 25, .inl fN)), (aB, .inl (cI, 120, .inl fB)), (aS, .inl (cI, 120, .inl fS)), (aL, .inl (cI, 2300, .inl fL)), (aX, .inl (cI, 2300, .inl fX))]) _ := hP
    have hD : va_D A ([(h, .inr (12, [.int (nI rm), .int (fq_b sd), .int (nI ns), .ref aK, .ref aN, .int (nI iw), .int (nI ow), .int (fq_b ih), .int (fq_b oh), .ref aB, .int 0, .int 0, .int 0, .int 0, .ref aS, .int 0, .ref aL, .ref aX, .int 0, .int 0, .int (nI su), .int (nI ps), .int (nI cs)])), (aK, .inl (cI, 5, .inl fK)), (aN, .inl (cI, 25, .inl fN)), (aB, .inl (cI, 120, .inl fB)), (aS, .inl (cI, 120, .inl fS)), (aL, .inl (cI, 2300, .inl fL)), (aX, .inl (cI, 2300, .inl fX))]) := hD
    refine lv_aload_n K.1 K.2.1 dc_Mo_restart_44 rfl (lv_at hl 0 rfl) ?_
    refine lv_iconst (v := 0) K.1 K.2.1 dc_Mo_restart_45 (by decide) ?_
    refine fq_put K hK cl_Mo hP hD hS 0 20 rfl (by decide) wd_790 rfl rfl rfl (Nat.le_of_ble_eq_true rfl) dc_Mo_restart_46 (fun H locs hP hD hS => ?_)
    have hP : va_P D fq_cl ([(h, .inr (12, [.int (nI rm), .int (fq_b sd), .int (nI ns), .ref aK, .ref aN, .int (nI iw), .int (nI ow), .int (fq_b ih), .int (fq_b oh), .ref aB, .int 0, .int 0, .int 0, .int 0, .ref aS, .int 0, .ref aL, .ref aX, .int 0, .int 0, .int 0, .int (nI ps), .int (nI cs)])), (aK, .inl (cI, 5, .inl fK)), (aN, .inl (cI, 25, .inl fN)), (aB, .inl (cI, 120, .inl fB)), (aS, .inl (cI, 120, .inl fS)), (aL, .inl (cI, 2300, .inl fL)), (aX, .inl (cI, 2300, .inl fX))]) _ := hP
    have hD : va_D A ([(h, .inr (12, [.int (nI rm), .int (fq_b sd), .int (nI ns), .ref aK, .ref aN, .int (nI iw), .int (nI ow), .int (fq_b ih), .int (fq_b oh), .ref aB, .int 0, .int 0, .int 0, .int 0, .ref aS, .int 0, .ref aL, .ref aX, .int 0, .int 0, .int 0, .int (nI ps), .int (nI cs)])), (aK, .inl (cI, 5, .inl fK)), (aN, .inl (cI, 25, .inl fN)), (aB, .inl (cI, 120, .inl fB)), (aS, .inl (cI, 120, .inl fS)), (aL, .inl (cI, 2300, .inl fL)), (aX, .inl (cI, 2300, .inl fX))]) := hD
    refine lv_aload_n K.1 K.2.1 dc_Mo_restart_49 rfl (lv_at hl 0 rfl) ?_
    refine lv_iconst (v := 1) K.1 K.2.1 dc_Mo_restart_50 (by decide) ?_
    refine fq_put K hK cl_Mo hP hD hS 0 21 rfl (by decide) wd_791 rfl rfl rfl (Nat.le_of_ble_eq_true rfl) dc_Mo_restart_51 (fun H locs hP hD hS => ?_)
    have hP : va_P D fq_cl ([(h, .inr (12, [.int (nI rm), .int (fq_b sd), .int (nI ns), .ref aK, .ref aN, .int (nI iw), .int (nI ow), .int (fq_b ih), .int (fq_b oh), .ref aB, .int 0, .int 0, .int 0, .int 0, .ref aS, .int 0, .ref aL, .ref aX, .int 0, .int 0, .int 0, .int 1, .int (nI cs)])), (aK, .inl (cI, 5, .inl fK)), (aN, .inl (cI, 25, .inl fN)), (aB, .inl (cI, 120, .inl fB)), (aS, .inl (cI, 120, .inl fS)), (aL, .inl (cI, 2300, .inl fL)), (aX, .inl (cI, 2300, .inl fX))]) _ := hP
    have hD : va_D A ([(h, .inr (12, [.int (nI rm), .int (fq_b sd), .int (nI ns), .ref aK, .ref aN, .int (nI iw), .int (nI ow), .int (fq_b ih), .int (fq_b oh), .ref aB, .int 0, .int 0, .int 0, .int 0, .ref aS, .int 0, .ref aL, .ref aX, .int 0, .int 0, .int 0, .int 1, .int (nI cs)])), (aK, .inl (cI, 5, .inl fK)), (aN, .inl (cI, 25, .inl fN)), (aB, .inl (cI, 120, .inl fB)), (aS, .inl (cI, 120, .inl fS)), (aL, .inl (cI, 2300, .inl fL)), (aX, .inl (cI, 2300, .inl fX))]) := hD
    refine lv_aload_n K.1 K.2.1 dc_Mo_restart_54 rfl (lv_at hl 0 rfl) ?_
    refine lv_iconst (v := 1) K.1 K.2.1 dc_Mo_restart_55 (by decide) ?_
    refine fq_put K hK cl_Mo hP hD hS 0 22 rfl (by decide) wd_792 rfl rfl rfl (Nat.le_of_ble_eq_true rfl) dc_Mo_restart_56 (fun H locs hP hD hS => ?_)
    have hP : va_P D fq_cl ([(h, .inr (12, [.int (nI rm), .int (fq_b sd), .int (nI ns), .ref aK, .ref aN, .int (nI iw), .int (nI ow), .int (fq_b ih), .int (fq_b oh), .ref aB, .int 0, .int 0, .int 0, .int 0, .ref aS, .int 0, .ref aL, .ref aX, .int 0, .int 0, .int 0, .int 1, .int 1])), (aK, .inl (cI, 5, .inl fK)), (aN, .inl (cI, 25, .inl fN)), (aB, .inl (cI, 120, .inl fB)), (aS, .inl (cI, 120, .inl fS)), (aL, .inl (cI, 2300, .inl fL)), (aX, .inl (cI, 2300, .inl fX))]) _ := hP
    have hD : va_D A ([(h, .inr (12, [.int (nI rm), .int (fq_b sd), .int (nI ns), .ref aK, .ref aN, .int (nI iw), .int (nI ow), .int (fq_b ih), .int (fq_b oh), .ref aB, .int 0, .int 0, .int 0, .int 0, .ref aS, .int 0, .ref aL, .ref aX, .int 0, .int 0, .int 0, .int 1, .int 1])), (aK, .inl (cI, 5, .inl fK)), (aN, .inl (cI, 25, .inl fN)), (aB, .inl (cI, 120, .inl fB)), (aS, .inl (cI, 120, .inl fS)), (aL, .inl (cI, 2300, .inl fL)), (aX, .inl (cI, 2300, .inl fX))]) := hD
    refine lv_iconst (v := 1) K.1 K.2.1 dc_Mo_restart_59 (by decide) ?_
    exact fq_retz K hret hlk hS hP hD (by first | exact Or.inl rfl | exact Or.inr rfl) (by rw [if_pos hs]; exact ⟨rfl, rfl⟩) dc_Mo_restart_60 (Nat.le_of_ble_eq_true rfl) (Nat.le_of_ble_eq_true rfl)
  · skip
    have hs := fq_b0 b4
    refine lv_iconst (v := 0) K.1 K.2.1 dc_Mo_restart_7 (by decide) ?_
    exact fq_retz K hret hlk hS hP hD (by first | exact Or.inl rfl | exact Or.inr rfl) (by rw [if_neg (by rw [hs]; decide)]; exact ⟨rfl, rfl⟩) dc_Mo_restart_8 (Nat.le_of_ble_eq_true rfl) (Nat.le_of_ble_eq_true rfl)
set_option maxHeartbeats 4000000 in
set_option maxRecDepth 100000 in
theorem ct_Mo_restart1 (l : Launch) (D : va_G) (cI cO : ClassId) (tE : Nat) (h aK aN aB aS aL aX : Nat) (rm : Nat) (sd : Bool) (ns : Nat) (iw : Nat) (ow : Nat) (ih : Bool) (oh : Bool) (ca : Nat) (us : Nat) (cl : Bool) (fl : Bool) (tk : Nat) (md : Nat) (gi : Nat) (su : Nat) (ps : Nat) (cs : Nat) (fK fN fB fS fL fX : Nat → Int32)  (sz : Nat) : Met l my_Mo_restart (fq_w my_Mo_restart cb_Mo_restart 1 (some .boolean)) ({ frames := 0, cells := 0, slots := 0, locals := 0 }) (va_Pc ([.ref h]) (fq_Pre D cI cO tE sz ([(h, .inr (12, [.int (nI rm), .int (fq_b true), .int (nI ns), .ref aK, .ref aN, .int (nI iw), .int (nI ow), .int (fq_b ih), .int (fq_b oh), .ref aB, .int (nI ca), .int (nI us), .int (fq_b cl), .int (fq_b fl), .ref aS, .int (nI tk), .ref aL, .ref aX, .int (nI md), .int (nI gi), .int (nI su), .int (nI ps), .int (nI cs)])), (aK, .inl (cI, 5, .inl fK)), (aN, .inl (cI, 25, .inl fN)), (aB, .inl (cI, 120, .inl fB)), (aS, .inl (cI, 120, .inl fS)), (aL, .inl (cI, 2300, .inl fL)), (aX, .inl (cI, 2300, .inl fX))]))) (va_Qi (S := va_W) (fun r w => w = [(h, .inr (12, [.int (nI rm), .int (fq_b true), .int (nI ns), .ref aK, .ref aN, .int (nI iw), .int (nI ow), .int (fq_b ih), .int (fq_b oh), .ref aB, .int (nI 0), .int (nI 0), .int (fq_b false), .int (fq_b false), .ref aS, .int (nI 0), .ref aL, .ref aX, .int (nI 0), .int (nI 0), .int (nI 0), .int (nI 1), .int (nI 1)])), (aK, .inl (cI, 5, .inl fK)), (aN, .inl (cI, 25, .inl fN)), (aB, .inl (cI, 120, .inl fB)), (aS, .inl (cI, 120, .inl fS)), (aL, .inl (cI, 2300, .inl fL)), (aX, .inl (cI, 2300, .inl fX))] ∧ r = 1) (fq_Bw D (va_A ([(h, .inr (12, [.int (nI rm), .int (fq_b true), .int (nI ns), .ref aK, .ref aN, .int (nI iw), .int (nI ow), .int (fq_b ih), .int (fq_b oh), .ref aB, .int (nI ca), .int (nI us), .int (fq_b cl), .int (fq_b fl), .ref aS, .int (nI tk), .ref aL, .ref aX, .int (nI md), .int (nI gi), .int (nI su), .int (nI ps), .int (nI cs)])), (aK, .inl (cI, 5, .inl fK)), (aN, .inl (cI, 25, .inl fN)), (aB, .inl (cI, 120, .inl fB)), (aS, .inl (cI, 120, .inl fS)), (aL, .inl (cI, 2300, .inl fL)), (aX, .inl (cI, 2300, .inl fX))]) sz)) (va_A ([(h, .inr (12, [.int (nI rm), .int (fq_b true), .int (nI ns), .ref aK, .ref aN, .int (nI iw), .int (nI ow), .int (fq_b ih), .int (fq_b oh), .ref aB, .int (nI ca), .int (nI us), .int (fq_b cl), .int (fq_b fl), .ref aS, .int (nI tk), .ref aL, .ref aX, .int (nI md), .int (nI gi), .int (nI su), .int (nI ps), .int (nI cs)])), (aK, .inl (cI, 5, .inl fK)), (aN, .inl (cI, 25, .inl fN)), (aB, .inl (cI, 120, .inl fB)), (aS, .inl (cI, 120, .inl fS)), (aL, .inl (cI, 2300, .inl fL)), (aX, .inl (cI, 2300, .inl fX))]) sz)) (0) (0) (va_A ([(h, .inr (12, [.int (nI rm), .int (fq_b true), .int (nI ns), .ref aK, .ref aN, .int (nI iw), .int (nI ow), .int (fq_b ih), .int (fq_b oh), .ref aB, .int (nI ca), .int (nI us), .int (fq_b cl), .int (fq_b fl), .ref aS, .int (nI tk), .ref aL, .ref aX, .int (nI md), .int (nI gi), .int (nI su), .int (nI ps), .int (nI cs)])), (aK, .inl (cI, 5, .inl fK)), (aN, .inl (cI, 25, .inl fN)), (aB, .inl (cI, 120, .inl fB)), (aS, .inl (cI, 120, .inl fS)), (aL, .inl (cI, 2300, .inl fL)), (aX, .inl (cI, 2300, .inl fX))]) sz) := by
  refine fq_open (by decide +kernel) (Nat.le_of_ble_eq_true rfl) ?_
  intro pg ev s mt below meth cd ls K hret hlk hin hK hZ hP hD hA hS hl
  generalize va_A ([(h, .inr (12, [.int (nI rm), .int (fq_b true), .int (nI ns), .ref aK, .ref aN, .int (nI iw), .int (nI ow), .int (fq_b ih), .int (fq_b oh), .ref aB, .int (nI ca), .int (nI us), .int (fq_b cl), .int (fq_b fl), .ref aS, .int (nI tk), .ref aL, .ref aX, .int (nI md), .int (nI gi), .int (nI su), .int (nI ps), .int (nI cs)])), (aK, .inl (cI, 5, .inl fK)), (aN, .inl (cI, 25, .inl fN)), (aB, .inl (cI, 120, .inl fB)), (aS, .inl (cI, 120, .inl fS)), (aL, .inl (cI, 2300, .inl fL)), (aX, .inl (cI, 2300, .inl fX))]) sz = A at hZ hD hA hS ⊢
  have K : fq_Ctx pg mt cd cb_Mo_restart 1 s _ cn_Mo := K
  have hl : lv_has ls 1 [(0, .ref h)] := hl
  refine lv_aload_n K.1 K.2.1 dc_Mo_restart_0 rfl (lv_at hl 0 rfl) ?_
  refine fq_get K hK cl_Mo hP 0 1 rfl (by decide) wd_771 rfl dc_Mo_restart_1 ?_
  refine lv_if_ne (tgt := 9) K.1 K.2.1 dc_Mo_restart_4 rfl (fun b4 => ?_) (fun b4 => absurd (fq_b0 b4) (by decide))
  refine lv_aload_n K.1 K.2.1 dc_Mo_restart_9 rfl (lv_at hl 0 rfl) ?_
  refine lv_iconst (v := 0) K.1 K.2.1 dc_Mo_restart_10 (by decide) ?_
  refine fq_put K hK cl_Mo hP hD hS 0 10 rfl (by decide) wd_780 rfl rfl rfl (Nat.le_of_ble_eq_true rfl) dc_Mo_restart_11 (fun H locs hP hD hS => ?_)
  have hP : va_P D fq_cl ([(h, .inr (12, [.int (nI rm), .int (fq_b true), .int (nI ns), .ref aK, .ref aN, .int (nI iw), .int (nI ow), .int (fq_b ih), .int (fq_b oh), .ref aB, .int 0, .int (nI us), .int (fq_b cl), .int (fq_b fl), .ref aS, .int (nI tk), .ref aL, .ref aX, .int (nI md), .int (nI gi), .int (nI su), .int (nI ps), .int (nI cs)])), (aK, .inl (cI, 5, .inl fK)), (aN, .inl (cI, 25, .inl fN)), (aB, .inl (cI, 120, .inl fB)), (aS, .inl (cI, 120, .inl fS)), (aL, .inl (cI, 2300, .inl fL)), (aX, .inl (cI, 2300, .inl fX))]) _ := hP
  have hD : va_D A ([(h, .inr (12, [.int (nI rm), .int (fq_b true), .int (nI ns), .ref aK, .ref aN, .int (nI iw), .int (nI ow), .int (fq_b ih), .int (fq_b oh), .ref aB, .int 0, .int (nI us), .int (fq_b cl), .int (fq_b fl), .ref aS, .int (nI tk), .ref aL, .ref aX, .int (nI md), .int (nI gi), .int (nI su), .int (nI ps), .int (nI cs)])), (aK, .inl (cI, 5, .inl fK)), (aN, .inl (cI, 25, .inl fN)), (aB, .inl (cI, 120, .inl fB)), (aS, .inl (cI, 120, .inl fS)), (aL, .inl (cI, 2300, .inl fL)), (aX, .inl (cI, 2300, .inl fX))]) := hD
  refine lv_aload_n K.1 K.2.1 dc_Mo_restart_14 rfl (lv_at hl 0 rfl) ?_
  refine lv_iconst (v := 0) K.1 K.2.1 dc_Mo_restart_15 (by decide) ?_
  refine fq_put K hK cl_Mo hP hD hS 0 11 rfl (by decide) wd_781 rfl rfl rfl (Nat.le_of_ble_eq_true rfl) dc_Mo_restart_16 (fun H locs hP hD hS => ?_)
  have hP : va_P D fq_cl ([(h, .inr (12, [.int (nI rm), .int (fq_b true), .int (nI ns), .ref aK, .ref aN, .int (nI iw), .int (nI ow), .int (fq_b ih), .int (fq_b oh), .ref aB, .int 0, .int 0, .int (fq_b cl), .int (fq_b fl), .ref aS, .int (nI tk), .ref aL, .ref aX, .int (nI md), .int (nI gi), .int (nI su), .int (nI ps), .int (nI cs)])), (aK, .inl (cI, 5, .inl fK)), (aN, .inl (cI, 25, .inl fN)), (aB, .inl (cI, 120, .inl fB)), (aS, .inl (cI, 120, .inl fS)), (aL, .inl (cI, 2300, .inl fL)), (aX, .inl (cI, 2300, .inl fX))]) _ := hP
  have hD : va_D A ([(h, .inr (12, [.int (nI rm), .int (fq_b true), .int (nI ns), .ref aK, .ref aN, .int (nI iw), .int (nI ow), .int (fq_b ih), .int (fq_b oh), .ref aB, .int 0, .int 0, .int (fq_b cl), .int (fq_b fl), .ref aS, .int (nI tk), .ref aL, .ref aX, .int (nI md), .int (nI gi), .int (nI su), .int (nI ps), .int (nI cs)])), (aK, .inl (cI, 5, .inl fK)), (aN, .inl (cI, 25, .inl fN)), (aB, .inl (cI, 120, .inl fB)), (aS, .inl (cI, 120, .inl fS)), (aL, .inl (cI, 2300, .inl fL)), (aX, .inl (cI, 2300, .inl fX))]) := hD
  refine lv_aload_n K.1 K.2.1 dc_Mo_restart_19 rfl (lv_at hl 0 rfl) ?_
  refine lv_iconst (v := 0) K.1 K.2.1 dc_Mo_restart_20 (by decide) ?_
  refine fq_put K hK cl_Mo hP hD hS 0 12 rfl (by decide) wd_782 rfl rfl rfl (Nat.le_of_ble_eq_true rfl) dc_Mo_restart_21 (fun H locs hP hD hS => ?_)
  have hP : va_P D fq_cl ([(h, .inr (12, [.int (nI rm), .int (fq_b true), .int (nI ns), .ref aK, .ref aN, .int (nI iw), .int (nI ow), .int (fq_b ih), .int (fq_b oh), .ref aB, .int 0, .int 0, .int 0, .int (fq_b fl), .ref aS, .int (nI tk), .ref aL, .ref aX, .int (nI md), .int (nI gi), .int (nI su), .int (nI ps), .int (nI cs)])), (aK, .inl (cI, 5, .inl fK)), (aN, .inl (cI, 25, .inl fN)), (aB, .inl (cI, 120, .inl fB)), (aS, .inl (cI, 120, .inl fS)), (aL, .inl (cI, 2300, .inl fL)), (aX, .inl (cI, 2300, .inl fX))]) _ := hP
  have hD : va_D A ([(h, .inr (12, [.int (nI rm), .int (fq_b true), .int (nI ns), .ref aK, .ref aN, .int (nI iw), .int (nI ow), .int (fq_b ih), .int (fq_b oh), .ref aB, .int 0, .int 0, .int 0, .int (fq_b fl), .ref aS, .int (nI tk), .ref aL, .ref aX, .int (nI md), .int (nI gi), .int (nI su), .int (nI ps), .int (nI cs)])), (aK, .inl (cI, 5, .inl fK)), (aN, .inl (cI, 25, .inl fN)), (aB, .inl (cI, 120, .inl fB)), (aS, .inl (cI, 120, .inl fS)), (aL, .inl (cI, 2300, .inl fL)), (aX, .inl (cI, 2300, .inl fX))]) := hD
  refine lv_aload_n K.1 K.2.1 dc_Mo_restart_24 rfl (lv_at hl 0 rfl) ?_
  refine lv_iconst (v := 0) K.1 K.2.1 dc_Mo_restart_25 (by decide) ?_
  refine fq_put K hK cl_Mo hP hD hS 0 13 rfl (by decide) wd_783 rfl rfl rfl (Nat.le_of_ble_eq_true rfl) dc_Mo_restart_26 (fun H locs hP hD hS => ?_)
  have hP : va_P D fq_cl ([(h, .inr (12, [.int (nI rm), .int (fq_b true), .int (nI ns), .ref aK, .ref aN, .int (nI iw), .int (nI ow), .int (fq_b ih), .int (fq_b oh), .ref aB, .int 0, .int 0, .int 0, .int 0, .ref aS, .int (nI tk), .ref aL, .ref aX, .int (nI md), .int (nI gi), .int (nI su), .int (nI ps), .int (nI cs)])), (aK, .inl (cI, 5, .inl fK)), (aN, .inl (cI, 25, .inl fN)), (aB, .inl (cI, 120, .inl fB)), (aS, .inl (cI, 120, .inl fS)), (aL, .inl (cI, 2300, .inl fL)), (aX, .inl (cI, 2300, .inl fX))]) _ := hP
  have hD : va_D A ([(h, .inr (12, [.int (nI rm), .int (fq_b true), .int (nI ns), .ref aK, .ref aN, .int (nI iw), .int (nI ow), .int (fq_b ih), .int (fq_b oh), .ref aB, .int 0, .int 0, .int 0, .int 0, .ref aS, .int (nI tk), .ref aL, .ref aX, .int (nI md), .int (nI gi), .int (nI su), .int (nI ps), .int (nI cs)])), (aK, .inl (cI, 5, .inl fK)), (aN, .inl (cI, 25, .inl fN)), (aB, .inl (cI, 120, .inl fB)), (aS, .inl (cI, 120, .inl fS)), (aL, .inl (cI, 2300, .inl fL)), (aX, .inl (cI, 2300, .inl fX))]) := hD
  refine lv_aload_n K.1 K.2.1 dc_Mo_restart_29 rfl (lv_at hl 0 rfl) ?_
  refine lv_iconst (v := 0) K.1 K.2.1 dc_Mo_restart_30 (by decide) ?_
  refine fq_put K hK cl_Mo hP hD hS 0 15 rfl (by decide) wd_785 rfl rfl rfl (Nat.le_of_ble_eq_true rfl) dc_Mo_restart_31 (fun H locs hP hD hS => ?_)
  have hP : va_P D fq_cl ([(h, .inr (12, [.int (nI rm), .int (fq_b true), .int (nI ns), .ref aK, .ref aN, .int (nI iw), .int (nI ow), .int (fq_b ih), .int (fq_b oh), .ref aB, .int 0, .int 0, .int 0, .int 0, .ref aS, .int 0, .ref aL, .ref aX, .int (nI md), .int (nI gi), .int (nI su), .int (nI ps), .int (nI cs)])), (aK, .inl (cI, 5, .inl fK)), (aN, .inl (cI, 25, .inl fN)), (aB, .inl (cI, 120, .inl fB)), (aS, .inl (cI, 120, .inl fS)), (aL, .inl (cI, 2300, .inl fL)), (aX, .inl (cI, 2300, .inl fX))]) _ := hP
  have hD : va_D A ([(h, .inr (12, [.int (nI rm), .int (fq_b true), .int (nI ns), .ref aK, .ref aN, .int (nI iw), .int (nI ow), .int (fq_b ih), .int (fq_b oh), .ref aB, .int 0, .int 0, .int 0, .int 0, .ref aS, .int 0, .ref aL, .ref aX, .int (nI md), .int (nI gi), .int (nI su), .int (nI ps), .int (nI cs)])), (aK, .inl (cI, 5, .inl fK)), (aN, .inl (cI, 25, .inl fN)), (aB, .inl (cI, 120, .inl fB)), (aS, .inl (cI, 120, .inl fS)), (aL, .inl (cI, 2300, .inl fL)), (aX, .inl (cI, 2300, .inl fX))]) := hD
  refine lv_aload_n K.1 K.2.1 dc_Mo_restart_34 rfl (lv_at hl 0 rfl) ?_
  refine lv_iconst (v := 0) K.1 K.2.1 dc_Mo_restart_35 (by decide) ?_
  refine fq_put K hK cl_Mo hP hD hS 0 18 rfl (by decide) wd_788 rfl rfl rfl (Nat.le_of_ble_eq_true rfl) dc_Mo_restart_36 (fun H locs hP hD hS => ?_)
  have hP : va_P D fq_cl ([(h, .inr (12, [.int (nI rm), .int (fq_b true), .int (nI ns), .ref aK, .ref aN, .int (nI iw), .int (nI ow), .int (fq_b ih), .int (fq_b oh), .ref aB, .int 0, .int 0, .int 0, .int 0, .ref aS, .int 0, .ref aL, .ref aX, .int 0, .int (nI gi), .int (nI su), .int (nI ps), .int (nI cs)])), (aK, .inl (cI, 5, .inl fK)), (aN, .inl (cI, 25, .inl fN)), (aB, .inl (cI, 120, .inl fB)), (aS, .inl (cI, 120, .inl fS)), (aL, .inl (cI, 2300, .inl fL)), (aX, .inl (cI, 2300, .inl fX))]) _ := hP
  have hD : va_D A ([(h, .inr (12, [.int (nI rm), .int (fq_b true), .int (nI ns), .ref aK, .ref aN, .int (nI iw), .int (nI ow), .int (fq_b ih), .int (fq_b oh), .ref aB, .int 0, .int 0, .int 0, .int 0, .ref aS, .int 0, .ref aL, .ref aX, .int 0, .int (nI gi), .int (nI su), .int (nI ps), .int (nI cs)])), (aK, .inl (cI, 5, .inl fK)), (aN, .inl (cI, 25, .inl fN)), (aB, .inl (cI, 120, .inl fB)), (aS, .inl (cI, 120, .inl fS)), (aL, .inl (cI, 2300, .inl fL)), (aX, .inl (cI, 2300, .inl fX))]) := hD
  refine lv_aload_n K.1 K.2.1 dc_Mo_restart_39 rfl (lv_at hl 0 rfl) ?_
  refine lv_iconst (v := 0) K.1 K.2.1 dc_Mo_restart_40 (by decide) ?_
  refine fq_put K hK cl_Mo hP hD hS 0 19 rfl (by decide) wd_789 rfl rfl rfl (Nat.le_of_ble_eq_true rfl) dc_Mo_restart_41 (fun H locs hP hD hS => ?_)
  have hP : va_P D fq_cl ([(h, .inr (12, [.int (nI rm), .int (fq_b true), .int (nI ns), .ref aK, .ref aN, .int (nI iw), .int (nI ow), .int (fq_b ih), .int (fq_b oh), .ref aB, .int 0, .int 0, .int 0, .int 0, .ref aS, .int 0, .ref aL, .ref aX, .int 0, .int 0, .int (nI su), .int (nI ps), .int (nI cs)])), (aK, .inl (cI, 5, .inl fK)), (aN, .inl (cI, 25, .inl fN)), (aB, .inl (cI, 120, .inl fB)), (aS, .inl (cI, 120, .inl fS)), (aL, .inl (cI, 2300, .inl fL)), (aX, .inl (cI, 2300, .inl fX))]) _ := hP
  have hD : va_D A ([(h, .inr (12, [.int (nI rm), .int (fq_b true), .int (nI ns), .ref aK, .ref aN, .int (nI iw), .int (nI ow), .int (fq_b ih), .int (fq_b oh), .ref aB, .int 0, .int 0, .int 0, .int 0, .ref aS, .int 0, .ref aL, .ref aX, .int 0, .int 0, .int (nI su), .int (nI ps), .int (nI cs)])), (aK, .inl (cI, 5, .inl fK)), (aN, .inl (cI, 25, .inl fN)), (aB, .inl (cI, 120, .inl fB)), (aS, .inl (cI, 120, .inl fS)), (aL, .inl (cI, 2300, .inl fL)), (aX, .inl (cI, 2300, .inl fX))]) := hD
  refine lv_aload_n K.1 K.2.1 dc_Mo_restart_44 rfl (lv_at hl 0 rfl) ?_
  refine lv_iconst (v := 0) K.1 K.2.1 dc_Mo_restart_45 (by decide) ?_
  refine fq_put K hK cl_Mo hP hD hS 0 20 rfl (by decide) wd_790 rfl rfl rfl (Nat.le_of_ble_eq_true rfl) dc_Mo_restart_46 (fun H locs hP hD hS => ?_)
  have hP : va_P D fq_cl ([(h, .inr (12, [.int (nI rm), .int (fq_b true), .int (nI ns), .ref aK, .ref aN, .int (nI iw), .int (nI ow), .int (fq_b ih), .int (fq_b oh), .ref aB, .int 0, .int 0, .int 0, .int 0, .ref aS, .int 0, .ref aL, .ref aX, .int 0, .int 0, .int 0, .int (nI ps), .int (nI cs)])), (aK, .inl (cI, 5, .inl fK)), (aN, .inl (cI, 25, .inl fN)), (aB, .inl (cI, 120, .inl fB)), (aS, .inl (cI, 120, .inl fS)), (aL, .inl (cI, 2300, .inl fL)), (aX, .inl (cI, 2300, .inl fX))]) _ := hP
  have hD : va_D A ([(h, .inr (12, [.int (nI rm), .int (fq_b true), .int (nI ns), .ref aK, .ref aN, .int (nI iw), .int (nI ow), .int (fq_b ih), .int (fq_b oh), .ref aB, .int 0, .int 0, .int 0, .int 0, .ref aS, .int 0, .ref aL, .ref aX, .int 0, .int 0, .int 0, .int (nI ps), .int (nI cs)])), (aK, .inl (cI, 5, .inl fK)), (aN, .inl (cI, 25, .inl fN)), (aB, .inl (cI, 120, .inl fB)), (aS, .inl (cI, 120, .inl fS)), (aL, .inl (cI, 2300, .inl fL)), (aX, .inl (cI, 2300, .inl fX))]) := hD
  refine lv_aload_n K.1 K.2.1 dc_Mo_restart_49 rfl (lv_at hl 0 rfl) ?_
  refine lv_iconst (v := 1) K.1 K.2.1 dc_Mo_restart_50 (by decide) ?_
  refine fq_put K hK cl_Mo hP hD hS 0 21 rfl (by decide) wd_791 rfl rfl rfl (Nat.le_of_ble_eq_true rfl) dc_Mo_restart_51 (fun H locs hP hD hS => ?_)
  have hP : va_P D fq_cl ([(h, .inr (12, [.int (nI rm), .int (fq_b true), .int (nI ns), .ref aK, .ref aN, .int (nI iw), .int (nI ow), .int (fq_b ih), .int (fq_b oh), .ref aB, .int 0, .int 0, .int 0, .int 0, .ref aS, .int 0, .ref aL, .ref aX, .int 0, .int 0, .int 0, .int 1, .int (nI cs)])), (aK, .inl (cI, 5, .inl fK)), (aN, .inl (cI, 25, .inl fN)), (aB, .inl (cI, 120, .inl fB)), (aS, .inl (cI, 120, .inl fS)), (aL, .inl (cI, 2300, .inl fL)), (aX, .inl (cI, 2300, .inl fX))]) _ := hP
  have hD : va_D A ([(h, .inr (12, [.int (nI rm), .int (fq_b true), .int (nI ns), .ref aK, .ref aN, .int (nI iw), .int (nI ow), .int (fq_b ih), .int (fq_b oh), .ref aB, .int 0, .int 0, .int 0, .int 0, .ref aS, .int 0, .ref aL, .ref aX, .int 0, .int 0, .int 0, .int 1, .int (nI cs)])), (aK, .inl (cI, 5, .inl fK)), (aN, .inl (cI, 25, .inl fN)), (aB, .inl (cI, 120, .inl fB)), (aS, .inl (cI, 120, .inl fS)), (aL, .inl (cI, 2300, .inl fL)), (aX, .inl (cI, 2300, .inl fX))]) := hD
  refine lv_aload_n K.1 K.2.1 dc_Mo_restart_54 rfl (lv_at hl 0 rfl) ?_
  refine lv_iconst (v := 1) K.1 K.2.1 dc_Mo_restart_55 (by decide) ?_
  refine fq_put K hK cl_Mo hP hD hS 0 22 rfl (by decide) wd_792 rfl rfl rfl (Nat.le_of_ble_eq_true rfl) dc_Mo_restart_56 (fun H locs hP hD hS => ?_)
  have hP : va_P D fq_cl ([(h, .inr (12, [.int (nI rm), .int (fq_b true), .int (nI ns), .ref aK, .ref aN, .int (nI iw), .int (nI ow), .int (fq_b ih), .int (fq_b oh), .ref aB, .int 0, .int 0, .int 0, .int 0, .ref aS, .int 0, .ref aL, .ref aX, .int 0, .int 0, .int 0, .int 1, .int 1])), (aK, .inl (cI, 5, .inl fK)), (aN, .inl (cI, 25, .inl fN)), (aB, .inl (cI, 120, .inl fB)), (aS, .inl (cI, 120, .inl fS)), (aL, .inl (cI, 2300, .inl fL)), (aX, .inl (cI, 2300, .inl fX))]) _ := hP
  have hD : va_D A ([(h, .inr (12, [.int (nI rm), .int (fq_b true), .int (nI ns), .ref aK, .ref aN, .int (nI iw), .int (nI ow), .int (fq_b ih), .int (fq_b oh), .ref aB, .int 0, .int 0, .int 0, .int 0, .ref aS, .int 0, .ref aL, .ref aX, .int 0, .int 0, .int 0, .int 1, .int 1])), (aK, .inl (cI, 5, .inl fK)), (aN, .inl (cI, 25, .inl fN)), (aB, .inl (cI, 120, .inl fB)), (aS, .inl (cI, 120, .inl fS)), (aL, .inl (cI, 2300, .inl fL)), (aX, .inl (cI, 2300, .inl fX))]) := hD
  refine lv_iconst (v := 1) K.1 K.2.1 dc_Mo_restart_59 (by decide) ?_
  exact fq_retz K hret hlk hS hP hD (by first | exact Or.inl rfl | exact Or.inr rfl) ⟨rfl, rfl⟩ dc_Mo_restart_60 (Nat.le_of_ble_eq_true rfl) (Nat.le_of_ble_eq_true rfl)
set_option maxHeartbeats 4000000 in
set_option maxRecDepth 100000 in
theorem ct_Mo_start (l : Launch) (D : va_G) (cI cO : ClassId) (tE : Nat) (h aK aN aB aS aL aX : Nat) (rm : Nat) (sd : Bool) (ns : Nat) (iw : Nat) (ow : Nat) (ih : Bool) (oh : Bool) (ca : Nat) (us : Nat) (cl : Bool) (fl : Bool) (tk : Nat) (md : Nat) (gi : Nat) (su : Nat) (ps : Nat) (cs : Nat) (fK fN fB fS fL fX : Nat → Int32)  (sz : Nat) : Met l my_Mo_start (fq_w my_Mo_start cb_Mo_start 1 (some .boolean)) ({ frames := 1, cells := 0, slots := 0, locals := 20 }) (va_Pc ([.ref h]) (fq_Pre D cI cO tE sz ([(h, .inr (12, [.int (nI rm), .int (fq_b sd), .int (nI ns), .ref aK, .ref aN, .int (nI iw), .int (nI ow), .int (fq_b ih), .int (fq_b oh), .ref aB, .int (nI ca), .int (nI us), .int (fq_b cl), .int (fq_b fl), .ref aS, .int (nI tk), .ref aL, .ref aX, .int (nI md), .int (nI gi), .int (nI su), .int (nI ps), .int (nI cs)])), (aK, .inl (cI, 5, .inl fK)), (aN, .inl (cI, 25, .inl fN)), (aB, .inl (cI, 120, .inl fB)), (aS, .inl (cI, 120, .inl fS)), (aL, .inl (cI, 2300, .inl fL)), (aX, .inl (cI, 2300, .inl fX))]))) (va_Qi (S := va_W) (fun r w => if sd = true then r = 0 ∧ w = [(h, .inr (12, [.int (nI rm), .int (fq_b sd), .int (nI ns), .ref aK, .ref aN, .int (nI iw), .int (nI ow), .int (fq_b ih), .int (fq_b oh), .ref aB, .int (nI ca), .int (nI us), .int (fq_b cl), .int (fq_b fl), .ref aS, .int (nI tk), .ref aL, .ref aX, .int (nI md), .int (nI gi), .int (nI su), .int (nI ps), .int (nI cs)])), (aK, .inl (cI, 5, .inl fK)), (aN, .inl (cI, 25, .inl fN)), (aB, .inl (cI, 120, .inl fB)), (aS, .inl (cI, 120, .inl fS)), (aL, .inl (cI, 2300, .inl fL)), (aX, .inl (cI, 2300, .inl fX))] else r = 1 ∧ w = [(h, .inr (12, [.int (nI rm), .int (fq_b true), .int (nI ns), .ref aK, .ref aN, .int (nI iw), .int (nI ow), .int (fq_b ih), .int (fq_b oh), .ref aB, .int (nI 0), .int (nI 0), .int (fq_b false), .int (fq_b false), .ref aS, .int (nI 0), .ref aL, .ref aX, .int (nI 0), .int (nI 0), .int (nI 0), .int (nI 1), .int (nI 1)])), (aK, .inl (cI, 5, .inl fK)), (aN, .inl (cI, 25, .inl fN)), (aB, .inl (cI, 120, .inl fB)), (aS, .inl (cI, 120, .inl fS)), (aL, .inl (cI, 2300, .inl fL)), (aX, .inl (cI, 2300, .inl fX))]) (fq_Bw D (va_A ([(h, .inr (12, [.int (nI rm), .int (fq_b sd), .int (nI ns), .ref aK, .ref aN, .int (nI iw), .int (nI ow), .int (fq_b ih), .int (fq_b oh), .ref aB, .int (nI ca), .int (nI us), .int (fq_b cl), .int (fq_b fl), .ref aS, .int (nI tk), .ref aL, .ref aX, .int (nI md), .int (nI gi), .int (nI su), .int (nI ps), .int (nI cs)])), (aK, .inl (cI, 5, .inl fK)), (aN, .inl (cI, 25, .inl fN)), (aB, .inl (cI, 120, .inl fB)), (aS, .inl (cI, 120, .inl fS)), (aL, .inl (cI, 2300, .inl fL)), (aX, .inl (cI, 2300, .inl fX))]) sz)) (va_A ([(h, .inr (12, [.int (nI rm), .int (fq_b sd), .int (nI ns), .ref aK, .ref aN, .int (nI iw), .int (nI ow), .int (fq_b ih), .int (fq_b oh), .ref aB, .int (nI ca), .int (nI us), .int (fq_b cl), .int (fq_b fl), .ref aS, .int (nI tk), .ref aL, .ref aX, .int (nI md), .int (nI gi), .int (nI su), .int (nI ps), .int (nI cs)])), (aK, .inl (cI, 5, .inl fK)), (aN, .inl (cI, 25, .inl fN)), (aB, .inl (cI, 120, .inl fB)), (aS, .inl (cI, 120, .inl fS)), (aL, .inl (cI, 2300, .inl fL)), (aX, .inl (cI, 2300, .inl fX))]) sz)) (0) (0) (va_A ([(h, .inr (12, [.int (nI rm), .int (fq_b sd), .int (nI ns), .ref aK, .ref aN, .int (nI iw), .int (nI ow), .int (fq_b ih), .int (fq_b oh), .ref aB, .int (nI ca), .int (nI us), .int (fq_b cl), .int (fq_b fl), .ref aS, .int (nI tk), .ref aL, .ref aX, .int (nI md), .int (nI gi), .int (nI su), .int (nI ps), .int (nI cs)])), (aK, .inl (cI, 5, .inl fK)), (aN, .inl (cI, 25, .inl fN)), (aB, .inl (cI, 120, .inl fB)), (aS, .inl (cI, 120, .inl fS)), (aL, .inl (cI, 2300, .inl fL)), (aX, .inl (cI, 2300, .inl fX))]) sz) := by
  refine fq_open (by decide +kernel) (Nat.le_of_ble_eq_true rfl) ?_
  intro pg ev s mt below meth cd ls K hret hlk hin hK hZ hP hD hA hS hl
  generalize va_A ([(h, .inr (12, [.int (nI rm), .int (fq_b sd), .int (nI ns), .ref aK, .ref aN, .int (nI iw), .int (nI ow), .int (fq_b ih), .int (fq_b oh), .ref aB, .int (nI ca), .int (nI us), .int (fq_b cl), .int (fq_b fl), .ref aS, .int (nI tk), .ref aL, .ref aX, .int (nI md), .int (nI gi), .int (nI su), .int (nI ps), .int (nI cs)])), (aK, .inl (cI, 5, .inl fK)), (aN, .inl (cI, 25, .inl fN)), (aB, .inl (cI, 120, .inl fB)), (aS, .inl (cI, 120, .inl fS)), (aL, .inl (cI, 2300, .inl fL)), (aX, .inl (cI, 2300, .inl fX))]) sz = A at hZ hD hA hS ⊢
  have K : fq_Ctx pg mt cd cb_Mo_start 1 s _ cn_Mo := K
  have hl : lv_has ls 1 [(0, .ref h)] := hl
  refine lv_aload_n K.1 K.2.1 dc_Mo_start_0 rfl (lv_at hl 0 rfl) ?_
  refine fq_get K hK cl_Mo hP 0 1 rfl (by decide) wd_771 rfl dc_Mo_start_1 ?_
  refine lv_if_eq (tgt := 9) K.1 K.2.1 dc_Mo_start_4 rfl (fun b4 => ?_) (fun b4 => ?_)
  · skip
    have hs := fq_b0 b4
    refine lv_aload_n K.1 K.2.1 dc_Mo_start_9 rfl (lv_at hl 0 rfl) ?_
    refine lv_iconst (v := 1) K.1 K.2.1 dc_Mo_start_10 (by decide) ?_
    refine fq_put K hK cl_Mo hP hD hS 0 1 rfl (by decide) wd_771 rfl rfl rfl (Nat.le_of_ble_eq_true rfl) dc_Mo_start_11 (fun H locs hP hD hS => ?_)
    have hP : va_P D fq_cl ([(h, .inr (12, [.int (nI rm), .int 1, .int (nI ns), .ref aK, .ref aN, .int (nI iw), .int (nI ow), .int (fq_b ih), .int (fq_b oh), .ref aB, .int (nI ca), .int (nI us), .int (fq_b cl), .int (fq_b fl), .ref aS, .int (nI tk), .ref aL, .ref aX, .int (nI md), .int (nI gi), .int (nI su), .int (nI ps), .int (nI cs)])), (aK, .inl (cI, 5, .inl fK)), (aN, .inl (cI, 25, .inl fN)), (aB, .inl (cI, 120, .inl fB)), (aS, .inl (cI, 120, .inl fS)), (aL, .inl (cI, 2300, .inl fL)), (aX, .inl (cI, 2300, .inl fX))]) _ := hP
    have hD : va_D A ([(h, .inr (12, [.int (nI rm), .int 1, .int (nI ns), .ref aK, .ref aN, .int (nI iw), .int (nI ow), .int (fq_b ih), .int (fq_b oh), .ref aB, .int (nI ca), .int (nI us), .int (fq_b cl), .int (fq_b fl), .ref aS, .int (nI tk), .ref aL, .ref aX, .int (nI md), .int (nI gi), .int (nI su), .int (nI ps), .int (nI cs)])), (aK, .inl (cI, 5, .inl fK)), (aN, .inl (cI, 25, .inl fN)), (aB, .inl (cI, 120, .inl fB)), (aS, .inl (cI, 120, .inl fS)), (aL, .inl (cI, 2300, .inl fL)), (aX, .inl (cI, 2300, .inl fX))]) := hD
    have hP : va_P D fq_cl ([(h, .inr (12, [.int (nI rm), .int (fq_b true), .int (nI ns), .ref aK, .ref aN, .int (nI iw), .int (nI ow), .int (fq_b ih), .int (fq_b oh), .ref aB, .int (nI ca), .int (nI us), .int (fq_b cl), .int (fq_b fl), .ref aS, .int (nI tk), .ref aL, .ref aX, .int (nI md), .int (nI gi), .int (nI su), .int (nI ps), .int (nI cs)])), (aK, .inl (cI, 5, .inl fK)), (aN, .inl (cI, 25, .inl fN)), (aB, .inl (cI, 120, .inl fB)), (aS, .inl (cI, 120, .inl fS)), (aL, .inl (cI, 2300, .inl fL)), (aX, .inl (cI, 2300, .inl fX))]) _ := hP
    have hD : va_D A ([(h, .inr (12, [.int (nI rm), .int (fq_b true), .int (nI ns), .ref aK, .ref aN, .int (nI iw), .int (nI ow), .int (fq_b ih), .int (fq_b oh), .ref aB, .int (nI ca), .int (nI us), .int (fq_b cl), .int (fq_b fl), .ref aS, .int (nI tk), .ref aL, .ref aX, .int (nI md), .int (nI gi), .int (nI su), .int (nI ps), .int (nI cs)])), (aK, .inl (cI, 5, .inl fK)), (aN, .inl (cI, 25, .inl fN)), (aB, .inl (cI, 120, .inl fB)), (aS, .inl (cI, 120, .inl fS)), (aL, .inl (cI, 2300, .inl fL)), (aX, .inl (cI, 2300, .inl fX))]) := hD
    refine lv_aload_n K.1 K.2.1 dc_Mo_start_14 rfl (lv_at hl 0 rfl) ?_
    have hc := fq_cut.of (wc := [(h, .inr (12, [.int (nI rm), .int (fq_b true), .int (nI ns), .ref aK, .ref aN, .int (nI iw), .int (nI ow), .int (fq_b ih), .int (fq_b oh), .ref aB, .int (nI ca), .int (nI us), .int (fq_b cl), .int (fq_b fl), .ref aS, .int (nI tk), .ref aL, .ref aX, .int (nI md), .int (nI gi), .int (nI su), .int (nI ps), .int (nI cs)])), (aK, .inl (cI, 5, .inl fK)), (aN, .inl (cI, 25, .inl fN)), (aB, .inl (cI, 120, .inl fB)), (aS, .inl (cI, 120, .inl fS)), (aL, .inl (cI, 2300, .inl fL)), (aX, .inl (cI, 2300, .inl fX))]) hP hD hS hA [0, 1, 2, 3, 4, 5, 6] (by decide) rfl
    refine fq_ci (wr := []) (fq_rV K hK hZ hS hc (ct_Mo_restart1 l D cI cO tE h aK aN aB aS aL aX rm sd ns iw ow ih oh ca us cl fl tk md gi su ps cs fK fN fB fS fL fX _) yk_Mo_restart wd_907 wd_908 wd_906 0 rfl rfl rfl ⟨⟨rfl, rfl⟩, ⟨Nat.le_of_ble_eq_true rfl, Nat.le_of_ble_eq_true rfl⟩, ⟨Nat.le_of_ble_eq_true rfl, Nat.le_of_ble_eq_true rfl⟩⟩ hl.1 rfl (Nat.le_of_ble_eq_true rfl) dc_Mo_start_15) hP hD hS hc [0, 1, 2, 3, 4, 5, 6] [] rfl rfl (by decide) (by decide) (fun r1 w H locs hw1 hP hD hS => ?_)
    obtain ⟨rfl, rfl⟩ := hw1
    have hP : va_P D fq_cl ([(h, .inr (12, [.int (nI rm), .int (fq_b true), .int (nI ns), .ref aK, .ref aN, .int (nI iw), .int (nI ow), .int (fq_b ih), .int (fq_b oh), .ref aB, .int (nI 0), .int (nI 0), .int (fq_b false), .int (fq_b false), .ref aS, .int (nI 0), .ref aL, .ref aX, .int (nI 0), .int (nI 0), .int (nI 0), .int (nI 1), .int (nI 1)])), (aK, .inl (cI, 5, .inl fK)), (aN, .inl (cI, 25, .inl fN)), (aB, .inl (cI, 120, .inl fB)), (aS, .inl (cI, 120, .inl fS)), (aL, .inl (cI, 2300, .inl fL)), (aX, .inl (cI, 2300, .inl fX))]) _ := hP
    have hD : va_D A ([(h, .inr (12, [.int (nI rm), .int (fq_b true), .int (nI ns), .ref aK, .ref aN, .int (nI iw), .int (nI ow), .int (fq_b ih), .int (fq_b oh), .ref aB, .int (nI 0), .int (nI 0), .int (fq_b false), .int (fq_b false), .ref aS, .int (nI 0), .ref aL, .ref aX, .int (nI 0), .int (nI 0), .int (nI 0), .int (nI 1), .int (nI 1)])), (aK, .inl (cI, 5, .inl fK)), (aN, .inl (cI, 25, .inl fN)), (aB, .inl (cI, 120, .inl fB)), (aS, .inl (cI, 120, .inl fS)), (aL, .inl (cI, 2300, .inl fL)), (aX, .inl (cI, 2300, .inl fX))]) := hD
    exact fq_retz K hret hlk hS hP hD (by first | exact Or.inl rfl | exact Or.inr rfl) (by rw [if_neg (by rw [hs]; decide)]; exact ⟨rfl, rfl⟩) dc_Mo_start_18 (Nat.le_of_ble_eq_true rfl) (Nat.le_of_ble_eq_true rfl)
  · skip
    have hs := fq_b1 b4
    refine lv_iconst (v := 0) K.1 K.2.1 dc_Mo_start_7 (by decide) ?_
    exact fq_retz K hret hlk hS hP hD (by first | exact Or.inl rfl | exact Or.inr rfl) (by rw [if_pos hs]; exact ⟨rfl, rfl⟩) dc_Mo_start_8 (Nat.le_of_ble_eq_true rfl) (Nat.le_of_ble_eq_true rfl)
set_option maxHeartbeats 4000000 in
set_option maxRecDepth 100000 in
theorem ct_Mo_waiting (l : Launch) (D : va_G) (cI cO : ClassId) (tE : Nat) (h aK aN aB aS aL aX : Nat) (rm : Nat) (sd : Bool) (ns : Nat) (iw : Nat) (ow : Nat) (ih : Bool) (oh : Bool) (ca : Nat) (us : Nat) (cl : Bool) (fl : Bool) (tk : Nat) (md : Nat) (gi : Nat) (su : Nat) (ps : Nat) (cs : Nat) (fK fN fB fS fL fX : Nat → Int32) (x : Int32) (h1 : us ≤ ca) (h2 : gi ≤ md) (h3 : su ≤ gi) (sz : Nat) : Met l my_Mo_waiting (fq_w my_Mo_waiting cb_Mo_waiting 2 (some .int)) ({ frames := 0, cells := 0, slots := 0, locals := 0 }) (va_Pc ([.ref h, .int x]) (fq_Pre D cI cO tE sz ([(h, .inr (12, [.int (nI rm), .int (fq_b sd), .int (nI ns), .ref aK, .ref aN, .int (nI iw), .int (nI ow), .int (fq_b ih), .int (fq_b oh), .ref aB, .int (nI ca), .int (nI us), .int (fq_b cl), .int (fq_b fl), .ref aS, .int (nI tk), .ref aL, .ref aX, .int (nI md), .int (nI gi), .int (nI su), .int (nI ps), .int (nI cs)])), (aK, .inl (cI, 5, .inl fK)), (aN, .inl (cI, 25, .inl fN)), (aB, .inl (cI, 120, .inl fB)), (aS, .inl (cI, 120, .inl fS)), (aL, .inl (cI, 2300, .inl fL)), (aX, .inl (cI, 2300, .inl fX))]))) (va_Qi (S := va_W) (fun r w => w = [(h, .inr (12, [.int (nI rm), .int (fq_b sd), .int (nI ns), .ref aK, .ref aN, .int (nI iw), .int (nI ow), .int (fq_b ih), .int (fq_b oh), .ref aB, .int (nI ca), .int (nI us), .int (fq_b cl), .int (fq_b fl), .ref aS, .int (nI tk), .ref aL, .ref aX, .int (nI md), .int (nI gi), .int (nI su), .int (nI ps), .int (nI cs)])), (aK, .inl (cI, 5, .inl fK)), (aN, .inl (cI, 25, .inl fN)), (aB, .inl (cI, 120, .inl fB)), (aS, .inl (cI, 120, .inl fS)), (aL, .inl (cI, 2300, .inl fL)), (aX, .inl (cI, 2300, .inl fX))] ∧ r = wt_r x (ca - us) (md - gi) (gi - su) su) (fq_Bw D (va_A ([(h, .inr (12, [.int (nI rm), .int (fq_b sd), .int (nI ns), .ref aK, .ref aN, .int (nI iw), .int (nI ow), .int (fq_b ih), .int (fq_b oh), .ref aB, .int (nI ca), .int (nI us), .int (fq_b cl), .int (fq_b fl), .ref aS, .int (nI tk), .ref aL, .ref aX, .int (nI md), .int (nI gi), .int (nI su), .int (nI ps), .int (nI cs)])), (aK, .inl (cI, 5, .inl fK)), (aN, .inl (cI, 25, .inl fN)), (aB, .inl (cI, 120, .inl fB)), (aS, .inl (cI, 120, .inl fS)), (aL, .inl (cI, 2300, .inl fL)), (aX, .inl (cI, 2300, .inl fX))]) sz)) (va_A ([(h, .inr (12, [.int (nI rm), .int (fq_b sd), .int (nI ns), .ref aK, .ref aN, .int (nI iw), .int (nI ow), .int (fq_b ih), .int (fq_b oh), .ref aB, .int (nI ca), .int (nI us), .int (fq_b cl), .int (fq_b fl), .ref aS, .int (nI tk), .ref aL, .ref aX, .int (nI md), .int (nI gi), .int (nI su), .int (nI ps), .int (nI cs)])), (aK, .inl (cI, 5, .inl fK)), (aN, .inl (cI, 25, .inl fN)), (aB, .inl (cI, 120, .inl fB)), (aS, .inl (cI, 120, .inl fS)), (aL, .inl (cI, 2300, .inl fL)), (aX, .inl (cI, 2300, .inl fX))]) sz)) (0) (0) (va_A ([(h, .inr (12, [.int (nI rm), .int (fq_b sd), .int (nI ns), .ref aK, .ref aN, .int (nI iw), .int (nI ow), .int (fq_b ih), .int (fq_b oh), .ref aB, .int (nI ca), .int (nI us), .int (fq_b cl), .int (fq_b fl), .ref aS, .int (nI tk), .ref aL, .ref aX, .int (nI md), .int (nI gi), .int (nI su), .int (nI ps), .int (nI cs)])), (aK, .inl (cI, 5, .inl fK)), (aN, .inl (cI, 25, .inl fN)), (aB, .inl (cI, 120, .inl fB)), (aS, .inl (cI, 120, .inl fS)), (aL, .inl (cI, 2300, .inl fL)), (aX, .inl (cI, 2300, .inl fX))]) sz) := by
  refine fq_open (by decide +kernel) (Nat.le_of_ble_eq_true rfl) ?_
  intro pg ev s mt below meth cd ls K hret hlk hin hK hZ hP hD hA hS hl
  generalize va_A ([(h, .inr (12, [.int (nI rm), .int (fq_b sd), .int (nI ns), .ref aK, .ref aN, .int (nI iw), .int (nI ow), .int (fq_b ih), .int (fq_b oh), .ref aB, .int (nI ca), .int (nI us), .int (fq_b cl), .int (fq_b fl), .ref aS, .int (nI tk), .ref aL, .ref aX, .int (nI md), .int (nI gi), .int (nI su), .int (nI ps), .int (nI cs)])), (aK, .inl (cI, 5, .inl fK)), (aN, .inl (cI, 25, .inl fN)), (aB, .inl (cI, 120, .inl fB)), (aS, .inl (cI, 120, .inl fS)), (aL, .inl (cI, 2300, .inl fL)), (aX, .inl (cI, 2300, .inl fX))]) sz = A at hZ hD hA hS ⊢
  have K : fq_Ctx pg mt cd cb_Mo_waiting 2 s _ cn_Mo := K
  have hl : lv_has ls 2 [(0, .ref h), (1, .int x)] := hl
  refine lv_iload_n K.1 K.2.1 dc_Mo_waiting_0 rfl (lv_at hl 1 rfl) ?_
  refine lv_if_ne (tgt := 16) K.1 K.2.1 dc_Mo_waiting_1 rfl (fun b1 => ?_) (fun b1 => ?_)
  · skip
    refine lv_iload_n K.1 K.2.1 dc_Mo_waiting_16 rfl (lv_at hl 1 rfl) ?_
    refine lv_iconst (v := 1) K.1 K.2.1 dc_Mo_waiting_17 (by decide) ?_
    refine lv_icmp_ne (tgt := 33) K.1 K.2.1 dc_Mo_waiting_18 rfl (fun b18 => ?_) (fun b18 => ?_)
    · skip
      refine lv_iload_n K.1 K.2.1 dc_Mo_waiting_33 rfl (lv_at hl 1 rfl) ?_
      refine lv_iconst (v := 2) K.1 K.2.1 dc_Mo_waiting_34 (by decide) ?_
      refine lv_icmp_ne (tgt := 50) K.1 K.2.1 dc_Mo_waiting_35 rfl (fun b35 => ?_) (fun b35 => ?_)
      · skip
        refine lv_iload_n K.1 K.2.1 dc_Mo_waiting_50 rfl (lv_at hl 1 rfl) ?_
        refine lv_iconst (v := 3) K.1 K.2.1 dc_Mo_waiting_51 (by decide) ?_
        refine lv_icmp_ne (tgt := 62) K.1 K.2.1 dc_Mo_waiting_52 rfl (fun b52 => ?_) (fun b52 => ?_)
        · skip
          refine lv_iconst (v := (-1)) K.1 K.2.1 dc_Mo_waiting_62 (by decide) ?_
          exact fq_reti K hret hlk hS hP hD ⟨rfl, by unfold wt_r; first | rw [if_pos b1] | rw [if_neg b1, if_pos b18] | rw [if_neg b1, if_neg b18, if_pos b35] | rw [if_neg b1, if_neg b18, if_neg b35, if_pos b52] | rw [if_neg b1, if_neg b18, if_neg b35, if_neg b52]⟩ dc_Mo_waiting_63 (Nat.le_of_ble_eq_true rfl) (Nat.le_of_ble_eq_true rfl)
        · skip
          refine lv_aload_n K.1 K.2.1 dc_Mo_waiting_55 rfl (lv_at hl 0 rfl) ?_
          refine fq_get K hK cl_Mo hP 0 20 rfl (by decide) wd_790 rfl dc_Mo_waiting_56 ?_
          refine lv_goto (tgt := 63) K.1 K.2.1 dc_Mo_waiting_59 rfl ?_
          exact fq_reti K hret hlk hS hP hD ⟨rfl, by unfold wt_r; first | rw [if_pos b1] | rw [if_neg b1, if_pos b18] | rw [if_neg b1, if_neg b18, if_pos b35] | rw [if_neg b1, if_neg b18, if_neg b35, if_pos b52] | rw [if_neg b1, if_neg b18, if_neg b35, if_neg b52]⟩ dc_Mo_waiting_63 (Nat.le_of_ble_eq_true rfl) (Nat.le_of_ble_eq_true rfl)
      · skip
        refine lv_aload_n K.1 K.2.1 dc_Mo_waiting_38 rfl (lv_at hl 0 rfl) ?_
        refine fq_get K hK cl_Mo hP 0 19 rfl (by decide) wd_789 rfl dc_Mo_waiting_39 ?_
        refine lv_aload_n K.1 K.2.1 dc_Mo_waiting_42 rfl (lv_at hl 0 rfl) ?_
        refine fq_get K hK cl_Mo hP 0 20 rfl (by decide) wd_790 rfl dc_Mo_waiting_43 ?_
        refine lv_isub K.1 K.2.1 dc_Mo_waiting_46 ?_
        refine fq_asi (y := nI (gi - su)) (pk_sub (by omega)) ?_
        refine lv_goto (tgt := 63) K.1 K.2.1 dc_Mo_waiting_47 rfl ?_
        exact fq_reti K hret hlk hS hP hD ⟨rfl, by unfold wt_r; first | rw [if_pos b1] | rw [if_neg b1, if_pos b18] | rw [if_neg b1, if_neg b18, if_pos b35] | rw [if_neg b1, if_neg b18, if_neg b35, if_pos b52] | rw [if_neg b1, if_neg b18, if_neg b35, if_neg b52]⟩ dc_Mo_waiting_63 (Nat.le_of_ble_eq_true rfl) (Nat.le_of_ble_eq_true rfl)
    · skip
      refine lv_aload_n K.1 K.2.1 dc_Mo_waiting_21 rfl (lv_at hl 0 rfl) ?_
      refine fq_get K hK cl_Mo hP 0 18 rfl (by decide) wd_788 rfl dc_Mo_waiting_22 ?_
      refine lv_aload_n K.1 K.2.1 dc_Mo_waiting_25 rfl (lv_at hl 0 rfl) ?_
      refine fq_get K hK cl_Mo hP 0 19 rfl (by decide) wd_789 rfl dc_Mo_waiting_26 ?_
      refine lv_isub K.1 K.2.1 dc_Mo_waiting_29 ?_
      refine fq_asi (y := nI (md - gi)) (pk_sub (by omega)) ?_
      refine lv_goto (tgt := 63) K.1 K.2.1 dc_Mo_waiting_30 rfl ?_
      exact fq_reti K hret hlk hS hP hD ⟨rfl, by unfold wt_r; first | rw [if_pos b1] | rw [if_neg b1, if_pos b18] | rw [if_neg b1, if_neg b18, if_pos b35] | rw [if_neg b1, if_neg b18, if_neg b35, if_pos b52] | rw [if_neg b1, if_neg b18, if_neg b35, if_neg b52]⟩ dc_Mo_waiting_63 (Nat.le_of_ble_eq_true rfl) (Nat.le_of_ble_eq_true rfl)
  · skip
    refine lv_aload_n K.1 K.2.1 dc_Mo_waiting_4 rfl (lv_at hl 0 rfl) ?_
    refine fq_get K hK cl_Mo hP 0 10 rfl (by decide) wd_780 rfl dc_Mo_waiting_5 ?_
    refine lv_aload_n K.1 K.2.1 dc_Mo_waiting_8 rfl (lv_at hl 0 rfl) ?_
    refine fq_get K hK cl_Mo hP 0 11 rfl (by decide) wd_781 rfl dc_Mo_waiting_9 ?_
    refine lv_isub K.1 K.2.1 dc_Mo_waiting_12 ?_
    refine fq_asi (y := nI (ca - us)) (pk_sub (by omega)) ?_
    refine lv_goto (tgt := 63) K.1 K.2.1 dc_Mo_waiting_13 rfl ?_
    exact fq_reti K hret hlk hS hP hD ⟨rfl, by unfold wt_r; first | rw [if_pos b1] | rw [if_neg b1, if_pos b18] | rw [if_neg b1, if_neg b18, if_pos b35] | rw [if_neg b1, if_neg b18, if_neg b35, if_pos b52] | rw [if_neg b1, if_neg b18, if_neg b35, if_neg b52]⟩ dc_Mo_waiting_63 (Nat.le_of_ble_eq_true rfl) (Nat.le_of_ble_eq_true rfl)
