theorem wd_14 : Cond.selects cn_Mo my_Mo_add my_Mo_add ∈ fq_TB := fq_in 14 (by decide +kernel) rfl
theorem wd_773 : Cond.fieldLink cn_Mo 7 cn_Mo "kind" "[I" ∈ fq_TB := fq_in 773 (by decide +kernel) rfl
theorem wd_774 : Cond.fieldLink cn_Mo 13 cn_Mo "number" "[I" ∈ fq_TB := fq_in 774 (by decide +kernel) rfl
theorem wd_782 : Cond.fieldLink cn_Mo 150 cn_Mo "closed" "Z" ∈ fq_TB := fq_in 782 (by decide +kernel) rfl
theorem wd_853 : Cond.instanceMethod my_Mo_add ∈ fq_TB := fq_in 853 (by decide +kernel) rfl
theorem wd_854 : Cond.code my_Mo_add cb_Mo_add 7 none ∈ fq_TB := fq_in 854 (by decide +kernel) rfl
theorem wd_916 : Cond.instanceMethod my_Mo_close ∈ fq_TB := fq_in 916 (by decide +kernel) rfl
theorem wd_917 : Cond.selects cn_Mo my_Mo_close my_Mo_close ∈ fq_TB := fq_in 917 (by decide +kernel) rfl
theorem wd_918 : Cond.code my_Mo_close cb_Mo_close 1 (some .boolean) ∈ fq_TB := fq_in 918 (by decide +kernel) rfl


theorem dc_Mo_add_0 : decode cb_Mo_add 0 = .ok (.aload_n 0, 1) := by decide +kernel
theorem dc_Mo_add_1 : decode cb_Mo_add 1 = .ok (.getfield 7, 3) := by decide +kernel
theorem dc_Mo_add_4 : decode cb_Mo_add 4 = .ok (.aload_n 0, 1) := by decide +kernel
theorem dc_Mo_add_5 : decode cb_Mo_add 5 = .ok (.getfield 54, 3) := by decide +kernel
theorem dc_Mo_add_8 : decode cb_Mo_add 8 = .ok (.iload_n 1, 1) := by decide +kernel
theorem dc_Mo_add_9 : decode cb_Mo_add 9 = .ok (.iastore, 1) := by decide +kernel
theorem dc_Mo_add_10 : decode cb_Mo_add 10 = .ok (.aload_n 0, 1) := by decide +kernel
theorem dc_Mo_add_11 : decode cb_Mo_add 11 = .ok (.getfield 13, 3) := by decide +kernel
theorem dc_Mo_add_14 : decode cb_Mo_add 14 = .ok (.iconst 5, 1) := by decide +kernel
theorem dc_Mo_add_15 : decode cb_Mo_add 15 = .ok (.aload_n 0, 1) := by decide +kernel
theorem dc_Mo_add_16 : decode cb_Mo_add 16 = .ok (.getfield 54, 3) := by decide +kernel
theorem dc_Mo_add_19 : decode cb_Mo_add 19 = .ok (.imul, 1) := by decide +kernel
theorem dc_Mo_add_20 : decode cb_Mo_add 20 = .ok (.iload_n 2, 1) := by decide +kernel
theorem dc_Mo_add_21 : decode cb_Mo_add 21 = .ok (.iastore, 1) := by decide +kernel
theorem dc_Mo_add_22 : decode cb_Mo_add 22 = .ok (.aload_n 0, 1) := by decide +kernel
theorem dc_Mo_add_23 : decode cb_Mo_add 23 = .ok (.getfield 13, 3) := by decide +kernel
theorem dc_Mo_add_26 : decode cb_Mo_add 26 = .ok (.iconst 5, 1) := by decide +kernel
theorem dc_Mo_add_27 : decode cb_Mo_add 27 = .ok (.aload_n 0, 1) := by decide +kernel
theorem dc_Mo_add_28 : decode cb_Mo_add 28 = .ok (.getfield 54, 3) := by decide +kernel
theorem dc_Mo_add_31 : decode cb_Mo_add 31 = .ok (.imul, 1) := by decide +kernel
theorem dc_Mo_add_32 : decode cb_Mo_add 32 = .ok (.iconst 1, 1) := by decide +kernel
theorem dc_Mo_add_33 : decode cb_Mo_add 33 = .ok (.iadd, 1) := by decide +kernel
theorem dc_Mo_add_34 : decode cb_Mo_add 34 = .ok (.iload_n 3, 1) := by decide +kernel
theorem dc_Mo_add_35 : decode cb_Mo_add 35 = .ok (.iastore, 1) := by decide +kernel
theorem dc_Mo_add_36 : decode cb_Mo_add 36 = .ok (.aload_n 0, 1) := by decide +kernel
theorem dc_Mo_add_37 : decode cb_Mo_add 37 = .ok (.getfield 13, 3) := by decide +kernel
theorem dc_Mo_add_40 : decode cb_Mo_add 40 = .ok (.iconst 5, 1) := by decide +kernel
theorem dc_Mo_add_41 : decode cb_Mo_add 41 = .ok (.aload_n 0, 1) := by decide +kernel
theorem dc_Mo_add_42 : decode cb_Mo_add 42 = .ok (.getfield 54, 3) := by decide +kernel
theorem dc_Mo_add_45 : decode cb_Mo_add 45 = .ok (.imul, 1) := by decide +kernel
theorem dc_Mo_add_46 : decode cb_Mo_add 46 = .ok (.iconst 2, 1) := by decide +kernel
theorem dc_Mo_add_47 : decode cb_Mo_add 47 = .ok (.iadd, 1) := by decide +kernel
theorem dc_Mo_add_48 : decode cb_Mo_add 48 = .ok (.iload 4, 2) := by decide +kernel
theorem dc_Mo_add_50 : decode cb_Mo_add 50 = .ok (.iastore, 1) := by decide +kernel
theorem dc_Mo_add_51 : decode cb_Mo_add 51 = .ok (.aload_n 0, 1) := by decide +kernel
theorem dc_Mo_add_52 : decode cb_Mo_add 52 = .ok (.getfield 13, 3) := by decide +kernel
theorem dc_Mo_add_55 : decode cb_Mo_add 55 = .ok (.iconst 5, 1) := by decide +kernel
theorem dc_Mo_add_56 : decode cb_Mo_add 56 = .ok (.aload_n 0, 1) := by decide +kernel
theorem dc_Mo_add_57 : decode cb_Mo_add 57 = .ok (.getfield 54, 3) := by decide +kernel
theorem dc_Mo_add_60 : decode cb_Mo_add 60 = .ok (.imul, 1) := by decide +kernel
theorem dc_Mo_add_61 : decode cb_Mo_add 61 = .ok (.iconst 3, 1) := by decide +kernel
theorem dc_Mo_add_62 : decode cb_Mo_add 62 = .ok (.iadd, 1) := by decide +kernel
theorem dc_Mo_add_63 : decode cb_Mo_add 63 = .ok (.iload 5, 2) := by decide +kernel
theorem dc_Mo_add_65 : decode cb_Mo_add 65 = .ok (.iastore, 1) := by decide +kernel
theorem dc_Mo_add_66 : decode cb_Mo_add 66 = .ok (.aload_n 0, 1) := by decide +kernel
theorem dc_Mo_add_67 : decode cb_Mo_add 67 = .ok (.getfield 13, 3) := by decide +kernel
theorem dc_Mo_add_70 : decode cb_Mo_add 70 = .ok (.iconst 5, 1) := by decide +kernel
theorem dc_Mo_add_71 : decode cb_Mo_add 71 = .ok (.aload_n 0, 1) := by decide +kernel
theorem dc_Mo_add_72 : decode cb_Mo_add 72 = .ok (.getfield 54, 3) := by decide +kernel
theorem dc_Mo_add_75 : decode cb_Mo_add 75 = .ok (.imul, 1) := by decide +kernel
theorem dc_Mo_add_76 : decode cb_Mo_add 76 = .ok (.iconst 4, 1) := by decide +kernel
theorem dc_Mo_add_77 : decode cb_Mo_add 77 = .ok (.iadd, 1) := by decide +kernel
theorem dc_Mo_add_78 : decode cb_Mo_add 78 = .ok (.iload 6, 2) := by decide +kernel
theorem dc_Mo_add_80 : decode cb_Mo_add 80 = .ok (.iastore, 1) := by decide +kernel
theorem dc_Mo_add_81 : decode cb_Mo_add 81 = .ok (.aload_n 0, 1) := by decide +kernel
theorem dc_Mo_add_82 : decode cb_Mo_add 82 = .ok (.dup, 1) := by decide +kernel
theorem dc_Mo_add_83 : decode cb_Mo_add 83 = .ok (.getfield 54, 3) := by decide +kernel
theorem dc_Mo_add_86 : decode cb_Mo_add 86 = .ok (.iconst 1, 1) := by decide +kernel
theorem dc_Mo_add_87 : decode cb_Mo_add 87 = .ok (.iadd, 1) := by decide +kernel
theorem dc_Mo_add_88 : decode cb_Mo_add 88 = .ok (.putfield 54, 3) := by decide +kernel
theorem dc_Mo_add_91 : decode cb_Mo_add 91 = .ok (.return_, 1) := by decide +kernel
theorem yk_Mo_add : fq_Y my_Mo_add cb_Mo_add 7 none 6 := ⟨wd_854, wd_36, by decide +kernel⟩
theorem dc_Mo_close_0 : decode cb_Mo_close 0 = .ok (.aload_n 0, 1) := by decide +kernel
theorem dc_Mo_close_1 : decode cb_Mo_close 1 = .ok (.getfield 50, 3) := by decide +kernel
theorem dc_Mo_close_4 : decode cb_Mo_close 4 = .ok (.ifCond .eq 10, 3) := by decide +kernel
theorem dc_Mo_close_7 : decode cb_Mo_close 7 = .ok (.aload_n 0, 1) := by decide +kernel
theorem dc_Mo_close_8 : decode cb_Mo_close 8 = .ok (.getfield 150, 3) := by decide +kernel
theorem dc_Mo_close_11 : decode cb_Mo_close 11 = .ok (.ifCond .eq 5, 3) := by decide +kernel
theorem dc_Mo_close_14 : decode cb_Mo_close 14 = .ok (.iconst 0, 1) := by decide +kernel
theorem dc_Mo_close_15 : decode cb_Mo_close 15 = .ok (.ireturn, 1) := by decide +kernel
theorem dc_Mo_close_16 : decode cb_Mo_close 16 = .ok (.aload_n 0, 1) := by decide +kernel
theorem dc_Mo_close_17 : decode cb_Mo_close 17 = .ok (.iconst 1, 1) := by decide +kernel
theorem dc_Mo_close_18 : decode cb_Mo_close 18 = .ok (.putfield 150, 3) := by decide +kernel
theorem dc_Mo_close_21 : decode cb_Mo_close 21 = .ok (.iconst 1, 1) := by decide +kernel
theorem dc_Mo_close_22 : decode cb_Mo_close 22 = .ok (.ireturn, 1) := by decide +kernel
theorem yk_Mo_close : fq_Y my_Mo_close cb_Mo_close 1 (some .boolean) 0 := ⟨wd_918, wd_36, by decide +kernel⟩
set_option maxHeartbeats 4000000 in
set_option maxRecDepth 100000 in
theorem ct_Mo_add (l : Launch) (D : va_G) (cI cO : ClassId) (tE : Nat) (h aK aN aB aS aL aX : Nat) (rm : Nat) (sd : Bool) (ns : Nat) (iw : Nat) (ow : Nat) (ih : Bool) (oh : Bool) (ca : Nat) (us : Nat) (cl : Bool) (fl : Bool) (tk : Nat) (md : Nat) (gi : Nat) (su : Nat) (ps : Nat) (cs : Nat) (fK fN fB fS fL fX : Nat → Int32) (x0 x1 x2 x3 x4 x5 : Int32) (hns : ns < 5) (sz : Nat) : Met l my_Mo_add (fq_w my_Mo_add cb_Mo_add 7 none) ({ frames := 0, cells := 0, slots := 0, locals := 0 }) (va_Pc ([.ref h, .int x0, .int x1, .int x2, .int x3, .int x4, .int x5]) (fq_Pre D cI cO tE sz ([(h, .inr (12, [.int (nI rm), .int (fq_b sd), .int (nI ns), .ref aK, .ref aN, .int (nI iw), .int (nI ow), .int (fq_b ih), .int (fq_b oh), .ref aB, .int (nI ca), .int (nI us), .int (fq_b cl), .int (fq_b fl), .ref aS, .int (nI tk), .ref aL, .ref aX, .int (nI md), .int (nI gi), .int (nI su), .int (nI ps), .int (nI cs)])), (aK, .inl (cI, 5, .inl fK)), (aN, .inl (cI, 25, .inl fN)), (aB, .inl (cI, 120, .inl fB)), (aS, .inl (cI, 120, .inl fS)), (aL, .inl (cI, 2300, .inl fL)), (aX, .inl (cI, 2300, .inl fX))]))) (va_Qv (S := va_W) (fun w => w = [(h, .inr (12, [.int (nI rm), .int (fq_b sd), .int (nI (ns + 1)), .ref aK, .ref aN, .int (nI iw), .int (nI ow), .int (fq_b ih), .int (fq_b oh), .ref aB, .int (nI ca), .int (nI us), .int (fq_b cl), .int (fq_b fl), .ref aS, .int (nI tk), .ref aL, .ref aX, .int (nI md), .int (nI gi), .int (nI su), .int (nI ps), .int (nI cs)])), (aK, .inl (cI, 5, .inl (upd fK ns x0))), (aN, .inl (cI, 25, .inl (upd (upd (upd (upd (upd fN (5 * ns) x1) (5 * ns + 1) x2) (5 * ns + 2) x3) (5 * ns + 3) x4) (5 * ns + 4) x5))), (aB, .inl (cI, 120, .inl fB)), (aS, .inl (cI, 120, .inl fS)), (aL, .inl (cI, 2300, .inl fL)), (aX, .inl (cI, 2300, .inl fX))]) (fq_Bw D (va_A ([(h, .inr (12, [.int (nI rm), .int (fq_b sd), .int (nI ns), .ref aK, .ref aN, .int (nI iw), .int (nI ow), .int (fq_b ih), .int (fq_b oh), .ref aB, .int (nI ca), .int (nI us), .int (fq_b cl), .int (fq_b fl), .ref aS, .int (nI tk), .ref aL, .ref aX, .int (nI md), .int (nI gi), .int (nI su), .int (nI ps), .int (nI cs)])), (aK, .inl (cI, 5, .inl fK)), (aN, .inl (cI, 25, .inl fN)), (aB, .inl (cI, 120, .inl fB)), (aS, .inl (cI, 120, .inl fS)), (aL, .inl (cI, 2300, .inl fL)), (aX, .inl (cI, 2300, .inl fX))]) sz)) (va_A ([(h, .inr (12, [.int (nI rm), .int (fq_b sd), .int (nI ns), .ref aK, .ref aN, .int (nI iw), .int (nI ow), .int (fq_b ih), .int (fq_b oh), .ref aB, .int (nI ca), .int (nI us), .int (fq_b cl), .int (fq_b fl), .ref aS, .int (nI tk), .ref aL, .ref aX, .int (nI md), .int (nI gi), .int (nI su), .int (nI ps), .int (nI cs)])), (aK, .inl (cI, 5, .inl fK)), (aN, .inl (cI, 25, .inl fN)), (aB, .inl (cI, 120, .inl fB)), (aS, .inl (cI, 120, .inl fS)), (aL, .inl (cI, 2300, .inl fL)), (aX, .inl (cI, 2300, .inl fX))]) sz)) (0) (0) (va_A ([(h, .inr (12, [.int (nI rm), .int (fq_b sd), .int (nI ns), .ref aK, .ref aN, .int (nI iw), .int (nI ow), .int (fq_b ih), .int (fq_b oh), .ref aB, .int (nI ca), .int (nI us), .int (fq_b cl), .int (fq_b fl), .ref aS, .int (nI tk), .ref aL, .ref aX, .int (nI md), .int (nI gi), .int (nI su), .int (nI ps), .int (nI cs)])), (aK, .inl (cI, 5, .inl fK)), (aN, .inl (cI, 25, .inl fN)), (aB, .inl (cI, 120, .inl fB)), (aS, .inl (cI, 120, .inl fS)), (aL, .inl (cI, 2300, .inl fL)), (aX, .inl (cI, 2300, .inl fX))]) sz) := by
  refine fq_open (by decide +kernel) (Nat.le_of_ble_eq_true rfl) ?_
  intro pg ev s mt below meth cd ls K hret hlk hin hK hZ hP hD hA hS hl
  generalize va_A ([(h, .inr (12, [.int (nI rm), .int (fq_b sd), .int (nI ns), .ref aK, .ref aN, .int (nI iw), .int (nI ow), .int (fq_b ih), .int (fq_b oh), .ref aB, .int (nI ca), .int (nI us), .int (fq_b cl), .int (fq_b fl), .ref aS, .int (nI tk), .ref aL, .ref aX, .int (nI md), .int (nI gi), .int (nI su), .int (nI ps), .int (nI cs)])), (aK, .inl (cI, 5, .inl fK)), (aN, .inl (cI, 25, .inl fN)), (aB, .inl (cI, 120, .inl fB)), (aS, .inl (cI, 120, .inl fS)), (aL, .inl (cI, 2300, .inl fL)), (aX, .inl (cI, 2300, .inl fX))]) sz = A at hZ hD hA hS ⊢
  have K : fq_Ctx pg mt cd cb_Mo_add 7 s _ cn_Mo := K
  have hl : lv_has ls 7 [(0, .ref h), (1, .int x0), (2, .int x1), (3, .int x2), (4, .int x3), (5, .int x4), (6, .int x5)] := hl
  refine lv_aload_n K.1 K.2.1 dc_Mo_add_0 rfl (lv_at hl 0 rfl) ?_
  refine fq_get K hK cl_Mo hP 0 3 rfl (by decide) wd_773 rfl dc_Mo_add_1 ?_
  refine lv_aload_n K.1 K.2.1 dc_Mo_add_4 rfl (lv_at hl 0 rfl) ?_
  refine fq_get K hK cl_Mo hP 0 2 rfl (by decide) wd_772 rfl dc_Mo_add_5 ?_
  refine lv_iload_n K.1 K.2.1 dc_Mo_add_8 rfl (lv_at hl 1 rfl) ?_
  refine fq_ast K hK hP hD hS 1 rfl (vp_in_nI (show ns < 5 by omega) (by decide)) dc_Mo_add_9 (fun H locs hP hD hS => ?_)
  rw [nI_clamp (show ns < 2 ^ 31 by omega)] at hP hD
  have hP : va_P D fq_cl ([(h, .inr (12, [.int (nI rm), .int (fq_b sd), .int (nI ns), .ref aK, .ref aN, .int (nI iw), .int (nI ow), .int (fq_b ih), .int (fq_b oh), .ref aB, .int (nI ca), .int (nI us), .int (fq_b cl), .int (fq_b fl), .ref aS, .int (nI tk), .ref aL, .ref aX, .int (nI md), .int (nI gi), .int (nI su), .int (nI ps), .int (nI cs)])), (aK, .inl (cI, 5, .inl (upd fK ns x0))), (aN, .inl (cI, 25, .inl fN)), (aB, .inl (cI, 120, .inl fB)), (aS, .inl (cI, 120, .inl fS)), (aL, .inl (cI, 2300, .inl fL)), (aX, .inl (cI, 2300, .inl fX))]) _ := hP
  have hD : va_D A ([(h, .inr (12, [.int (nI rm), .int (fq_b sd), .int (nI ns), .ref aK, .ref aN, .int (nI iw), .int (nI ow), .int (fq_b ih), .int (fq_b oh), .ref aB, .int (nI ca), .int (nI us), .int (fq_b cl), .int (fq_b fl), .ref aS, .int (nI tk), .ref aL, .ref aX, .int (nI md), .int (nI gi), .int (nI su), .int (nI ps), .int (nI cs)])), (aK, .inl (cI, 5, .inl (upd fK ns x0))), (aN, .inl (cI, 25, .inl fN)), (aB, .inl (cI, 120, .inl fB)), (aS, .inl (cI, 120, .inl fS)), (aL, .inl (cI, 2300, .inl fL)), (aX, .inl (cI, 2300, .inl fX))]) := hD
  refine lv_aload_n K.1 K.2.1 dc_Mo_add_10 rfl (lv_at hl 0 rfl) ?_
  refine fq_get K hK cl_Mo hP 0 4 rfl (by decide) wd_774 rfl dc_Mo_add_11 ?_
  refine lv_iconst (v := 5) K.1 K.2.1 dc_Mo_add_14 (by decide) ?_
  refine lv_aload_n K.1 K.2.1 dc_Mo_add_15 rfl (lv_at hl 0 rfl) ?_
  refine fq_get K hK cl_Mo hP 0 2 rfl (by decide) wd_772 rfl dc_Mo_add_16 ?_
  refine lv_imul K.1 K.2.1 dc_Mo_add_19 ?_
  refine fq_asi (y := nI (5 * ns)) (pk_mul 5 ns) ?_
  refine lv_iload_n K.1 K.2.1 dc_Mo_add_20 rfl (lv_at hl 2 rfl) ?_
  refine fq_ast K hK hP hD hS 2 rfl (vp_in_nI (show 5 * ns < 25 by omega) (by decide)) dc_Mo_add_21 (fun H locs hP hD hS => ?_)
  rw [nI_clamp (show 5 * ns < 2 ^ 31 by omega)] at hP hD
  have hP : va_P D fq_cl ([(h, .inr (12, [.int (nI rm), .int (fq_b sd), .int (nI ns), .ref aK, .ref aN, .int (nI iw), .int (nI ow), .int (fq_b ih), .int (fq_b oh), .ref aB, .int (nI ca), .int (nI us), .int (fq_b cl), .int (fq_b fl), .ref aS, .int (nI tk), .ref aL, .ref aX, .int (nI md), .int (nI gi), .int (nI su), .int (nI ps), .int (nI cs)])), (aK, .inl (cI, 5, .inl (upd fK ns x0))), (aN, .inl (cI, 25, .inl (upd fN (5 * ns) x1))), (aB, .inl (cI, 120, .inl fB)), (aS, .inl (cI, 120, .inl fS)), (aL, .inl (cI, 2300, .inl fL)), (aX, .inl (cI, 2300, .inl fX))]) _ := hP
  have hD : va_D A ([(h, .inr (12, [.int (nI rm), .int (fq_b sd), .int (nI ns), .ref aK, .ref aN, .int (nI iw), .int (nI ow), .int (fq_b ih), .int (fq_b oh), .ref aB, .int (nI ca), .int (nI us), .int (fq_b cl), .int (fq_b fl), .ref aS, .int (nI tk), .ref aL, .ref aX, .int (nI md), .int (nI gi), .int (nI su), .int (nI ps), .int (nI cs)])), (aK, .inl (cI, 5, .inl (upd fK ns x0))), (aN, .inl (cI, 25, .inl (upd fN (5 * ns) x1))), (aB, .inl (cI, 120, .inl fB)), (aS, .inl (cI, 120, .inl fS)), (aL, .inl (cI, 2300, .inl fL)), (aX, .inl (cI, 2300, .inl fX))]) := hD
  refine lv_aload_n K.1 K.2.1 dc_Mo_add_22 rfl (lv_at hl 0 rfl) ?_
  refine fq_get K hK cl_Mo hP 0 4 rfl (by decide) wd_774 rfl dc_Mo_add_23 ?_
  refine lv_iconst (v := 5) K.1 K.2.1 dc_Mo_add_26 (by decide) ?_
  refine lv_aload_n K.1 K.2.1 dc_Mo_add_27 rfl (lv_at hl 0 rfl) ?_
  refine fq_get K hK cl_Mo hP 0 2 rfl (by decide) wd_772 rfl dc_Mo_add_28 ?_
  refine lv_imul K.1 K.2.1 dc_Mo_add_31 ?_
  refine fq_asi (y := nI (5 * ns)) (pk_mul 5 ns) ?_
  refine lv_iconst (v := 1) K.1 K.2.1 dc_Mo_add_32 (by decide) ?_
  refine lv_iadd K.1 K.2.1 dc_Mo_add_33 ?_
  refine fq_asi (y := nI (5 * ns + 1)) (nI_add (5 * ns) 1) ?_
  refine lv_iload_n K.1 K.2.1 dc_Mo_add_34 rfl (lv_at hl 3 rfl) ?_
  refine fq_ast K hK hP hD hS 2 rfl (vp_in_nI (show 5 * ns + 1 < 25 by omega) (by decide)) dc_Mo_add_35 (fun H locs hP hD hS => ?_)
  rw [nI_clamp (show 5 * ns + 1 < 2 ^ 31 by omega)] at hP hD
  have hP : va_P D fq_cl ([(h, .inr (12, [.int (nI rm), .int (fq_b sd), .int (nI ns), .ref aK, .ref aN, .int (nI iw), .int (nI ow), .int (fq_b ih), .int (fq_b oh), .ref aB, .int (nI ca), .int (nI us), .int (fq_b cl), .int (fq_b fl), .ref aS, .int (nI tk), .ref aL, .ref aX, .int (nI md), .int (nI gi), .int (nI su), .int (nI ps), .int (nI cs)])), (aK, .inl (cI, 5, .inl (upd fK ns x0))), (aN, .inl (cI, 25, .inl (upd (upd fN (5 * ns) x1) (5 * ns + 1) x2))), (aB, .inl (cI, 120, .inl fB)), (aS, .inl (cI, 120, .inl fS)), (aL, .inl (cI, 2300, .inl fL)), (aX, .inl (cI, 2300, .inl fX))]) _ := hP
  have hD : va_D A ([(h, .inr (12, [.int (nI rm), .int (fq_b sd), .int (nI ns), .ref aK, .ref aN, .int (nI iw), .int (nI ow), .int (fq_b ih), .int (fq_b oh), .ref aB, .int (nI ca), .int (nI us), .int (fq_b cl), .int (fq_b fl), .ref aS, .int (nI tk), .ref aL, .ref aX, .int (nI md), .int (nI gi), .int (nI su), .int (nI ps), .int (nI cs)])), (aK, .inl (cI, 5, .inl (upd fK ns x0))), (aN, .inl (cI, 25, .inl (upd (upd fN (5 * ns) x1) (5 * ns + 1) x2))), (aB, .inl (cI, 120, .inl fB)), (aS, .inl (cI, 120, .inl fS)), (aL, .inl (cI, 2300, .inl fL)), (aX, .inl (cI, 2300, .inl fX))]) := hD
  refine lv_aload_n K.1 K.2.1 dc_Mo_add_36 rfl (lv_at hl 0 rfl) ?_
  refine fq_get K hK cl_Mo hP 0 4 rfl (by decide) wd_774 rfl dc_Mo_add_37 ?_
  refine lv_iconst (v := 5) K.1 K.2.1 dc_Mo_add_40 (by decide) ?_
  refine lv_aload_n K.1 K.2.1 dc_Mo_add_41 rfl (lv_at hl 0 rfl) ?_
  refine fq_get K hK cl_Mo hP 0 2 rfl (by decide) wd_772 rfl dc_Mo_add_42 ?_
  refine lv_imul K.1 K.2.1 dc_Mo_add_45 ?_
  refine fq_asi (y := nI (5 * ns)) (pk_mul 5 ns) ?_
  refine lv_iconst (v := 2) K.1 K.2.1 dc_Mo_add_46 (by decide) ?_
  refine lv_iadd K.1 K.2.1 dc_Mo_add_47 ?_
  refine fq_asi (y := nI (5 * ns + 2)) (nI_add (5 * ns) 2) ?_
  refine lv_iload K.1 K.2.1 dc_Mo_add_48 (lv_at hl 4 rfl) ?_
  refine fq_ast K hK hP hD hS 2 rfl (vp_in_nI (show 5 * ns + 2 < 25 by omega) (by decide)) dc_Mo_add_50 (fun H locs hP hD hS => ?_)
  rw [nI_clamp (show 5 * ns + 2 < 2 ^ 31 by omega)] at hP hD
  have hP : va_P D fq_cl ([(h, .inr (12, [.int (nI rm), .int (fq_b sd), .int (nI ns), .ref aK, .ref aN, .int (nI iw), .int (nI ow), .int (fq_b ih), .int (fq_b oh), .ref aB, .int (nI ca), .int (nI us), .int (fq_b cl), .int (fq_b fl), .ref aS, .int (nI tk), .ref aL, .ref aX, .int (nI md), .int (nI gi), .int (nI su), .int (nI ps), .int (nI cs)])), (aK, .inl (cI, 5, .inl (upd fK ns x0))), (aN, .inl (cI, 25, .inl (upd (upd (upd fN (5 * ns) x1) (5 * ns + 1) x2) (5 * ns + 2) x3))), (aB, .inl (cI, 120, .inl fB)), (aS, .inl (cI, 120, .inl fS)), (aL, .inl (cI, 2300, .inl fL)), (aX, .inl (cI, 2300, .inl fX))]) _ := hP
  have hD : va_D A ([(h, .inr (12, [.int (nI rm), .int (fq_b sd), .int (nI ns), .ref aK, .ref aN, .int (nI iw), .int (nI ow), .int (fq_b ih), .int (fq_b oh), .ref aB, .int (nI ca), .int (nI us), .int (fq_b cl), .int (fq_b fl), .ref aS, .int (nI tk), .ref aL, .ref aX, .int (nI md), .int (nI gi), .int (nI su), .int (nI ps), .int (nI cs)])), (aK, .inl (cI, 5, .inl (upd fK ns x0))), (aN, .inl (cI, 25, .inl (upd (upd (upd fN (5 * ns) x1) (5 * ns + 1) x2) (5 * ns + 2) x3))), (aB, .inl (cI, 120, .inl fB)), (aS, .inl (cI, 120, .inl fS)), (aL, .inl (cI, 2300, .inl fL)), (aX, .inl (cI, 2300, .inl fX))]) := hD
  refine lv_aload_n K.1 K.2.1 dc_Mo_add_51 rfl (lv_at hl 0 rfl) ?_
  refine fq_get K hK cl_Mo hP 0 4 rfl (by decide) wd_774 rfl dc_Mo_add_52 ?_
  refine lv_iconst (v := 5) K.1 K.2.1 dc_Mo_add_55 (by decide) ?_
  refine lv_aload_n K.1 K.2.1 dc_Mo_add_56 rfl (lv_at hl 0 rfl) ?_
  refine fq_get K hK cl_Mo hP 0 2 rfl (by decide) wd_772 rfl dc_Mo_add_57 ?_
  refine lv_imul K.1 K.2.1 dc_Mo_add_60 ?_
  refine fq_asi (y := nI (5 * ns)) (pk_mul 5 ns) ?_
  refine lv_iconst (v := 3) K.1 K.2.1 dc_Mo_add_61 (by decide) ?_
  refine lv_iadd K.1 K.2.1 dc_Mo_add_62 ?_
  refine fq_asi (y := nI (5 * ns + 3)) (nI_add (5 * ns) 3) ?_
  refine lv_iload K.1 K.2.1 dc_Mo_add_63 (lv_at hl 5 rfl) ?_
  refine fq_ast K hK hP hD hS 2 rfl (vp_in_nI (show 5 * ns + 3 < 25 by omega) (by decide)) dc_Mo_add_65 (fun H locs hP hD hS => ?_)
  rw [nI_clamp (show 5 * ns + 3 < 2 ^ 31 by omega)] at hP hD
  have hP : va_P D fq_cl ([(h, .inr (12, [.int (nI rm), .int (fq_b sd), .int (nI ns), .ref aK, .ref aN, .int (nI iw), .int (nI ow), .int (fq_b ih), .int (fq_b oh), .ref aB, .int (nI ca), .int (nI us), .int (fq_b cl), .int (fq_b fl), .ref aS, .int (nI tk), .ref aL, .ref aX, .int (nI md), .int (nI gi), .int (nI su), .int (nI ps), .int (nI cs)])), (aK, .inl (cI, 5, .inl (upd fK ns x0))), (aN, .inl (cI, 25, .inl (upd (upd (upd (upd fN (5 * ns) x1) (5 * ns + 1) x2) (5 * ns + 2) x3) (5 * ns + 3) x4))), (aB, .inl (cI, 120, .inl fB)), (aS, .inl (cI, 120, .inl fS)), (aL, .inl (cI, 2300, .inl fL)), (aX, .inl (cI, 2300, .inl fX))]) _ := hP
  have hD : va_D A ([(h, .inr (12, [.int (nI rm), .int (fq_b sd), .int (nI ns), .ref aK, .ref aN, .int (nI iw), .int (nI ow), .int (fq_b ih), .int (fq_b oh), .ref aB, .int (nI ca), .int (nI us), .int (fq_b cl), .int (fq_b fl), .ref aS, .int (nI tk), .ref aL, .ref aX, .int (nI md), .int (nI gi), .int (nI su), .int (nI ps), .int (nI cs)])), (aK, .inl (cI, 5, .inl (upd fK ns x0))), (aN, .inl (cI, 25, .inl (upd (upd (upd (upd fN (5 * ns) x1) (5 * ns + 1) x2) (5 * ns + 2) x3) (5 * ns + 3) x4))), (aB, .inl (cI, 120, .inl fB)), (aS, .inl (cI, 120, .inl fS)), (aL, .inl (cI, 2300, .inl fL)), (aX, .inl (cI, 2300, .inl fX))]) := hD
  refine lv_aload_n K.1 K.2.1 dc_Mo_add_66 rfl (lv_at hl 0 rfl) ?_
  refine fq_get K hK cl_Mo hP 0 4 rfl (by decide) wd_774 rfl dc_Mo_add_67 ?_
  refine lv_iconst (v := 5) K.1 K.2.1 dc_Mo_add_70 (by decide) ?_
  refine lv_aload_n K.1 K.2.1 dc_Mo_add_71 rfl (lv_at hl 0 rfl) ?_
  refine fq_get K hK cl_Mo hP 0 2 rfl (by decide) wd_772 rfl dc_Mo_add_72 ?_
  refine lv_imul K.1 K.2.1 dc_Mo_add_75 ?_
  refine fq_asi (y := nI (5 * ns)) (pk_mul 5 ns) ?_
  refine lv_iconst (v := 4) K.1 K.2.1 dc_Mo_add_76 (by decide) ?_
  refine lv_iadd K.1 K.2.1 dc_Mo_add_77 ?_
  refine fq_asi (y := nI (5 * ns + 4)) (nI_add (5 * ns) 4) ?_
  refine lv_iload K.1 K.2.1 dc_Mo_add_78 (lv_at hl 6 rfl) ?_
  refine fq_ast K hK hP hD hS 2 rfl (vp_in_nI (show 5 * ns + 4 < 25 by omega) (by decide)) dc_Mo_add_80 (fun H locs hP hD hS => ?_)
  rw [nI_clamp (show 5 * ns + 4 < 2 ^ 31 by omega)] at hP hD
  have hP : va_P D fq_cl ([(h, .inr (12, [.int (nI rm), .int (fq_b sd), .int (nI ns), .ref aK, .ref aN, .int (nI iw), .int (nI ow), .int (fq_b ih), .int (fq_b oh), .ref aB, .int (nI ca), .int (nI us), .int (fq_b cl), .int (fq_b fl), .ref aS, .int (nI tk), .ref aL, .ref aX, .int (nI md), .int (nI gi), .int (nI su), .int (nI ps), .int (nI cs)])), (aK, .inl (cI, 5, .inl (upd fK ns x0))), (aN, .inl (cI, 25, .inl (upd (upd (upd (upd (upd fN (5 * ns) x1) (5 * ns + 1) x2) (5 * ns + 2) x3) (5 * ns + 3) x4) (5 * ns + 4) x5))), (aB, .inl (cI, 120, .inl fB)), (aS, .inl (cI, 120, .inl fS)), (aL, .inl (cI, 2300, .inl fL)), (aX, .inl (cI, 2300, .inl fX))]) _ := hP
  have hD : va_D A ([(h, .inr (12, [.int (nI rm), .int (fq_b sd), .int (nI ns), .ref aK, .ref aN, .int (nI iw), .int (nI ow), .int (fq_b ih), .int (fq_b oh), .ref aB, .int (nI ca), .int (nI us), .int (fq_b cl), .int (fq_b fl), .ref aS, .int (nI tk), .ref aL, .ref aX, .int (nI md), .int (nI gi), .int (nI su), .int (nI ps), .int (nI cs)])), (aK, .inl (cI, 5, .inl (upd fK ns x0))), (aN, .inl (cI, 25, .inl (upd (upd (upd (upd (upd fN (5 * ns) x1) (5 * ns + 1) x2) (5 * ns + 2) x3) (5 * ns + 3) x4) (5 * ns + 4) x5))), (aB, .inl (cI, 120, .inl fB)), (aS, .inl (cI, 120, .inl fS)), (aL, .inl (cI, 2300, .inl fL)), (aX, .inl (cI, 2300, .inl fX))]) := hD
  refine lv_aload_n K.1 K.2.1 dc_Mo_add_81 rfl (lv_at hl 0 rfl) ?_
  refine lv_dup K.1 K.2.1 dc_Mo_add_82 rfl ?_
  refine fq_get K hK cl_Mo hP 0 2 rfl (by decide) wd_772 rfl dc_Mo_add_83 ?_
  refine lv_iconst (v := 1) K.1 K.2.1 dc_Mo_add_86 (by decide) ?_
  refine lv_iadd K.1 K.2.1 dc_Mo_add_87 ?_
  refine fq_asi (y := nI (ns + 1)) (nI_1 ns) ?_
  refine fq_put K hK cl_Mo hP hD hS 0 2 rfl (by decide) wd_772 rfl rfl rfl (Nat.le_of_ble_eq_true rfl) dc_Mo_add_88 (fun H locs hP hD hS => ?_)
  have hP : va_P D fq_cl ([(h, .inr (12, [.int (nI rm), .int (fq_b sd), .int (nI (ns + 1)), .ref aK, .ref aN, .int (nI iw), .int (nI ow), .int (fq_b ih), .int (fq_b oh), .ref aB, .int (nI ca), .int (nI us), .int (fq_b cl), .int (fq_b fl), .ref aS, .int (nI tk), .ref aL, .ref aX, .int (nI md), .int (nI gi), .int (nI su), .int (nI ps), .int (nI cs)])), (aK, .inl (cI, 5, .inl (upd fK ns x0))), (aN, .inl (cI, 25, .inl (upd (upd (upd (upd (upd fN (5 * ns) x1) (5 * ns + 1) x2) (5 * ns + 2) x3) (5 * ns + 3) x4) (5 * ns + 4) x5))), (aB, .inl (cI, 120, .inl fB)), (aS, .inl (cI, 120, .inl fS)), (aL, .inl (cI, 2300, .inl fL)), (aX, .inl (cI, 2300, .inl fX))]) _ := hP
  have hD : va_D A ([(h, .inr (12, [.int (nI rm), .int (fq_b sd), .int (nI (ns + 1)), .ref aK, .ref aN, .int (nI iw), .int (nI ow), .int (fq_b ih), .int (fq_b oh), .ref aB, .int (nI ca), .int (nI us), .int (fq_b cl), .int (fq_b fl), .ref aS, .int (nI tk), .ref aL, .ref aX, .int (nI md), .int (nI gi), .int (nI su), .int (nI ps), .int (nI cs)])), (aK, .inl (cI, 5, .inl (upd fK ns x0))), (aN, .inl (cI, 25, .inl (upd (upd (upd (upd (upd fN (5 * ns) x1) (5 * ns + 1) x2) (5 * ns + 2) x3) (5 * ns + 3) x4) (5 * ns + 4) x5))), (aB, .inl (cI, 120, .inl fB)), (aS, .inl (cI, 120, .inl fS)), (aL, .inl (cI, 2300, .inl fL)), (aX, .inl (cI, 2300, .inl fX))]) := hD
  exact fq_retv K hret hlk hS hP hD rfl dc_Mo_add_91 (Nat.le_of_ble_eq_true rfl) (Nat.le_of_ble_eq_true rfl)
set_option maxHeartbeats 4000000 in
set_option maxRecDepth 100000 in
theorem ct_Mo_close (l : Launch) (D : va_G) (cI cO : ClassId) (tE : Nat) (h aK aN aB aS aL aX : Nat) (rm : Nat) (sd : Bool) (ns : Nat) (iw : Nat) (ow : Nat) (ih : Bool) (oh : Bool) (ca : Nat) (us : Nat) (cl : Bool) (fl : Bool) (tk : Nat) (md : Nat) (gi : Nat) (su : Nat) (ps : Nat) (cs : Nat) (fK fN fB fS fL fX : Nat → Int32)  (sz : Nat) : Met l my_Mo_close (fq_w my_Mo_close cb_Mo_close 1 (some .boolean)) ({ frames := 0, cells := 0, slots := 0, locals := 0 }) (va_Pc ([.ref h]) (fq_Pre D cI cO tE sz ([(h, .inr (12, [.int (nI rm), .int (fq_b sd), .int (nI ns), .ref aK, .ref aN, .int (nI iw), .int (nI ow), .int (fq_b ih), .int (fq_b oh), .ref aB, .int (nI ca), .int (nI us), .int (fq_b cl), .int (fq_b fl), .ref aS, .int (nI tk), .ref aL, .ref aX, .int (nI md), .int (nI gi), .int (nI su), .int (nI ps), .int (nI cs)])), (aK, .inl (cI, 5, .inl fK)), (aN, .inl (cI, 25, .inl fN)), (aB, .inl (cI, 120, .inl fB)), (aS, .inl (cI, 120, .inl fS)), (aL, .inl (cI, 2300, .inl fL)), (aX, .inl (cI, 2300, .inl fX))]))) (va_Qi (S := va_W) (fun r w => if sd = false ∨ cl = true then r = 0 ∧ w = [(h, .inr (12, [.int (nI rm), .int (fq_b sd), .int (nI ns), .ref aK, .ref aN, .int (nI iw), .int (nI ow), .int (fq_b ih), .int (fq_b oh), .ref aB, .int (nI ca), .int (nI us), .int (fq_b cl), .int (fq_b fl), .ref aS, .int (nI tk), .ref aL, .ref aX, .int (nI md), .int (nI gi), .int (nI su), .int (nI ps), .int (nI cs)])), (aK, .inl (cI, 5, .inl fK)), (aN, .inl (cI, 25, .inl fN)), (aB, .inl (cI, 120, .inl fB)), (aS, .inl (cI, 120, .inl fS)), (aL, .inl (cI, 2300, .inl fL)), (aX, .inl (cI, 2300, .inl fX))] else r = 1 ∧ w = [(h, .inr (12, [.int (nI rm), .int (fq_b sd), .int (nI ns), .ref aK, .ref aN, .int (nI iw), .int (nI ow), .int (fq_b ih), .int (fq_b oh), .ref aB, .int (nI ca), .int (nI us), .int (fq_b true), .int (fq_b fl), .ref aS, .int (nI tk), .ref aL, .ref aX, .int (nI md), .int (nI gi), .int (nI su), .int (nI ps), .int (nI cs)])), (aK, .inl (cI, 5, .inl fK)), (aN, .inl (cI, 25, .inl fN)), (aB, .inl (cI, 120, .inl fB)), (aS, .inl (cI, 120, .inl fS)), (aL, .inl (cI, 2300, .inl fL)), (aX, .inl (cI, 2300, .inl fX))]) (fq_Bw D (va_A ([(h, .inr (12, [.int (nI rm), .int (fq_b sd), .int (nI ns), .ref aK, .ref aN, .int (nI iw), .int (nI ow), .int (fq_b ih), .int (fq_b oh), .ref aB, .int (nI ca), .int (nI us), .int (fq_b cl), .int (fq_b fl), .ref aS, .int (nI tk), .ref aL, .ref aX, .int (nI md), .int (nI gi), .int (nI su), .int (nI ps), .int (nI cs)])), (aK, .inl (cI, 5, .inl fK)), (aN, .inl (cI, 25, .inl fN)), (aB, .inl (cI, 120, .inl fB)), (aS, .inl (cI, 120, .inl fS)), (aL, .inl (cI, 2300, .inl fL)), (aX, .inl (cI, 2300, .inl fX))]) sz)) (va_A ([(h, .inr (12, [.int (nI rm), .int (fq_b sd), .int (nI ns), .ref aK, .ref aN, .int (nI iw), .int (nI ow), .int (fq_b ih), .int (fq_b oh), .ref aB, .int (nI ca), .int (nI us), .int (fq_b cl), .int (fq_b fl), .ref aS, .int (nI tk), .ref aL, .ref aX, .int (nI md), .int (nI gi), .int (nI su), .int (nI ps), .int (nI cs)])), (aK, .inl (cI, 5, .inl fK)), (aN, .inl (cI, 25, .inl fN)), (aB, .inl (cI, 120, .inl fB)), (aS, .inl (cI, 120, .inl fS)), (aL, .inl (cI, 2300, .inl fL)), (aX, .inl (cI, 2300, .inl fX))]) sz)) (0) (0) (va_A ([(h, .inr (12, [.int (nI rm), .int (fq_b sd), .int (nI ns), .ref aK, .ref aN, .int (nI iw), .int (nI ow), .int (fq_b ih), .int (fq_b oh), .ref aB, .int (nI ca), .int (nI us), .int (fq_b cl), .int (fq_b fl), .ref aS, .int (nI tk), .ref aL, .ref aX, .int (nI md), .int (nI gi), .int (nI su), .int (nI ps), .int (nI cs)])), (aK, .inl (cI, 5, .inl fK)), (aN, .inl (cI, 25, .inl fN)), (aB, .inl (cI, 120, .inl fB)), (aS, .inl (cI, 120, .inl fS)), (aL, .inl (cI, 2300, .inl fL)), (aX, .inl (cI, 2300, .inl fX))]) sz) := by
  refine fq_open (by decide +kernel) (Nat.le_of_ble_eq_true rfl) ?_
  intro pg ev s mt below meth cd ls K hret hlk hin hK hZ hP hD hA hS hl
  generalize va_A ([(h, .inr (12, [.int (nI rm), .int (fq_b sd), .int (nI ns), .ref aK, .ref aN, .int (nI iw), .int (nI ow), .int (fq_b ih), .int (fq_b oh), .ref aB, .int (nI ca), .int (nI us), .int (fq_b cl), .int (fq_b fl), .ref aS, .int (nI tk), .ref aL, .ref aX, .int (nI md), .int (nI gi), .int (nI su), .int (nI ps), .int (nI cs)])), (aK, .inl (cI, 5, .inl fK)), (aN, .inl (cI, 25, .inl fN)), (aB, .inl (cI, 120, .inl fB)), (aS, .inl (cI, 120, .inl fS)), (aL, .inl (cI, 2300, .inl fL)), (aX, .inl (cI, 2300, .inl fX))]) sz = A at hZ hD hA hS ⊢
  have K : fq_Ctx pg mt cd cb_Mo_close 1 s _ cn_Mo := K
  have hl : lv_has ls 1 [(0, .ref h)] := hl
  refine lv_aload_n K.1 K.2.1 dc_Mo_close_0 rfl (lv_at hl 0 rfl) ?_
  refine fq_get K hK cl_Mo hP 0 1 rfl (by decide) wd_771 rfl dc_Mo_close_1 ?_
  refine lv_if_eq (tgt := 14) K.1 K.2.1 dc_Mo_close_4 rfl (fun b4 => ?_) (fun b4 => ?_)
  · skip
    have hx : sd = false ∨ cl = true := Or.inl (fq_b0 b4)
    refine lv_iconst (v := 0) K.1 K.2.1 dc_Mo_close_14 (by decide) ?_
    exact fq_retz K hret hlk hS hP hD (by first | exact Or.inl rfl | exact Or.inr rfl) (by rw [if_pos hx]; exact ⟨rfl, rfl⟩) dc_Mo_close_15 (Nat.le_of_ble_eq_true rfl) (Nat.le_of_ble_eq_true rfl)
  · skip
    have hs := fq_b1 b4
    refine lv_aload_n K.1 K.2.1 dc_Mo_close_7 rfl (lv_at hl 0 rfl) ?_
    refine fq_get K hK cl_Mo hP 0 12 rfl (by decide) wd_782 rfl dc_Mo_close_8 ?_
    refine lv_if_eq (tgt := 16) K.1 K.2.1 dc_Mo_close_11 rfl (fun b11 => ?_) (fun b11 => ?_)
    · skip
      have hx : ¬ (sd = false ∨ cl = true) := fun z => by rw [hs, fq_b0 b11] at z; exact absurd z (by decide)
      refine lv_aload_n K.1 K.2.1 dc_Mo_close_16 rfl (lv_at hl 0 rfl) ?_
      refine lv_iconst (v := 1) K.1 K.2.1 dc_Mo_close_17 (by decide) ?_
      refine fq_put K hK cl_Mo hP hD hS 0 12 rfl (by decide) wd_782 rfl rfl rfl (Nat.le_of_ble_eq_true rfl) dc_Mo_close_18 (fun H locs hP hD hS => ?_)
      have hP : va_P D fq_cl ([(h, .inr (12, [.int (nI rm), .int (fq_b sd), .int (nI ns), .ref aK, .ref aN, .int (nI iw), .int (nI ow), .int (fq_b ih), .int (fq_b oh), .ref aB, .int (nI ca), .int (nI us), .int 1, .int (fq_b fl), .ref aS, .int (nI tk), .ref aL, .ref aX, .int (nI md), .int (nI gi), .int (nI su), .int (nI ps), .int (nI cs)])), (aK, .inl (cI, 5, .inl fK)), (aN, .inl (cI, 25, .inl fN)), (aB, .inl (cI, 120, .inl fB)), (aS, .inl (cI, 120, .inl fS)), (aL, .inl (cI, 2300, .inl fL)), (aX, .inl (cI, 2300, .inl fX))]) _ := hP
      have hD : va_D A ([(h, .inr (12, [.int (nI rm), .int (fq_b sd), .int (nI ns), .ref aK, .ref aN, .int (nI iw), .int (nI ow), .int (fq_b ih), .int (fq_b oh), .ref aB, .int (nI ca), .int (nI us), .int 1, .int (fq_b fl), .ref aS, .int (nI tk), .ref aL, .ref aX, .int (nI md), .int (nI gi), .int (nI su), .int (nI ps), .int (nI cs)])), (aK, .inl (cI, 5, .inl fK)), (aN, .inl (cI, 25, .inl fN)), (aB, .inl (cI, 120, .inl fB)), (aS, .inl (cI, 120, .inl fS)), (aL, .inl (cI, 2300, .inl fL)), (aX, .inl (cI, 2300, .inl fX))]) := hD
      refine lv_iconst (v := 1) K.1 K.2.1 dc_Mo_close_21 (by decide) ?_
      exact fq_retz K hret hlk hS hP hD (by first | exact Or.inl rfl | exact Or.inr rfl) (by rw [if_neg hx]; exact ⟨rfl, rfl⟩) dc_Mo_close_22 (Nat.le_of_ble_eq_true rfl) (Nat.le_of_ble_eq_true rfl)
    · skip
      have hx : sd = false ∨ cl = true := Or.inr (fq_b1 b11)
      refine lv_iconst (v := 0) K.1 K.2.1 dc_Mo_close_14 (by decide) ?_
      exact fq_retz K hret hlk hS hP hD (by first | exact Or.inl rfl | exact Or.inr rfl) (by rw [if_pos hx]; exact ⟨rfl, rfl⟩) dc_Mo_close_15 (Nat.le_of_ble_eq_true rfl) (Nat.le_of_ble_eq_true rfl)
