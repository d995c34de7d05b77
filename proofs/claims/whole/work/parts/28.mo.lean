theorem wd_13 : Cond.selects cn_Mo my_Mo_canAdd my_Mo_canAdd ∈ fq_TB := fq_in 13 (by decide +kernel) rfl
theorem wd_771 : Cond.fieldLink cn_Mo 50 cn_Mo "started" "Z" ∈ fq_TB := fq_in 771 (by decide +kernel) rfl
theorem wd_772 : Cond.fieldLink cn_Mo 54 cn_Mo "stages" "I" ∈ fq_TB := fq_in 772 (by decide +kernel) rfl
theorem wd_788 : Cond.fieldLink cn_Mo 138 cn_Mo "made" "I" ∈ fq_TB := fq_in 788 (by decide +kernel) rfl
theorem wd_789 : Cond.fieldLink cn_Mo 153 cn_Mo "given" "I" ∈ fq_TB := fq_in 789 (by decide +kernel) rfl
theorem wd_791 : Cond.fieldLink cn_Mo 159 cn_Mo "producer" "I" ∈ fq_TB := fq_in 791 (by decide +kernel) rfl
theorem wd_792 : Cond.fieldLink cn_Mo 162 cn_Mo "consumer" "I" ∈ fq_TB := fq_in 792 (by decide +kernel) rfl
theorem wd_846 : Cond.instanceMethod my_Mo_canAdd ∈ fq_TB := fq_in 846 (by decide +kernel) rfl
theorem wd_847 : Cond.code my_Mo_canAdd cb_Mo_canAdd 1 (some .boolean) ∈ fq_TB := fq_in 847 (by decide +kernel) rfl
theorem wd_849 : Cond.static my_Mo_small ∈ fq_TB := fq_in 849 (by decide +kernel) rfl
theorem wd_850 : Cond.code my_Mo_small cb_Mo_small 1 (some .boolean) ∈ fq_TB := fq_in 850 (by decide +kernel) rfl
theorem wd_977 : Cond.instanceMethod my_Mo_interrupt ∈ fq_TB := fq_in 977 (by decide +kernel) rfl
theorem wd_978 : Cond.selects cn_Mo my_Mo_interrupt my_Mo_interrupt ∈ fq_TB := fq_in 978 (by decide +kernel) rfl
theorem wd_979 : Cond.code my_Mo_interrupt cb_Mo_interrupt 2 (some .boolean) ∈ fq_TB := fq_in 979 (by decide +kernel) rfl
theorem wd_981 : Cond.instanceMethod my_Mo_state ∈ fq_TB := fq_in 981 (by decide +kernel) rfl
theorem wd_982 : Cond.selects cn_Mo my_Mo_state my_Mo_state ∈ fq_TB := fq_in 982 (by decide +kernel) rfl
theorem wd_983 : Cond.code my_Mo_state cb_Mo_state 1 (some .int) ∈ fq_TB := fq_in 983 (by decide +kernel) rfl


theorem dc_Mo_small_0 : decode cb_Mo_small 0 = .ok (.iload_n 0, 1) := by decide +kernel
theorem dc_Mo_small_1 : decode cb_Mo_small 1 = .ok (.sipush (-32768), 3) := by decide +kernel
theorem dc_Mo_small_4 : decode cb_Mo_small 4 = .ok (.if_icmp .lt 14, 3) := by decide +kernel
theorem dc_Mo_small_7 : decode cb_Mo_small 7 = .ok (.iload_n 0, 1) := by decide +kernel
theorem dc_Mo_small_8 : decode cb_Mo_small 8 = .ok (.sipush 32767, 3) := by decide +kernel
theorem dc_Mo_small_11 : decode cb_Mo_small 11 = .ok (.if_icmp .gt 7, 3) := by decide +kernel
theorem dc_Mo_small_14 : decode cb_Mo_small 14 = .ok (.iconst 1, 1) := by decide +kernel
theorem dc_Mo_small_15 : decode cb_Mo_small 15 = .ok (.goto 4, 3) := by decide +kernel
theorem dc_Mo_small_18 : decode cb_Mo_small 18 = .ok (.iconst 0, 1) := by decide +kernel
theorem dc_Mo_small_19 : decode cb_Mo_small 19 = .ok (.ireturn, 1) := by decide +kernel
theorem yk_Mo_small : fq_Y my_Mo_small cb_Mo_small 1 (some .boolean) 1 := ⟨wd_850, wd_36, by decide +kernel⟩
theorem dc_Mo_canAdd_0 : decode cb_Mo_canAdd 0 = .ok (.aload_n 0, 1) := by decide +kernel
theorem dc_Mo_canAdd_1 : decode cb_Mo_canAdd 1 = .ok (.getfield 50, 3) := by decide +kernel
theorem dc_Mo_canAdd_4 : decode cb_Mo_canAdd 4 = .ok (.ifCond .ne 15, 3) := by decide +kernel
theorem dc_Mo_canAdd_7 : decode cb_Mo_canAdd 7 = .ok (.aload_n 0, 1) := by decide +kernel
theorem dc_Mo_canAdd_8 : decode cb_Mo_canAdd 8 = .ok (.getfield 54, 3) := by decide +kernel
theorem dc_Mo_canAdd_11 : decode cb_Mo_canAdd 11 = .ok (.iconst 5, 1) := by decide +kernel
theorem dc_Mo_canAdd_12 : decode cb_Mo_canAdd 12 = .ok (.if_icmp .ge 7, 3) := by decide +kernel
theorem dc_Mo_canAdd_15 : decode cb_Mo_canAdd 15 = .ok (.iconst 1, 1) := by decide +kernel
theorem dc_Mo_canAdd_16 : decode cb_Mo_canAdd 16 = .ok (.goto 4, 3) := by decide +kernel
theorem dc_Mo_canAdd_19 : decode cb_Mo_canAdd 19 = .ok (.iconst 0, 1) := by decide +kernel
theorem dc_Mo_canAdd_20 : decode cb_Mo_canAdd 20 = .ok (.ireturn, 1) := by decide +kernel
theorem yk_Mo_canAdd : fq_Y my_Mo_canAdd cb_Mo_canAdd 1 (some .boolean) 0 := ⟨wd_847, wd_36, by decide +kernel⟩
theorem dc_Mo_state_0 : decode cb_Mo_state 0 = .ok (.aload_n 0, 1) := by decide +kernel
theorem dc_Mo_state_1 : decode cb_Mo_state 1 = .ok (.getfield 159, 3) := by decide +kernel
theorem dc_Mo_state_4 : decode cb_Mo_state 4 = .ok (.iconst 4, 1) := by decide +kernel
theorem dc_Mo_state_5 : decode cb_Mo_state 5 = .ok (.aload_n 0, 1) := by decide +kernel
theorem dc_Mo_state_6 : decode cb_Mo_state 6 = .ok (.getfield 162, 3) := by decide +kernel
theorem dc_Mo_state_9 : decode cb_Mo_state 9 = .ok (.imul, 1) := by decide +kernel
theorem dc_Mo_state_10 : decode cb_Mo_state 10 = .ok (.iadd, 1) := by decide +kernel
theorem dc_Mo_state_11 : decode cb_Mo_state 11 = .ok (.ireturn, 1) := by decide +kernel
theorem yk_Mo_state : fq_Y my_Mo_state cb_Mo_state 1 (some .int) 0 := ⟨wd_983, wd_36, by decide +kernel⟩
theorem dc_Mo_interrupt_0 : decode cb_Mo_interrupt 0 = .ok (.iload_n 1, 1) := by decide +kernel
theorem dc_Mo_interrupt_1 : decode cb_Mo_interrupt 1 = .ok (.ifCond .eq 10, 3) := by decide +kernel
theorem dc_Mo_interrupt_4 : decode cb_Mo_interrupt 4 = .ok (.aload_n 0, 1) := by decide +kernel
theorem dc_Mo_interrupt_5 : decode cb_Mo_interrupt 5 = .ok (.getfield 159, 3) := by decide +kernel
theorem dc_Mo_interrupt_8 : decode cb_Mo_interrupt 8 = .ok (.goto 7, 3) := by decide +kernel
theorem dc_Mo_interrupt_11 : decode cb_Mo_interrupt 11 = .ok (.aload_n 0, 1) := by decide +kernel
theorem dc_Mo_interrupt_12 : decode cb_Mo_interrupt 12 = .ok (.getfield 162, 3) := by decide +kernel
theorem dc_Mo_interrupt_15 : decode cb_Mo_interrupt 15 = .ok (.iconst 1, 1) := by decide +kernel
theorem dc_Mo_interrupt_16 : decode cb_Mo_interrupt 16 = .ok (.if_icmp .eq 5, 3) := by decide +kernel
theorem dc_Mo_interrupt_19 : decode cb_Mo_interrupt 19 = .ok (.iconst 0, 1) := by decide +kernel
theorem dc_Mo_interrupt_20 : decode cb_Mo_interrupt 20 = .ok (.ireturn, 1) := by decide +kernel
theorem dc_Mo_interrupt_21 : decode cb_Mo_interrupt 21 = .ok (.iload_n 1, 1) := by decide +kernel
theorem dc_Mo_interrupt_22 : decode cb_Mo_interrupt 22 = .ok (.ifCond .eq 19, 3) := by decide +kernel
theorem dc_Mo_interrupt_25 : decode cb_Mo_interrupt 25 = .ok (.aload_n 0, 1) := by decide +kernel
theorem dc_Mo_interrupt_26 : decode cb_Mo_interrupt 26 = .ok (.iconst 3, 1) := by decide +kernel
theorem dc_Mo_interrupt_27 : decode cb_Mo_interrupt 27 = .ok (.putfield 159, 3) := by decide +kernel
theorem dc_Mo_interrupt_30 : decode cb_Mo_interrupt 30 = .ok (.aload_n 0, 1) := by decide +kernel
theorem dc_Mo_interrupt_31 : decode cb_Mo_interrupt 31 = .ok (.aload_n 0, 1) := by decide +kernel
theorem dc_Mo_interrupt_32 : decode cb_Mo_interrupt 32 = .ok (.getfield 153, 3) := by decide +kernel
theorem dc_Mo_interrupt_35 : decode cb_Mo_interrupt 35 = .ok (.putfield 138, 3) := by decide +kernel
theorem dc_Mo_interrupt_38 : decode cb_Mo_interrupt 38 = .ok (.goto 8, 3) := by decide +kernel
theorem dc_Mo_interrupt_41 : decode cb_Mo_interrupt 41 = .ok (.aload_n 0, 1) := by decide +kernel
theorem dc_Mo_interrupt_42 : decode cb_Mo_interrupt 42 = .ok (.iconst 3, 1) := by decide +kernel
theorem dc_Mo_interrupt_43 : decode cb_Mo_interrupt 43 = .ok (.putfield 162, 3) := by decide +kernel
theorem dc_Mo_interrupt_46 : decode cb_Mo_interrupt 46 = .ok (.iconst 1, 1) := by decide +kernel
theorem dc_Mo_interrupt_47 : decode cb_Mo_interrupt 47 = .ok (.ireturn, 1) := by decide +kernel
theorem yk_Mo_interrupt : fq_Y my_Mo_interrupt cb_Mo_interrupt 2 (some .boolean) 1 := ⟨wd_979, wd_36, by decide +kernel⟩
set_option maxHeartbeats 4000000 in
set_option maxRecDepth 100000 in
theorem ct_Mo_small (l : Launch) (D : va_G) (cI cO : ClassId) (tE : Nat) (x : Int32) (sz : Nat) : Met l my_Mo_small (fq_w my_Mo_small cb_Mo_small 1 (some .boolean)) ({ frames := 0, cells := 0, slots := 0, locals := 0 }) (va_Pc ([.int x]) (fq_Pre D cI cO tE sz ([]))) (va_Qi (S := va_W) (fun r w => w = [] ∧ r = if fs_c x.toInt then 1 else 0) (fq_Bw D (va_A ([]) sz)) (va_A ([]) sz)) (0) (0) (va_A ([]) sz) := by
  refine fq_open (by decide +kernel) (Nat.le_of_ble_eq_true rfl) ?_
  intro pg ev s mt below meth cd ls K hret hlk hin hK hZ hP hD hA hS hl
  generalize va_A ([]) sz = A at hZ hD hA hS ⊢
  have K : fq_Ctx pg mt cd cb_Mo_small 1 s _ cn_Mo := K
  have hl : lv_has ls 1 [(0, .int x)] := hl
  refine lv_iload_n K.1 K.2.1 dc_Mo_small_0 rfl (lv_at hl 0 rfl) ?_
  refine lv_sipush (v := (-32768)) K.1 K.2.1 dc_Mo_small_1 (by decide) ?_
  refine lv_icmp_lt (tgt := 18) K.1 K.2.1 dc_Mo_small_4 rfl (fun b4 => ?_) (fun b4 => ?_)
  · skip
    rw [Int32.lt_iff_toInt_lt, show (-32768 : Int32).toInt = -32768 by decide] at b4
    have hx : ¬ fs_c x.toInt := fun z => by unfold fs_c at z; omega
    refine lv_iconst (v := 0) K.1 K.2.1 dc_Mo_small_18 (by decide) ?_
    exact fq_retz K hret hlk hS hP hD (by first | exact Or.inl rfl | exact Or.inr rfl) ⟨rfl, by rw [if_neg hx]⟩ dc_Mo_small_19 (Nat.le_of_ble_eq_true rfl) (Nat.le_of_ble_eq_true rfl)
  · skip
    rw [Int32.lt_iff_toInt_lt, show (-32768 : Int32).toInt = -32768 by decide] at b4
    refine lv_iload_n K.1 K.2.1 dc_Mo_small_7 rfl (lv_at hl 0 rfl) ?_
    refine lv_sipush (v := 32767) K.1 K.2.1 dc_Mo_small_8 (by decide) ?_
    refine lv_icmp_gt (tgt := 18) K.1 K.2.1 dc_Mo_small_11 rfl (fun b11 => ?_) (fun b11 => ?_)
    · skip
      rw [Int32.lt_iff_toInt_lt, show (32767 : Int32).toInt = 32767 by decide] at b11
      have hx : ¬ fs_c x.toInt := fun z => by unfold fs_c at z; omega
      refine lv_iconst (v := 0) K.1 K.2.1 dc_Mo_small_18 (by decide) ?_
      exact fq_retz K hret hlk hS hP hD (by first | exact Or.inl rfl | exact Or.inr rfl) ⟨rfl, by rw [if_neg hx]⟩ dc_Mo_small_19 (Nat.le_of_ble_eq_true rfl) (Nat.le_of_ble_eq_true rfl)
    · skip
      rw [Int32.lt_iff_toInt_lt, show (32767 : Int32).toInt = 32767 by decide] at b11
      have hx : fs_c x.toInt := ⟨by omega, by omega⟩
      refine lv_iconst (v := 1) K.1 K.2.1 dc_Mo_small_14 (by decide) ?_
      refine lv_goto (tgt := 19) K.1 K.2.1 dc_Mo_small_15 rfl ?_
      exact fq_retz K hret hlk hS hP hD (by first | exact Or.inl rfl | exact Or.inr rfl) ⟨rfl, by rw [if_pos hx]⟩ dc_Mo_small_19 (Nat.le_of_ble_eq_true rfl) (Nat.le_of_ble_eq_true rfl)
set_option maxHeartbeats 4000000 in
set_option maxRecDepth 100000 in
theorem ct_Mo_canAdd (l : Launch) (D : va_G) (cI cO : ClassId) (tE : Nat) (h aK aN aB aS aL aX : Nat) (rm : Nat) (sd : Bool) (ns : Nat) (iw : Nat) (ow : Nat) (ih : Bool) (oh : Bool) (ca : Nat) (us : Nat) (cl : Bool) (fl : Bool) (tk : Nat) (md : Nat) (gi : Nat) (su : Nat) (ps : Nat) (cs : Nat) (fK fN fB fS fL fX : Nat → Int32) (hns : ns ≤ 5) (sz : Nat) : Met l my_Mo_canAdd (fq_w my_Mo_canAdd cb_Mo_canAdd 1 (some .boolean)) ({ frames := 0, cells := 0, slots := 0, locals := 0 }) (va_Pc ([.ref h]) (fq_Pre D cI cO tE sz ([(h, .inr (12, [.int (nI rm), .int (fq_b sd), .int (nI ns), .ref aK, .ref aN, .int (nI iw), .int (nI ow), .int (fq_b ih), .int (fq_b oh), .ref aB, .int (nI ca), .int (nI us), .int (fq_b cl), .int (fq_b fl), .ref aS, .int (nI tk), .ref aL, .ref aX, .int (nI md), .int (nI gi), .int (nI su), .int (nI ps), .int (nI cs)])), (aK, .inl (cI, 5, .inl fK)), (aN, .inl (cI, 25, .inl fN)), (aB, .inl (cI, 120, .inl fB)), (aS, .inl (cI, 120, .inl fS)), (aL, .inl (cI, 2300, .inl fL)), (aX, .inl (cI, 2300, .inl fX))]))) (va_Qi (S := va_W) (fun r w => w = [(h, .inr (12, [.int (nI rm), .int (fq_b sd), .int (nI ns), .ref aK, .ref aN, .int (nI iw), .int (nI ow), .int (fq_b ih), .int (fq_b oh), .ref aB, .int (nI ca), .int (nI us), .int (fq_b cl), .int (fq_b fl), .ref aS, .int (nI tk), .ref aL, .ref aX, .int (nI md), .int (nI gi), .int (nI su), .int (nI ps), .int (nI cs)])), (aK, .inl (cI, 5, .inl fK)), (aN, .inl (cI, 25, .inl fN)), (aB, .inl (cI, 120, .inl fB)), (aS, .inl (cI, 120, .inl fS)), (aL, .inl (cI, 2300, .inl fL)), (aX, .inl (cI, 2300, .inl fX))] ∧ r = if sd = false ∧ ns < 5 then 1 else 0) (fq_Bw D (va_A ([(h, .inr (12, [.int (nI rm), .int (fq_b sd), .int (nI ns), .ref aK, .ref aN, .int (nI iw), .int (nI ow), .int (fq_b ih), .int (fq_b oh), .ref aB, .int (nI ca), .int (nI us), .int (fq_b cl), .int (fq_b fl), .ref aS, .int (nI tk), .ref aL, .ref aX, .int (nI md), .int (nI gi), .int (nI su), .int (nI ps), .int (nI cs)])), (aK, .inl (cI, 5, .inl fK)), (aN, .inl (cI, 25, .inl fN)), (aB, .inl (cI, 120, .inl fB)), (aS, .inl (cI, 120, .inl fS)), (aL, .inl (cI, 2300, .inl fL)), (aX, .inl (cI, 2300, .inl fX))]) sz)) (va_A ([(h, .inr (12, [.int (nI rm), .int (fq_b sd), .int (nI ns), .ref aK, .ref aN, .int (nI iw), .int (nI ow), .int (fq_b ih), .int (fq_b oh), .ref aB, .int (nI ca), .int (nI us), .int (fq_b cl), .int (fq_b fl), .ref aS, .int (nI tk), .ref aL, .ref aX, .int (nI md), .int (nI gi), .int (nI su), .int (nI ps), .int (nI cs)])), (aK, .inl (cI, 5, .inl fK)), (aN, .inl (cI, 25, .inl fN)), (aB, .inl (cI, 120, .inl fB)), (aS, .inl (cI, 120, .inl fS)), (aL, .inl (cI, 2300, .inl fL)), (aX, .inl (cI, 2300, .inl fX))]) sz)) (0) (0) (va_A ([(h, .inr (12, [.int (nI rm), .int (fq_b sd), .int (nI ns), .ref aK, .ref aN, .int (nI iw), .int (nI ow), .int (fq_b ih), .int (fq_b oh), .ref aB, .int (nI ca), .int (nI us), .int (fq_b cl), .int (fq_b fl), .ref aS, .int (nI tk), .ref aL, .ref aX, .int (nI md), .int (nI gi), .int (nI su), .int (nI ps), .int (nI cs)])), (aK, .inl (cI, 5, .inl fK)), (aN, .inl (cI, 25, .inl fN)), (aB, .inl (cI, 120, .inl fB)), (aS, .inl (cI, 120, .inl fS)), (aL, .inl (cI, 2300, .inl fL)), (aX, .inl (cI, 2300, .inl fX))]) sz) := by
  refine fq_open (by decide +kernel) (Nat.le_of_ble_eq_true rfl) ?_
  intro pg ev s mt below meth cd ls K hret hlk hin hK hZ hP hD hA hS hl
  generalize va_A ([(h, .inr (12, [.int (nI rm), .int (fq_b sd), .int (nI ns), .ref aK, .ref aN, .int (nI iw), .int (nI ow), .int (fq_b ih), .int (fq_b oh), .ref aB, .int (nI ca), .int (nI us), .int (fq_b cl), .int (fq_b fl), .ref aS, .int (nI tk), .ref aL, .ref aX, .int (nI md), .int (nI gi), .int (nI su), .int (nI ps), .int (nI cs)])), (aK, .inl (cI, 5, .inl fK)), (aN, .inl (cI, 25, .inl fN)), (aB, .inl (cI, 120, .inl fB)), (aS, .inl (cI, 120, .inl fS)), (aL, .inl (cI, 2300, .inl fL)), (aX, .inl (cI, 2300, .inl fX))]) sz = A at hZ hD hA hS ⊢
  have K : fq_Ctx pg mt cd cb_Mo_canAdd 1 s _ cn_Mo := K
  have hl : lv_has ls 1 [(0, .ref h)] := hl
  refine lv_aload_n K.1 K.2.1 dc_Mo_canAdd_0 rfl (lv_at hl 0 rfl) ?_
  refine fq_get K hK cl_Mo hP 0 1 rfl (by decide) wd_771 rfl dc_Mo_canAdd_1 ?_
  refine lv_if_ne (tgt := 19) K.1 K.2.1 dc_Mo_canAdd_4 rfl (fun b4 => ?_) (fun b4 => ?_)
  · skip
    have hx : ¬ (sd = false ∧ ns < 5) := fun z => by rw [fq_b1 b4] at z; exact absurd z.1 (by decide)
    refine lv_iconst (v := 0) K.1 K.2.1 dc_Mo_canAdd_19 (by decide) ?_
    exact fq_retz K hret hlk hS hP hD (by first | exact Or.inl rfl | exact Or.inr rfl) ⟨rfl, by rw [if_neg hx]⟩ dc_Mo_canAdd_20 (Nat.le_of_ble_eq_true rfl) (Nat.le_of_ble_eq_true rfl)
  · skip
    have hz := fq_b0 b4
    refine lv_aload_n K.1 K.2.1 dc_Mo_canAdd_7 rfl (lv_at hl 0 rfl) ?_
    refine fq_get K hK cl_Mo hP 0 2 rfl (by decide) wd_772 rfl dc_Mo_canAdd_8 ?_
    refine lv_iconst (v := 5) K.1 K.2.1 dc_Mo_canAdd_11 (by decide) ?_
    refine lv_icmp_ge (tgt := 19) K.1 K.2.1 dc_Mo_canAdd_12 rfl (fun b12 => ?_) (fun b12 => ?_)
    · skip
      have hx : ¬ (sd = false ∧ ns < 5) := fun z => absurd z.2 (fc_5 hns b12)
      refine lv_iconst (v := 0) K.1 K.2.1 dc_Mo_canAdd_19 (by decide) ?_
      exact fq_retz K hret hlk hS hP hD (by first | exact Or.inl rfl | exact Or.inr rfl) ⟨rfl, by rw [if_neg hx]⟩ dc_Mo_canAdd_20 (Nat.le_of_ble_eq_true rfl) (Nat.le_of_ble_eq_true rfl)
    · skip
      have hx : sd = false ∧ ns < 5 := ⟨hz, fc_6 hns b12⟩
      refine lv_iconst (v := 1) K.1 K.2.1 dc_Mo_canAdd_15 (by decide) ?_
      refine lv_goto (tgt := 20) K.1 K.2.1 dc_Mo_canAdd_16 rfl ?_
      exact fq_retz K hret hlk hS hP hD (by first | exact Or.inl rfl | exact Or.inr rfl) ⟨rfl, by rw [if_pos hx]⟩ dc_Mo_canAdd_20 (Nat.le_of_ble_eq_true rfl) (Nat.le_of_ble_eq_true rfl)
set_option maxHeartbeats 4000000 in
set_option maxRecDepth 100000 in
theorem ct_Mo_state (l : Launch) (D : va_G) (cI cO : ClassId) (tE : Nat) (h aK aN aB aS aL aX : Nat) (rm : Nat) (sd : Bool) (ns : Nat) (iw : Nat) (ow : Nat) (ih : Bool) (oh : Bool) (ca : Nat) (us : Nat) (cl : Bool) (fl : Bool) (tk : Nat) (md : Nat) (gi : Nat) (su : Nat) (ps : Nat) (cs : Nat) (fK fN fB fS fL fX : Nat → Int32)  (sz : Nat) : Met l my_Mo_state (fq_w my_Mo_state cb_Mo_state 1 (some .int)) ({ frames := 0, cells := 0, slots := 0, locals := 0 }) (va_Pc ([.ref h]) (fq_Pre D cI cO tE sz ([(h, .inr (12, [.int (nI rm), .int (fq_b sd), .int (nI ns), .ref aK, .ref aN, .int (nI iw), .int (nI ow), .int (fq_b ih), .int (fq_b oh), .ref aB, .int (nI ca), .int (nI us), .int (fq_b cl), .int (fq_b fl), .ref aS, .int (nI tk), .ref aL, .ref aX, .int (nI md), .int (nI gi), .int (nI su), .int (nI ps), .int (nI cs)])), (aK, .inl (cI, 5, .inl fK)), (aN, .inl (cI, 25, .inl fN)), (aB, .inl (cI, 120, .inl fB)), (aS, .inl (cI, 120, .inl fS)), (aL, .inl (cI, 2300, .inl fL)), (aX, .inl (cI, 2300, .inl fX))]))) (va_Qi (S := va_W) (fun r w => w = [(h, .inr (12, [.int (nI rm), .int (fq_b sd), .int (nI ns), .ref aK, .ref aN, .int (nI iw), .int (nI ow), .int (fq_b ih), .int (fq_b oh), .ref aB, .int (nI ca), .int (nI us), .int (fq_b cl), .int (fq_b fl), .ref aS, .int (nI tk), .ref aL, .ref aX, .int (nI md), .int (nI gi), .int (nI su), .int (nI ps), .int (nI cs)])), (aK, .inl (cI, 5, .inl fK)), (aN, .inl (cI, 25, .inl fN)), (aB, .inl (cI, 120, .inl fB)), (aS, .inl (cI, 120, .inl fS)), (aL, .inl (cI, 2300, .inl fL)), (aX, .inl (cI, 2300, .inl fX))] ∧ r = nI (ps + 4 * cs)) (fq_Bw D (va_A ([(h, .inr (12, [.int (nI rm), .int (fq_b sd), .int (nI ns), .ref aK, .ref aN, .int (nI iw), .int (nI ow), .int (fq_b ih), .int (fq_b oh), .ref aB, .int (nI ca), .int (nI us), .int (fq_b cl), .int (fq_b fl), .ref aS, .int (nI tk), .ref aL, .ref aX, .int (nI md), .int (nI gi), .int (nI su), .int (nI ps), .int (nI cs)])), (aK, .inl (cI, 5, .inl fK)), (aN, .inl (cI, 25, .inl fN)), (aB, .inl (cI, 120, .inl fB)), (aS, .inl (cI, 120, .inl fS)), (aL, .inl (cI, 2300, .inl fL)), (aX, .inl (cI, 2300, .inl fX))]) sz)) (va_A ([(h, .inr (12, [.int (nI rm), .int (fq_b sd), .int (nI ns), .ref aK, .ref aN, .int (nI iw), .int (nI ow), .int (fq_b ih), .int (fq_b oh), .ref aB, .int (nI ca), .int (nI us), .int (fq_b cl), .int (fq_b fl), .ref aS, .int (nI tk), .ref aL, .ref aX, .int (nI md), .int (nI gi), .int (nI su), .int (nI ps), .int (nI cs)])), (aK, .inl (cI, 5, .inl fK)), (aN, .inl (cI, 25, .inl fN)), (aB, .inl (cI, 120, .inl fB)), (aS, .inl (cI, 120, .inl fS)), (aL, .inl (cI, 2300, .inl fL)), (aX, .inl (cI, 2300, .inl fX))]) sz)) (0) (0) (va_A ([(h, .inr (12, [.int (nI rm), .int (fq_b sd), .int (nI ns), .ref aK, .ref aN, .int (nI iw), .int (nI ow), .int (fq_b ih), .int (fq_b oh), .ref aB, .int (nI ca), .int (nI us), .int (fq_b cl), .int (fq_b fl), .ref aS, .int (nI tk), .ref aL, .ref aX, .int (nI md), .int (nI gi), .int (nI su), .int (nI ps), .int (nI cs)])), (aK, .inl (cI, 5, .inl fK)), (aN, .inl (cI, 25, .inl fN)), (aB, .inl (cI, 120, .inl fB)), (aS, .inl (cI, 120, .inl fS)), (aL, .inl (cI, 2300, .inl fL)), (aX, .inl (cI, 2300, .inl fX))]) sz) := by
  refine fq_open (by decide +kernel) (Nat.le_of_ble_eq_true rfl) ?_
  intro pg ev s mt below meth cd ls K hret hlk hin hK hZ hP hD hA hS hl
  generalize va_A ([(h, .inr (12, [.int (nI rm), .int (fq_b sd), .int (nI ns), .ref aK, .ref aN, .int (nI iw), .int (nI ow), .int (fq_b ih), .int (fq_b oh), .ref aB, .int (nI ca), .int (nI us), .int (fq_b cl), .int (fq_b fl), .ref aS, .int (nI tk), .ref aL, .ref aX, .int (nI md), .int (nI gi), .int (nI su), .int (nI ps), .int (nI cs)])), (aK, .inl (cI, 5, .inl fK)), (aN, .inl (cI, 25, .inl fN)), (aB, .inl (cI, 120, .inl fB)), (aS, .inl (cI, 120, .inl fS)), (aL, .inl (cI, 2300, .inl fL)), (aX, .inl (cI, 2300, .inl fX))]) sz = A at hZ hD hA hS ⊢
  have K : fq_Ctx pg mt cd cb_Mo_state 1 s _ cn_Mo := K
  have hl : lv_has ls 1 [(0, .ref h)] := hl
  refine lv_aload_n K.1 K.2.1 dc_Mo_state_0 rfl (lv_at hl 0 rfl) ?_
  refine fq_get K hK cl_Mo hP 0 21 rfl (by decide) wd_791 rfl dc_Mo_state_1 ?_
  refine lv_iconst (v := 4) K.1 K.2.1 dc_Mo_state_4 (by decide) ?_
  refine lv_aload_n K.1 K.2.1 dc_Mo_state_5 rfl (lv_at hl 0 rfl) ?_
  refine fq_get K hK cl_Mo hP 0 22 rfl (by decide) wd_792 rfl dc_Mo_state_6 ?_
  refine lv_imul K.1 K.2.1 dc_Mo_state_9 ?_
  refine fq_asi (y := nI (4 * cs)) (pk_mul 4 cs) ?_
  refine lv_iadd K.1 K.2.1 dc_Mo_state_10 ?_
  refine fq_asi (y := nI (ps + 4 * cs)) (nI_add _ _) ?_
  exact fq_reti K hret hlk hS hP hD ⟨rfl, rfl⟩ dc_Mo_state_11 (Nat.le_of_ble_eq_true rfl) (Nat.le_of_ble_eq_true rfl)
set_option maxHeartbeats 4000000 in
set_option maxRecDepth 100000 in
theorem ct_Mo_interrupt (l : Launch) (D : va_G) (cI cO : ClassId) (tE : Nat) (h aK aN aB aS aL aX : Nat) (rm : Nat) (sd : Bool) (ns : Nat) (iw : Nat) (ow : Nat) (ih : Bool) (oh : Bool) (ca : Nat) (us : Nat) (cl : Bool) (fl : Bool) (tk : Nat) (md : Nat) (gi : Nat) (su : Nat) (ps : Nat) (cs : Nat) (fK fN fB fS fL fX : Nat → Int32) (bb : Bool) (hps : ps ≤ 3) (hcs : cs ≤ 3) (sz : Nat) : Met l my_Mo_interrupt (fq_w my_Mo_interrupt cb_Mo_interrupt 2 (some .boolean)) ({ frames := 0, cells := 0, slots := 0, locals := 0 }) (va_Pc ([.ref h, .int (fq_b bb)]) (fq_Pre D cI cO tE sz ([(h, .inr (12, [.int (nI rm), .int (fq_b sd), .int (nI ns), .ref aK, .ref aN, .int (nI iw), .int (nI ow), .int (fq_b ih), .int (fq_b oh), .ref aB, .int (nI ca), .int (nI us), .int (fq_b cl), .int (fq_b fl), .ref aS, .int (nI tk), .ref aL, .ref aX, .int (nI md), .int (nI gi), .int (nI su), .int (nI ps), .int (nI cs)])), (aK, .inl (cI, 5, .inl fK)), (aN, .inl (cI, 25, .inl fN)), (aB, .inl (cI, 120, .inl fB)), (aS, .inl (cI, 120, .inl fS)), (aL, .inl (cI, 2300, .inl fL)), (aX, .inl (cI, 2300, .inl fX))]))) (va_Qi (S := va_W) (fun r w => if (if bb then ps else cs) = 1 then r = 1 ∧ (if bb then w = [(h, .inr (12, [.int (nI rm), .int (fq_b sd), .int (nI ns), .ref aK, .ref aN, .int (nI iw), .int (nI ow), .int (fq_b ih), .int (fq_b oh), .ref aB, .int (nI ca), .int (nI us), .int (fq_b cl), .int (fq_b fl), .ref aS, .int (nI tk), .ref aL, .ref aX, .int (nI gi), .int (nI gi), .int (nI su), .int (nI 3), .int (nI cs)])), (aK, .inl (cI, 5, .inl fK)), (aN, .inl (cI, 25, .inl fN)), (aB, .inl (cI, 120, .inl fB)), (aS, .inl (cI, 120, .inl fS)), (aL, .inl (cI, 2300, .inl fL)), (aX, .inl (cI, 2300, .inl fX))] else w = [(h, .inr (12, [.int (nI rm), .int (fq_b sd), .int (nI ns), .ref aK, .ref aN, .int (nI iw), .int (nI ow), .int (fq_b ih), .int (fq_b oh), .ref aB, .int (nI ca), .int (nI us), .int (fq_b cl), .int (fq_b fl), .ref aS, .int (nI tk), .ref aL, .ref aX, .int (nI md), .int (nI gi), .int (nI su), .int (nI ps), .int (nI 3)])), (aK, .inl (cI, 5, .inl fK)), (aN, .inl (cI, 25, .inl fN)), (aB, .inl (cI, 120, .inl fB)), (aS, .inl (cI, 120, .inl fS)), (aL, .inl (cI, 2300, .inl fL)), (aX, .inl (cI, 2300, .inl fX))]) else r = 0 ∧ w = [(h, .inr (12, [.int (nI rm), .int (fq_b sd), .int (nI ns), .ref aK, .ref aN, .int (nI iw), .int (nI ow), .int (fq_b ih), .int (fq_b oh), .ref aB, .int (nI ca), .int (nI us), .int (fq_b cl), .int (fq_b fl), .ref aS, .int (nI tk), .ref aL, .ref aX, .int (nI md), .int (nI gi), .int (nI su), .int (nI ps), .int (nI cs)])), (aK, .inl (cI, 5, .inl fK)), (aN, .inl (cI, 25, .inl fN)), (aB, .inl (cI, 120, .inl fB)), (aS, .inl (cI, 120, .inl fS)), (aL, .inl (cI, 2300, .inl fL)), (aX, .inl (cI, 2300, .inl fX))]) (fq_Bw D (va_A ([(h, .inr (12, [.int (nI rm), .int (fq_b sd), .int (nI ns), .ref aK, .ref aN, .int (nI iw), .int (nI ow), .int (fq_b ih), .int (fq_b oh), .ref aB, .int (nI ca), .int (nI us), .int (fq_b cl), .int (fq_b fl), .ref aS, .int (nI tk), .ref aL, .ref aX, .int (nI md), .int (nI gi), .int (nI su), .int (nI ps), .int (nI cs)])), (aK, .inl (cI, 5, .inl fK)), (aN, .inl (cI, 25, .inl fN)), (aB, .inl (cI, 120, .inl fB)), (aS, .inl (cI, 120, .inl fS)), (aL, .inl (cI, 2300, .inl fL)), (aX, .inl (cI, 2300, .inl fX))]) sz)) (va_A ([(h, .inr (12, [.int (nI rm), .int (fq_b sd), .int (nI ns), .ref aK, .ref aN, .int (nI iw), .int (nI ow), .int (fq_b ih), .int (fq_b oh), .ref aB, .int (nI ca), .int (nI us), .int (fq_b cl), .int (fq_b fl), .ref aS, .int (nI tk), .ref aL, .ref aX, .int (nI md), .int (nI gi), .int (nI su), .int (nI ps), .int (nI cs)])), (aK, .inl (cI, 5, .inl fK)), (aN, .inl (cI, 25, .inl fN)), (aB, .inl (cI, 120, .inl fB)), (aS, .inl (cI, 120, .inl fS)), (aL, .inl (cI, 2300, .inl fL)), (aX, .inl (cI, 2300, .inl fX))]) sz)) (0) (0) (va_A ([(h, .inr (12, [.int (nI rm), .int (fq_b sd), .int (nI ns), .ref aK, .ref aN, .int (nI iw), .int (nI ow), .int (fq_b ih), .int (fq_b oh), .ref aB, .int (nI ca), .int (nI us), .int (fq_b cl), .int (fq_b fl), .ref aS, .int (nI tk), .ref aL, .ref aX, .int (nI md), .int (nI gi), .int (nI su), .int (nI ps), .int (nI cs)])), (aK, .inl (cI, 5, .inl fK)), (aN, .inl (cI, 25, .inl fN)), (aB, .inl (cI, 120, .inl fB)), (aS, .inl (cI, 120, .inl fS)), (aL, .inl (cI, 2300, .inl fL)), (aX, .inl (cI, 2300, .inl fX))]) sz) := by
  refine fq_open (by decide +kernel) (Nat.le_of_ble_eq_true rfl) ?_
  intro pg ev s mt below meth cd ls K hret hlk hin hK hZ hP hD hA hS hl
  generalize va_A ([(h, .inr (12, [.int (nI rm), .int (fq_b sd), .int (nI ns), .ref aK, .ref aN, .int (nI iw), .int (nI ow), .int (fq_b ih), .int (fq_b oh), .ref aB, .int (nI ca), .int (nI us), .int (fq_b cl), .int (fq_b fl), .ref aS, .int (nI tk), .ref aL, .ref aX, .int (nI md), .int (nI gi), .int (nI su), .int (nI ps), .int (nI cs)])), (aK, .inl (cI, 5, .inl fK)), (aN, .inl (cI, 25, .inl fN)), (aB, .inl (cI, 120, .inl fB)), (aS, .inl (cI, 120, .inl fS)), (aL, .inl (cI, 2300, .inl fL)), (aX, .inl (cI, 2300, .inl fX))]) sz = A at hZ hD hA hS ⊢
  have K : fq_Ctx pg mt cd cb_Mo_interrupt 2 s _ cn_Mo := K
  have hl : lv_has ls 2 [(0, .ref h), (1, .int (fq_b bb))] := hl
  refine lv_iload_n K.1 K.2.1 dc_Mo_interrupt_0 rfl (lv_at hl 1 rfl) ?_
  refine lv_if_eq (tgt := 11) K.1 K.2.1 dc_Mo_interrupt_1 rfl (fun b1 => ?_) (fun b1 => ?_)
  · skip
    have hb := fq_b0 b1
    refine lv_aload_n K.1 K.2.1 dc_Mo_interrupt_11 rfl (lv_at hl 0 rfl) ?_
    refine fq_get K hK cl_Mo hP 0 22 rfl (by decide) wd_792 rfl dc_Mo_interrupt_12 ?_
    refine lv_iconst (v := 1) K.1 K.2.1 dc_Mo_interrupt_15 (by decide) ?_
    refine lv_icmp_eq (tgt := 21) K.1 K.2.1 dc_Mo_interrupt_16 rfl (fun b16 => ?_) (fun b16 => ?_)
    · skip
      have hz : cs = 1 := (nI_eq (by omega) (by decide)).mp b16
      refine lv_iload_n K.1 K.2.1 dc_Mo_interrupt_21 rfl (lv_at hl 1 rfl) ?_
      refine lv_if_eq (tgt := 41) K.1 K.2.1 dc_Mo_interrupt_22 rfl (fun b22 => ?_) (fun b22 => absurd (by rw [hb]; rfl) b22)
      refine lv_aload_n K.1 K.2.1 dc_Mo_interrupt_41 rfl (lv_at hl 0 rfl) ?_
      refine lv_iconst (v := 3) K.1 K.2.1 dc_Mo_interrupt_42 (by decide) ?_
      refine fq_put K hK cl_Mo hP hD hS 0 22 rfl (by decide) wd_792 rfl rfl rfl (Nat.le_of_ble_eq_true rfl) dc_Mo_interrupt_43 (fun H locs hP hD hS => ?_)
      have hP : va_P D fq_cl ([(h, .inr (12, [.int (nI rm), .int (fq_b sd), .int (nI ns), .ref aK, .ref aN, .int (nI iw), .int (nI ow), .int (fq_b ih), .int (fq_b oh), .ref aB, .int (nI ca), .int (nI us), .int (fq_b cl), .int (fq_b fl), .ref aS, .int (nI tk), .ref aL, .ref aX, .int (nI md), .int (nI gi), .int (nI su), .int (nI ps), .int 3])), (aK, .inl (cI, 5, .inl fK)), (aN, .inl (cI, 25, .inl fN)), (aB, .inl (cI, 120, .inl fB)), (aS, .inl (cI, 120, .inl fS)), (aL, .inl (cI, 2300, .inl fL)), (aX, .inl (cI, 2300, .inl fX))]) _ := hP
      have hD : va_D A ([(h, .inr (12, [.int (nI rm), .int (fq_b sd), .int (nI ns), .ref aK, .ref aN, .int (nI iw), .int (nI ow), .int (fq_b ih), .int (fq_b oh), .ref aB, .int (nI ca), .int (nI us), .int (fq_b cl), .int (fq_b fl), .ref aS, .int (nI tk), .ref aL, .ref aX, .int (nI md), .int (nI gi), .int (nI su), .int (nI ps), .int 3])), (aK, .inl (cI, 5, .inl fK)), (aN, .inl (cI, 25, .inl fN)), (aB, .inl (cI, 120, .inl fB)), (aS, .inl (cI, 120, .inl fS)), (aL, .inl (cI, 2300, .inl fL)), (aX, .inl (cI, 2300, .inl fX))]) := hD
      refine lv_iconst (v := 1) K.1 K.2.1 dc_Mo_interrupt_46 (by decide) ?_
      exact fq_retz K hret hlk hS hP hD (by first | exact Or.inl rfl | exact Or.inr rfl) (by rw [hb, if_pos (show (if false = true then ps else cs) = 1 from hz)]; exact ⟨rfl, rfl⟩) dc_Mo_interrupt_47 (Nat.le_of_ble_eq_true rfl) (Nat.le_of_ble_eq_true rfl)
    · skip
      have hz : ¬ cs = 1 := fun z => b16 (by rw [z]; rfl)
      refine lv_iconst (v := 0) K.1 K.2.1 dc_Mo_interrupt_19 (by decide) ?_
      exact fq_retz K hret hlk hS hP hD (by first | exact Or.inl rfl | exact Or.inr rfl) (by rw [hb, if_neg (show ¬ (if false = true then ps else cs) = 1 from hz)]; exact ⟨rfl, rfl⟩) dc_Mo_interrupt_20 (Nat.le_of_ble_eq_true rfl) (Nat.le_of_ble_eq_true rfl)
  · skip
    have hb := fq_b1 b1
    refine lv_aload_n K.1 K.2.1 dc_Mo_interrupt_4 rfl (lv_at hl 0 rfl) ?_
    refine fq_get K hK cl_Mo hP 0 21 rfl (by decide) wd_791 rfl dc_Mo_interrupt_5 ?_
    refine lv_goto (tgt := 15) K.1 K.2.1 dc_Mo_interrupt_8 rfl ?_
    refine lv_iconst (v := 1) K.1 K.2.1 dc_Mo_interrupt_15 (by decide) ?_
    refine lv_icmp_eq (tgt := 21) K.1 K.2.1 dc_Mo_interrupt_16 rfl (fun b16 => ?_) (fun b16 => ?_)
    · skip
      have hz : ps = 1 := (nI_eq (by omega) (by decide)).mp b16
      refine lv_iload_n K.1 K.2.1 dc_Mo_interrupt_21 rfl (lv_at hl 1 rfl) ?_
      refine lv_if_eq (tgt := 41) K.1 K.2.1 dc_Mo_interrupt_22 rfl (fun b22 => absurd b22 (by rw [hb]; decide)) (fun b22 => ?_)
      refine lv_aload_n K.1 K.2.1 dc_Mo_interrupt_25 rfl (lv_at hl 0 rfl) ?_
      refine lv_iconst (v := 3) K.1 K.2.1 dc_Mo_interrupt_26 (by decide) ?_
      refine fq_put K hK cl_Mo hP hD hS 0 21 rfl (by decide) wd_791 rfl rfl rfl (Nat.le_of_ble_eq_true rfl) dc_Mo_interrupt_27 (fun H locs hP hD hS => ?_)
      have hP : va_P D fq_cl ([(h, .inr (12, [.int (nI rm), .int (fq_b sd), .int (nI ns), .ref aK, .ref aN, .int (nI iw), .int (nI ow), .int (fq_b ih), .int (fq_b oh), .ref aB, .int (nI ca), .int (nI us), .int (fq_b cl), .int (fq_b fl), .ref aS, .int (nI tk), .ref aL, .ref aX, .int (nI md), .int (nI gi), .int (nI su), .int 3, .int (nI cs)])), (aK, .inl (cI, 5, .inl fK)), (aN, .inl (cI, 25, .inl fN)), (aB, .inl (cI, 120, .inl fB)), (aS, .inl (cI, 120, .inl fS)), (aL, .inl (cI, 2300, .inl fL)), (aX, .inl (cI, 2300, .inl fX))]) _ := hP
      have hD : va_D A ([(h, .inr (12, [.int (nI rm), .int (fq_b sd), .int (nI ns), .ref aK, .ref aN, .int (nI iw), .int (nI ow), .int (fq_b ih), .int (fq_b oh), .ref aB, .int (nI ca), .int (nI us), .int (fq_b cl), .int (fq_b fl), .ref aS, .int (nI tk), .ref aL, .ref aX, .int (nI md), .int (nI gi), .int (nI su), .int 3, .int (nI cs)])), (aK, .inl (cI, 5, .inl fK)), (aN, .inl (cI, 25, .inl fN)), (aB, .inl (cI, 120, .inl fB)), (aS, .inl (cI, 120, .inl fS)), (aL, .inl (cI, 2300, .inl fL)), (aX, .inl (cI, 2300, .inl fX))]) := hD
      refine lv_aload_n K.1 K.2.1 dc_Mo_interrupt_30 rfl (lv_at hl 0 rfl) ?_
      refine lv_aload_n K.1 K.2.1 dc_Mo_interrupt_31 rfl (lv_at hl 0 rfl) ?_
      refine fq_get K hK cl_Mo hP 0 19 rfl (by decide) wd_789 rfl dc_Mo_interrupt_32 ?_
      refine fq_put K hK cl_Mo hP hD hS 0 18 rfl (by decide) wd_788 rfl rfl rfl (Nat.le_of_ble_eq_true rfl) dc_Mo_interrupt_35 (fun H locs hP hD hS => ?_)
      have hP : va_P D fq_cl ([(h, .inr (12, [.int (nI rm), .int (fq_b sd), .int (nI ns), .ref aK, .ref aN, .int (nI iw), .int (nI ow), .int (fq_b ih), .int (fq_b oh), .ref aB, .int (nI ca), .int (nI us), .int (fq_b cl), .int (fq_b fl), .ref aS, .int (nI tk), .ref aL, .ref aX, .int (nI gi), .int (nI gi), .int (nI su), .int 3, .int (nI cs)])), (aK, .inl (cI, 5, .inl fK)), (aN, .inl (cI, 25, .inl fN)), (aB, .inl (cI, 120, .inl fB)), (aS, .inl (cI, 120, .inl fS)), (aL, .inl (cI, 2300, .inl fL)), (aX, .inl (cI, 2300, .inl fX))]) _ := hP
      have hD : va_D A ([(h, .inr (12, [.int (nI rm), .int (fq_b sd), .int (nI ns), .ref aK, .ref aN, .int (nI iw), .int (nI ow), .int (fq_b ih), .int (fq_b oh), .ref aB, .int (nI ca), .int (nI us), .int (fq_b cl), .int (fq_b fl), .ref aS, .int (nI tk), .ref aL, .ref aX, .int (nI gi), .int (nI gi), .int (nI su), .int 3, .int (nI cs)])), (aK, .inl (cI, 5, .inl fK)), (aN, .inl (cI, 25, .inl fN)), (aB, .inl (cI, 120, .inl fB)), (aS, .inl (cI, 120, .inl fS)), (aL, .inl (cI, 2300, .inl fL)), (aX, .inl (cI, 2300, .inl fX))]) := hD
      refine lv_goto (tgt := 46) K.1 K.2.1 dc_Mo_interrupt_38 rfl ?_
      refine lv_iconst (v := 1) K.1 K.2.1 dc_Mo_interrupt_46 (by decide) ?_
      exact fq_retz K hret hlk hS hP hD (by first | exact Or.inl rfl | exact Or.inr rfl) (by rw [hb, if_pos (show (if true = true then ps else cs) = 1 from hz)]; exact ⟨rfl, rfl⟩) dc_Mo_interrupt_47 (Nat.le_of_ble_eq_true rfl) (Nat.le_of_ble_eq_true rfl)
    · skip
      have hz : ¬ ps = 1 := fun z => b16 (by rw [z]; rfl)
      refine lv_iconst (v := 0) K.1 K.2.1 dc_Mo_interrupt_19 (by decide) ?_
      exact fq_retz K hret hlk hS hP hD (by first | exact Or.inl rfl | exact Or.inr rfl) (by rw [hb, if_neg (show ¬ (if true = true then ps else cs) = 1 from hz)]; exact ⟨rfl, rfl⟩) dc_Mo_interrupt_20 (Nat.le_of_ble_eq_true rfl) (Nat.le_of_ble_eq_true rfl)
