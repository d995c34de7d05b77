theorem wd_1 : Cond.selects cn_FP my_FP_isStarted my_FP_isStarted ∈ fq_TB := fq_in 1 (by decide +kernel) rfl
theorem wd_187 : Cond.fieldLink cn_FP 39 cn_FP "producerState" "I" ∈ fq_TB := fq_in 187 (by decide +kernel) rfl
theorem wd_188 : Cond.fieldLink cn_FP 43 cn_FP "consumerState" "I" ∈ fq_TB := fq_in 188 (by decide +kernel) rfl
theorem wd_211 : Cond.static my_FP_fitsSection ∈ fq_TB := fq_in 211 (by decide +kernel) rfl
theorem wd_212 : Cond.code my_FP_fitsSection cb_FP_fitsSection 1 (some .boolean) ∈ fq_TB := fq_in 212 (by decide +kernel) rfl
theorem wd_214 : Cond.static my_FP_isStable ∈ fq_TB := fq_in 214 (by decide +kernel) rfl
theorem wd_215 : Cond.code my_FP_isStable cb_FP_isStable 3 (some .boolean) ∈ fq_TB := fq_in 215 (by decide +kernel) rfl
theorem wd_222 : Cond.instanceMethod my_FP_isStarted ∈ fq_TB := fq_in 222 (by decide +kernel) rfl
theorem wd_223 : Cond.code my_FP_isStarted cb_FP_isStarted 1 (some .boolean) ∈ fq_TB := fq_in 223 (by decide +kernel) rfl
theorem wd_412 : Cond.static my_FP_isFactor ∈ fq_TB := fq_in 412 (by decide +kernel) rfl
theorem wd_413 : Cond.code my_FP_isFactor cb_FP_isFactor 1 (some .boolean) ∈ fq_TB := fq_in 413 (by decide +kernel) rfl
theorem wd_720 : Cond.instanceMethod my_FP_state ∈ fq_TB := fq_in 720 (by decide +kernel) rfl
theorem wd_721 : Cond.selects cn_FP my_FP_state my_FP_state ∈ fq_TB := fq_in 721 (by decide +kernel) rfl
theorem wd_722 : Cond.code my_FP_state cb_FP_state 1 (some .int) ∈ fq_TB := fq_in 722 (by decide +kernel) rfl
def fp_n (ps cs ca iw ow : Nat) (sts : List ch_T) : Prop := ps ≤ 3 ∧ cs ≤ 3 ∧ ca ≤ 120 ∧ (1 ≤ iw ∧ iw ≤ 4) ∧ (1 ≤ ow ∧ ow ≤ 4) ∧ sts.length ≤ 5
def fp_W (cI cO : ClassId) (tE h : Nat) (sts : List ch_T) (rs : Nat) (fl : Bool) (ps : Nat) (cs : Nat) (ca : Nat) (cl : Bool) (iw : Nat) (ih : Bool) (Lb : List Int32) (Lh : List Int32) (Lr : List Int32) (rm : Nat) (ow : Nat) (oh : Bool) (Lk : List Int32) (ws : va_W) : Prop := ∃ (xC xL xR xA xS xY xW xV xH xI xG xJ xK xZ xP xQ : Nat) (f1 f2 f3 f4 f5 : Nat → Int32) (i1 i2 i3 i4 i5 : Nat) (wl : va_W) (Ls : List va_W), ws = [(h, .inr (10, [.ref xC, .ref xS, .ref xH, .ref xG, .ref xK, .int (fq_b fl), .int (nI ps), .int (nI cs)])), (xC, .inr (6, [.ref xL, .ref xR, .int (nI rs)])), (xR, .inr (0, [.ref xA, .int (nI i1), .int (nI ([] : List Int32).length)])), (xA, .inl (cI, 366, .inl f1)), (xS, .inr (8, [.ref xY, .ref xW, .int (nI ca), .int (fq_b cl)])), (xY, .inr (7, [.int (nI iw), .int (fq_b ih)])), (xW, .inr (0, [.ref xV, .int (nI i2), .int (nI Lb.length)])), (xV, .inl (cI, 120, .inl f2)), (xH, .inr (0, [.ref xI, .int (nI i3), .int (nI Lh.length)])), (xI, .inl (cI, 366, .inl f3)), (xG, .inr (0, [.ref xJ, .int (nI i4), .int (nI Lr.length)])), (xJ, .inl (cI, rm, .inl f4)), (xK, .inr (9, [.ref xZ, .ref xP])), (xZ, .inr (7, [.int (nI ow), .int (fq_b oh)])), (xP, .inr (0, [.ref xQ, .int (nI i5), .int (nI Lk.length)])), (xQ, .inl (cI, 2286, .inl f5))] ++ (wl :: Ls).flatten ∧ rw_ok 366 f1 i1 [] ∧ rw_ok 120 f2 i2 Lb ∧ rw_ok 366 f3 i3 Lh ∧ rw_ok rm f4 i4 Lr ∧ rw_ok 2286 f5 i5 Lk ∧ al_W tE cO xL sts wl ∧ ch_ok cI Ls sts ∧ fp_n ps cs ca iw ow sts

abbrev fs_c (x : Int) : Prop := -32768 ≤ x ∧ x ≤ 32767
abbrev is_c (a1 a2 : Int) : Prop := -16384 < a2 ∧ a2 < 16384 ∧ -(16384 + a2) < a1 ∧ a1 < 16384 + a2
theorem is_a {y : Int32} (h1 : -16384 < y.toInt) (h2 : y.toInt < 16384) : (16384 + y).toInt = 16384 + y.toInt := by
  have e : (16384 : Int32).toInt = 16384 := by decide
  rw [Kit.i32_add (by rw [e]; omega) (by rw [e]; omega), e]
theorem is_n {y : Int32} (h1 : -16384 < y.toInt) (h2 : y.toInt < 16384) : (-(16384 + y)).toInt = -(16384 + y.toInt) := by
  rw [Kit.i32_neg (by rw [is_a h1 h2]; omega), is_a h1 h2]

theorem dc_FP_isStarted_0 : decode cb_FP_isStarted 0 = .ok (.aload_n 0, 1) := by decide +kernel
theorem dc_FP_isStarted_1 : decode cb_FP_isStarted 1 = .ok (.getfield 39, 3) := by decide +kernel
theorem dc_FP_isStarted_4 : decode cb_FP_isStarted 4 = .ok (.ifCond .eq 7, 3) := by decide +kernel
theorem dc_FP_isStarted_7 : decode cb_FP_isStarted 7 = .ok (.iconst 1, 1) := by decide +kernel
theorem dc_FP_isStarted_8 : decode cb_FP_isStarted 8 = .ok (.goto 4, 3) := by decide +kernel
theorem dc_FP_isStarted_11 : decode cb_FP_isStarted 11 = .ok (.iconst 0, 1) := by decide +kernel
theorem dc_FP_isStarted_12 : decode cb_FP_isStarted 12 = .ok (.ireturn, 1) := by decide +kernel
theorem yk_FP_isStarted : fq_Y my_FP_isStarted cb_FP_isStarted 1 (some .boolean) 0 := ⟨wd_223, wd_26, by decide +kernel⟩
theorem dc_FP_fitsSection_0 : decode cb_FP_fitsSection 0 = .ok (.iload_n 0, 1) := by decide +kernel
theorem dc_FP_fitsSection_1 : decode cb_FP_fitsSection 1 = .ok (.sipush (-32768), 3) := by decide +kernel
theorem dc_FP_fitsSection_4 : decode cb_FP_fitsSection 4 = .ok (.if_icmp .lt 14, 3) := by decide +kernel
theorem dc_FP_fitsSection_7 : decode cb_FP_fitsSection 7 = .ok (.iload_n 0, 1) := by decide +kernel
theorem dc_FP_fitsSection_8 : decode cb_FP_fitsSection 8 = .ok (.sipush 32767, 3) := by decide +kernel
theorem dc_FP_fitsSection_11 : decode cb_FP_fitsSection 11 = .ok (.if_icmp .gt 7, 3) := by decide +kernel
theorem dc_FP_fitsSection_14 : decode cb_FP_fitsSection 14 = .ok (.iconst 1, 1) := by decide +kernel
theorem dc_FP_fitsSection_15 : decode cb_FP_fitsSection 15 = .ok (.goto 4, 3) := by decide +kernel
theorem dc_FP_fitsSection_18 : decode cb_FP_fitsSection 18 = .ok (.iconst 0, 1) := by decide +kernel
theorem dc_FP_fitsSection_19 : decode cb_FP_fitsSection 19 = .ok (.ireturn, 1) := by decide +kernel
theorem yk_FP_fitsSection : fq_Y my_FP_fitsSection cb_FP_fitsSection 1 (some .boolean) 1 := ⟨wd_212, wd_26, by decide +kernel⟩
theorem dc_FP_isStable_0 : decode cb_FP_isStable 0 = .ok (.iload_n 1, 1) := by decide +kernel
theorem dc_FP_isStable_1 : decode cb_FP_isStable 1 = .ok (.sipush (-16384), 3) := by decide +kernel
theorem dc_FP_isStable_4 : decode cb_FP_isStable 4 = .ok (.if_icmp .le 10, 3) := by decide +kernel
theorem dc_FP_isStable_7 : decode cb_FP_isStable 7 = .ok (.iload_n 1, 1) := by decide +kernel
theorem dc_FP_isStable_8 : decode cb_FP_isStable 8 = .ok (.sipush 16384, 3) := by decide +kernel
theorem dc_FP_isStable_11 : decode cb_FP_isStable 11 = .ok (.if_icmp .lt 5, 3) := by decide +kernel
theorem dc_FP_isStable_14 : decode cb_FP_isStable 14 = .ok (.iconst 0, 1) := by decide +kernel
theorem dc_FP_isStable_15 : decode cb_FP_isStable 15 = .ok (.ireturn, 1) := by decide +kernel
theorem dc_FP_isStable_16 : decode cb_FP_isStable 16 = .ok (.sipush 16384, 3) := by decide +kernel
theorem dc_FP_isStable_19 : decode cb_FP_isStable 19 = .ok (.iload_n 1, 1) := by decide +kernel
theorem dc_FP_isStable_20 : decode cb_FP_isStable 20 = .ok (.iadd, 1) := by decide +kernel
theorem dc_FP_isStable_21 : decode cb_FP_isStable 21 = .ok (.istore_n 2, 1) := by decide +kernel
theorem dc_FP_isStable_22 : decode cb_FP_isStable 22 = .ok (.iload_n 0, 1) := by decide +kernel
theorem dc_FP_isStable_23 : decode cb_FP_isStable 23 = .ok (.iload_n 2, 1) := by decide +kernel
theorem dc_FP_isStable_24 : decode cb_FP_isStable 24 = .ok (.ineg, 1) := by decide +kernel
theorem dc_FP_isStable_25 : decode cb_FP_isStable 25 = .ok (.if_icmp .le 12, 3) := by decide +kernel
theorem dc_FP_isStable_28 : decode cb_FP_isStable 28 = .ok (.iload_n 0, 1) := by decide +kernel
theorem dc_FP_isStable_29 : decode cb_FP_isStable 29 = .ok (.iload_n 2, 1) := by decide +kernel
theorem dc_FP_isStable_30 : decode cb_FP_isStable 30 = .ok (.if_icmp .ge 7, 3) := by decide +kernel
theorem dc_FP_isStable_33 : decode cb_FP_isStable 33 = .ok (.iconst 1, 1) := by decide +kernel
theorem dc_FP_isStable_34 : decode cb_FP_isStable 34 = .ok (.goto 4, 3) := by decide +kernel
theorem dc_FP_isStable_37 : decode cb_FP_isStable 37 = .ok (.iconst 0, 1) := by decide +kernel
theorem dc_FP_isStable_38 : decode cb_FP_isStable 38 = .ok (.ireturn, 1) := by decide +kernel
theorem yk_FP_isStable : fq_Y my_FP_isStable cb_FP_isStable 3 (some .boolean) 2 := ⟨wd_215, wd_26, by decide +kernel⟩
theorem dc_FP_isFactor_0 : decode cb_FP_isFactor 0 = .ok (.iload_n 0, 1) := by decide +kernel
theorem dc_FP_isFactor_1 : decode cb_FP_isFactor 1 = .ok (.iconst 1, 1) := by decide +kernel
theorem dc_FP_isFactor_2 : decode cb_FP_isFactor 2 = .ok (.if_icmp .lt 12, 3) := by decide +kernel
theorem dc_FP_isFactor_5 : decode cb_FP_isFactor 5 = .ok (.iload_n 0, 1) := by decide +kernel
theorem dc_FP_isFactor_6 : decode cb_FP_isFactor 6 = .ok (.iconst 4, 1) := by decide +kernel
theorem dc_FP_isFactor_7 : decode cb_FP_isFactor 7 = .ok (.if_icmp .gt 7, 3) := by decide +kernel
theorem dc_FP_isFactor_10 : decode cb_FP_isFactor 10 = .ok (.iconst 1, 1) := by decide +kernel
theorem dc_FP_isFactor_11 : decode cb_FP_isFactor 11 = .ok (.goto 4, 3) := by decide +kernel
theorem dc_FP_isFactor_14 : decode cb_FP_isFactor 14 = .ok (.iconst 0, 1) := by decide +kernel
theorem dc_FP_isFactor_15 : decode cb_FP_isFactor 15 = .ok (.ireturn, 1) := by decide +kernel
theorem yk_FP_isFactor : fq_Y my_FP_isFactor cb_FP_isFactor 1 (some .boolean) 1 := ⟨wd_413, wd_26, by decide +kernel⟩
theorem dc_FP_state_0 : decode cb_FP_state 0 = .ok (.aload_n 0, 1) := by decide +kernel
theorem dc_FP_state_1 : decode cb_FP_state 1 = .ok (.getfield 39, 3) := by decide +kernel
theorem dc_FP_state_4 : decode cb_FP_state 4 = .ok (.iconst 4, 1) := by decide +kernel
theorem dc_FP_state_5 : decode cb_FP_state 5 = .ok (.aload_n 0, 1) := by decide +kernel
theorem dc_FP_state_6 : decode cb_FP_state 6 = .ok (.getfield 43, 3) := by decide +kernel
theorem dc_FP_state_9 : decode cb_FP_state 9 = .ok (.imul, 1) := by decide +kernel
theorem dc_FP_state_10 : decode cb_FP_state 10 = .ok (.iadd, 1) := by decide +kernel
theorem dc_FP_state_11 : decode cb_FP_state 11 = .ok (.ireturn, 1) := by decide +kernel
theorem yk_FP_state : fq_Y my_FP_state cb_FP_state 1 (some .int) 0 := ⟨wd_722, wd_26, by decide +kernel⟩
set_option maxHeartbeats 4000000 in
set_option maxRecDepth 100000 in
theorem ct_FP_fitsSection (l : Launch) (D : va_G) (cI cO : ClassId) (tE : Nat) (x : Int32) (sz : Nat) : Met l my_FP_fitsSection (fq_w my_FP_fitsSection cb_FP_fitsSection 1 (some .boolean)) ({ frames := 0, cells := 0, slots := 0, locals := 0 }) (va_Pc ([.int x]) (fq_Pre D cI cO tE sz ([]))) (va_Qi (S := va_W) (fun r w => w = [] ∧ r = if fs_c x.toInt then 1 else 0) (fq_Bw D (va_A ([]) sz)) (va_A ([]) sz)) (0) (0) (va_A ([]) sz) := by
  refine fq_open (by decide +kernel) (Nat.le_of_ble_eq_true rfl) ?_
  intro pg ev s mt below meth cd ls K hret hlk hin hK hZ hP hD hA hS hl
  generalize va_A ([]) sz = A at hZ hD hA hS ⊢
  have K : fq_Ctx pg mt cd cb_FP_fitsSection 1 s _ cn_FP := K
  have hl : lv_has ls 1 [(0, .int x)] := hl
  refine lv_iload_n K.1 K.2.1 dc_FP_fitsSection_0 rfl (lv_at hl 0 rfl) ?_
  refine lv_sipush (v := (-32768)) K.1 K.2.1 dc_FP_fitsSection_1 (by decide) ?_
  refine lv_icmp_lt (tgt := 18) K.1 K.2.1 dc_FP_fitsSection_4 rfl (fun b4 => ?_) (fun b4 => ?_)
  · skip
    rw [Int32.lt_iff_toInt_lt, show (-32768 : Int32).toInt = -32768 by decide] at b4
    have hx : ¬ fs_c x.toInt := fun z => by unfold fs_c at z; omega
    refine lv_iconst (v := 0) K.1 K.2.1 dc_FP_fitsSection_18 (by decide) ?_
    exact fq_retz K hret hlk hS hP hD (by first | exact Or.inl rfl | exact Or.inr rfl) ⟨rfl, by rw [if_neg hx]⟩ dc_FP_fitsSection_19 (Nat.le_of_ble_eq_true rfl) (Nat.le_of_ble_eq_true rfl)
  · skip
    rw [Int32.lt_iff_toInt_lt, show (-32768 : Int32).toInt = -32768 by decide] at b4
    refine lv_iload_n K.1 K.2.1 dc_FP_fitsSection_7 rfl (lv_at hl 0 rfl) ?_
    refine lv_sipush (v := 32767) K.1 K.2.1 dc_FP_fitsSection_8 (by decide) ?_
    refine lv_icmp_gt (tgt := 18) K.1 K.2.1 dc_FP_fitsSection_11 rfl (fun b11 => ?_) (fun b11 => ?_)
    · skip
      rw [Int32.lt_iff_toInt_lt, show (32767 : Int32).toInt = 32767 by decide] at b11
      have hx : ¬ fs_c x.toInt := fun z => by unfold fs_c at z; omega
      refine lv_iconst (v := 0) K.1 K.2.1 dc_FP_fitsSection_18 (by decide) ?_
      exact fq_retz K hret hlk hS hP hD (by first | exact Or.inl rfl | exact Or.inr rfl) ⟨rfl, by rw [if_neg hx]⟩ dc_FP_fitsSection_19 (Nat.le_of_ble_eq_true rfl) (Nat.le_of_ble_eq_true rfl)
    · skip
      rw [Int32.lt_iff_toInt_lt, show (32767 : Int32).toInt = 32767 by decide] at b11
      have hx : fs_c x.toInt := ⟨by omega, by omega⟩
      refine lv_iconst (v := 1) K.1 K.2.1 dc_FP_fitsSection_14 (by decide) ?_
      refine lv_goto (tgt := 19) K.1 K.2.1 dc_FP_fitsSection_15 rfl ?_
      exact fq_retz K hret hlk hS hP hD (by first | exact Or.inl rfl | exact Or.inr rfl) ⟨rfl, by rw [if_pos hx]⟩ dc_FP_fitsSection_19 (Nat.le_of_ble_eq_true rfl) (Nat.le_of_ble_eq_true rfl)
set_option maxHeartbeats 4000000 in
set_option maxRecDepth 100000 in
theorem ct_FP_isStable (l : Launch) (D : va_G) (cI cO : ClassId) (tE : Nat) (x y : Int32) (hy : fs_c x.toInt ∧ fs_c y.toInt) (sz : Nat) : Met l my_FP_isStable (fq_w my_FP_isStable cb_FP_isStable 3 (some .boolean)) ({ frames := 0, cells := 0, slots := 0, locals := 0 }) (va_Pc ([.int x, .int y]) (fq_Pre D cI cO tE sz ([]))) (va_Qi (S := va_W) (fun r w => w = [] ∧ r = if is_c x.toInt y.toInt then 1 else 0) (fq_Bw D (va_A ([]) sz)) (va_A ([]) sz)) (0) (0) (va_A ([]) sz) := by
  refine fq_open (by decide +kernel) (Nat.le_of_ble_eq_true rfl) ?_
  intro pg ev s mt below meth cd ls K hret hlk hin hK hZ hP hD hA hS hl
  generalize va_A ([]) sz = A at hZ hD hA hS ⊢
  have K : fq_Ctx pg mt cd cb_FP_isStable 3 s _ cn_FP := K
  have hl : lv_has ls 3 [(0, .int x), (1, .int y)] := hl
  refine lv_iload_n K.1 K.2.1 dc_FP_isStable_0 rfl (lv_at hl 1 rfl) ?_
  refine lv_sipush (v := (-16384)) K.1 K.2.1 dc_FP_isStable_1 (by decide) ?_
  refine lv_icmp_le (tgt := 14) K.1 K.2.1 dc_FP_isStable_4 rfl (fun b4 => ?_) (fun b4 => ?_)
  · skip
    rw [Int32.le_iff_toInt_le, show (-16384 : Int32).toInt = -16384 by decide] at b4
    have hx : ¬ is_c x.toInt y.toInt := fun z => by unfold is_c at z; omega
    refine lv_iconst (v := 0) K.1 K.2.1 dc_FP_isStable_14 (by decide) ?_
    exact fq_retz K hret hlk hS hP hD (by first | exact Or.inl rfl | exact Or.inr rfl) ⟨rfl, by rw [if_neg hx]⟩ dc_FP_isStable_15 (Nat.le_of_ble_eq_true rfl) (Nat.le_of_ble_eq_true rfl)
  · skip
    rw [Int32.le_iff_toInt_le, show (-16384 : Int32).toInt = -16384 by decide] at b4
    refine lv_iload_n K.1 K.2.1 dc_FP_isStable_7 rfl (lv_at hl 1 rfl) ?_
    refine lv_sipush (v := 16384) K.1 K.2.1 dc_FP_isStable_8 (by decide) ?_
    refine lv_icmp_lt (tgt := 16) K.1 K.2.1 dc_FP_isStable_11 rfl (fun b11 => ?_) (fun b11 => ?_)
    · skip
      rw [Int32.lt_iff_toInt_lt, show (16384 : Int32).toInt = 16384 by decide] at b11
      have e1 : (16384 + y).toInt = 16384 + y.toInt := is_a (by omega) (by omega)
      have e2 : (-(16384 + y)).toInt = -(16384 + y.toInt) := is_n (by omega) (by omega)
      refine lv_sipush (v := 16384) K.1 K.2.1 dc_FP_isStable_16 (by decide) ?_
      refine lv_iload_n K.1 K.2.1 dc_FP_isStable_19 rfl (lv_at hl 1 rfl) ?_
      refine lv_iadd K.1 K.2.1 dc_FP_isStable_20 ?_
      refine lv_topi (fun v1 e_v1 => ?_)
      refine lv_istore_n K.1 K.2.1 dc_FP_isStable_21 rfl hl (by decide) rfl (fun ls hl => ?_)
      have hl : lv_has ls 3 [(2, .int v1), (0, .int x), (1, .int y)] := hl
      refine lv_iload_n K.1 K.2.1 dc_FP_isStable_22 rfl (lv_at hl 1 rfl) ?_
      refine lv_iload_n K.1 K.2.1 dc_FP_isStable_23 rfl (lv_at hl 0 rfl) ?_
      refine lv_ineg K.1 K.2.1 dc_FP_isStable_24 ?_
      refine lv_icmp_le (tgt := 37) K.1 K.2.1 dc_FP_isStable_25 rfl (fun b25 => ?_) (fun b25 => ?_)
      · skip
        rw [Int32.le_iff_toInt_le, e_v1, e2] at b25
        have hx : ¬ is_c x.toInt y.toInt := fun z => by unfold is_c at z; omega
        refine lv_iconst (v := 0) K.1 K.2.1 dc_FP_isStable_37 (by decide) ?_
        exact fq_retz K hret hlk hS hP hD (by first | exact Or.inl rfl | exact Or.inr rfl) ⟨rfl, by rw [if_neg hx]⟩ dc_FP_isStable_38 (Nat.le_of_ble_eq_true rfl) (Nat.le_of_ble_eq_true rfl)
      · skip
        rw [Int32.le_iff_toInt_le, e_v1, e2] at b25
        refine lv_iload_n K.1 K.2.1 dc_FP_isStable_28 rfl (lv_at hl 1 rfl) ?_
        refine lv_iload_n K.1 K.2.1 dc_FP_isStable_29 rfl (lv_at hl 0 rfl) ?_
        refine lv_icmp_ge (tgt := 37) K.1 K.2.1 dc_FP_isStable_30 rfl (fun b30 => ?_) (fun b30 => ?_)
        · skip
          rw [Int32.le_iff_toInt_le, e_v1, e1] at b30
          have hx : ¬ is_c x.toInt y.toInt := fun z => by unfold is_c at z; omega
          refine lv_iconst (v := 0) K.1 K.2.1 dc_FP_isStable_37 (by decide) ?_
          exact fq_retz K hret hlk hS hP hD (by first | exact Or.inl rfl | exact Or.inr rfl) ⟨rfl, by rw [if_neg hx]⟩ dc_FP_isStable_38 (Nat.le_of_ble_eq_true rfl) (Nat.le_of_ble_eq_true rfl)
        · skip
          rw [Int32.le_iff_toInt_le, e_v1, e1] at b30
          have hx : is_c x.toInt y.toInt := ⟨by omega, by omega, by omega, by omega⟩
          refine lv_iconst (v := 1) K.1 K.2.1 dc_FP_isStable_33 (by decide) ?_
          refine lv_goto (tgt := 38) K.1 K.2.1 dc_FP_isStable_34 rfl ?_
          exact fq_retz K hret hlk hS hP hD (by first | exact Or.inl rfl | exact Or.inr rfl) ⟨rfl, by rw [if_pos hx]⟩ dc_FP_isStable_38 (Nat.le_of_ble_eq_true rfl) (Nat.le_of_ble_eq_true rfl)
    · skip
      rw [Int32.lt_iff_toInt_lt, show (16384 : Int32).toInt = 16384 by decide] at b11
      have hx : ¬ is_c x.toInt y.toInt := fun z => by unfold is_c at z; omega
      refine lv_iconst (v := 0) K.1 K.2.1 dc_FP_isStable_14 (by decide) ?_
      exact fq_retz K hret hlk hS hP hD (by first | exact Or.inl rfl | exact Or.inr rfl) ⟨rfl, by rw [if_neg hx]⟩ dc_FP_isStable_15 (Nat.le_of_ble_eq_true rfl) (Nat.le_of_ble_eq_true rfl)
set_option maxHeartbeats 4000000 in
set_option maxRecDepth 100000 in
theorem ct_FP_isFactor (l : Launch) (D : va_G) (cI cO : ClassId) (tE : Nat) (x : Int32) (sz : Nat) : Met l my_FP_isFactor (fq_w my_FP_isFactor cb_FP_isFactor 1 (some .boolean)) ({ frames := 0, cells := 0, slots := 0, locals := 0 }) (va_Pc ([.int x]) (fq_Pre D cI cO tE sz ([]))) (va_Qi (S := va_W) (fun r w => w = [] ∧ r = if 1 ≤ x.toInt ∧ x.toInt ≤ 4 then 1 else 0) (fq_Bw D (va_A ([]) sz)) (va_A ([]) sz)) (0) (0) (va_A ([]) sz) := by
  refine fq_open (by decide +kernel) (Nat.le_of_ble_eq_true rfl) ?_
  intro pg ev s mt below meth cd ls K hret hlk hin hK hZ hP hD hA hS hl
  generalize va_A ([]) sz = A at hZ hD hA hS ⊢
  have K : fq_Ctx pg mt cd cb_FP_isFactor 1 s _ cn_FP := K
  have hl : lv_has ls 1 [(0, .int x)] := hl
  refine lv_iload_n K.1 K.2.1 dc_FP_isFactor_0 rfl (lv_at hl 0 rfl) ?_
  refine lv_iconst (v := 1) K.1 K.2.1 dc_FP_isFactor_1 (by decide) ?_
  refine lv_icmp_lt (tgt := 14) K.1 K.2.1 dc_FP_isFactor_2 rfl (fun b2 => ?_) (fun b2 => ?_)
  · skip
    rw [Int32.lt_iff_toInt_lt, show (1 : Int32).toInt = 1 by decide] at b2
    have hx : ¬ (1 ≤ x.toInt ∧ x.toInt ≤ 4) := fun z => by omega
    refine lv_iconst (v := 0) K.1 K.2.1 dc_FP_isFactor_14 (by decide) ?_
    exact fq_retz K hret hlk hS hP hD (by first | exact Or.inl rfl | exact Or.inr rfl) ⟨rfl, by rw [if_neg hx]⟩ dc_FP_isFactor_15 (Nat.le_of_ble_eq_true rfl) (Nat.le_of_ble_eq_true rfl)
  · skip
    rw [Int32.lt_iff_toInt_lt, show (1 : Int32).toInt = 1 by decide] at b2
    refine lv_iload_n K.1 K.2.1 dc_FP_isFactor_5 rfl (lv_at hl 0 rfl) ?_
    refine lv_iconst (v := 4) K.1 K.2.1 dc_FP_isFactor_6 (by decide) ?_
    refine lv_icmp_gt (tgt := 14) K.1 K.2.1 dc_FP_isFactor_7 rfl (fun b7 => ?_) (fun b7 => ?_)
    · skip
      rw [Int32.lt_iff_toInt_lt, show (4 : Int32).toInt = 4 by decide] at b7
      have hx : ¬ (1 ≤ x.toInt ∧ x.toInt ≤ 4) := fun z => by omega
      refine lv_iconst (v := 0) K.1 K.2.1 dc_FP_isFactor_14 (by decide) ?_
      exact fq_retz K hret hlk hS hP hD (by first | exact Or.inl rfl | exact Or.inr rfl) ⟨rfl, by rw [if_neg hx]⟩ dc_FP_isFactor_15 (Nat.le_of_ble_eq_true rfl) (Nat.le_of_ble_eq_true rfl)
    · skip
      rw [Int32.lt_iff_toInt_lt, show (4 : Int32).toInt = 4 by decide] at b7
      have hx : 1 ≤ x.toInt ∧ x.toInt ≤ 4 := ⟨by omega, by omega⟩
      refine lv_iconst (v := 1) K.1 K.2.1 dc_FP_isFactor_10 (by decide) ?_
      refine lv_goto (tgt := 15) K.1 K.2.1 dc_FP_isFactor_11 rfl ?_
      exact fq_retz K hret hlk hS hP hD (by first | exact Or.inl rfl | exact Or.inr rfl) ⟨rfl, by rw [if_pos hx]⟩ dc_FP_isFactor_15 (Nat.le_of_ble_eq_true rfl) (Nat.le_of_ble_eq_true rfl)
set_option maxHeartbeats 4000000 in
set_option maxRecDepth 100000 in
theorem ct_FP_isStarted (l : Launch) (D : va_G) (cI cO : ClassId) (tE : Nat) (h : Nat) (sts : List ch_T) (rs : Nat) (fl : Bool) (ps : Nat) (cs : Nat) (ca : Nat) (cl : Bool) (iw : Nat) (ih : Bool) (Lb : List Int32) (Lh : List Int32) (Lr : List Int32) (rm : Nat) (ow : Nat) (oh : Bool) (Lk : List Int32) (ws : va_W) (hfp : fp_W cI cO tE h sts rs fl ps cs ca cl iw ih Lb Lh Lr rm ow oh Lk ws)  (sz : Nat) : Met l my_FP_isStarted (fq_w my_FP_isStarted cb_FP_isStarted 1 (some .boolean)) ({ frames := 0, cells := 0, slots := 0, locals := 0 }) (va_Pc ([.ref h]) (fq_Pre D cI cO tE sz (ws))) (va_Qi (S := va_W) (fun r w => w = ws ∧ r = if ps = 0 then 0 else 1) (fq_Bw D (va_A (ws) sz)) (va_A (ws) sz)) (0) (0) (va_A (ws) sz) := by
  refine fq_open (by decide +kernel) (Nat.le_of_ble_eq_true rfl) ?_
  intro pg ev s mt below meth cd ls K hret hlk hin hK hZ hP hD hA hS hl
  generalize va_A (ws) sz = A at hZ hD hA hS ⊢
  have K : fq_Ctx pg mt cd cb_FP_isStarted 1 s _ cn_FP := K
  have hl : lv_has ls 1 [(0, .ref h)] := hl
  obtain ⟨xC, xL, xR, xA, xS, xY, xW, xV, xH, xI, xG, xJ, xK, xZ, xP, xQ, f1, f2, f3, f4, f5, i1, i2, i3, i4, i5, wl, Ls, rfl, k1, k2, k3, k4, k5, kal, kch, kn⟩ := hfp
  have hP : va_P D fq_cl ([(h, .inr (10, [.ref xC, .ref xS, .ref xH, .ref xG, .ref xK, .int (fq_b fl), .int (nI ps), .int (nI cs)])), (xC, .inr (6, [.ref xL, .ref xR, .int (nI rs)])), (xR, .inr (0, [.ref xA, .int (nI i1), .int (nI ([] : List Int32).length)])), (xA, .inl (cI, 366, .inl f1)), (xS, .inr (8, [.ref xY, .ref xW, .int (nI ca), .int (fq_b cl)])), (xY, .inr (7, [.int (nI iw), .int (fq_b ih)])), (xW, .inr (0, [.ref xV, .int (nI i2), .int (nI Lb.length)])), (xV, .inl (cI, 120, .inl f2)), (xH, .inr (0, [.ref xI, .int (nI i3), .int (nI Lh.length)])), (xI, .inl (cI, 366, .inl f3)), (xG, .inr (0, [.ref xJ, .int (nI i4), .int (nI Lr.length)])), (xJ, .inl (cI, rm, .inl f4)), (xK, .inr (9, [.ref xZ, .ref xP])), (xZ, .inr (7, [.int (nI ow), .int (fq_b oh)])), (xP, .inr (0, [.ref xQ, .int (nI i5), .int (nI Lk.length)])), (xQ, .inl (cI, 2286, .inl f5))] ++ (wl :: Ls).flatten) _ := hP
  have hD : va_D A ([(h, .inr (10, [.ref xC, .ref xS, .ref xH, .ref xG, .ref xK, .int (fq_b fl), .int (nI ps), .int (nI cs)])), (xC, .inr (6, [.ref xL, .ref xR, .int (nI rs)])), (xR, .inr (0, [.ref xA, .int (nI i1), .int (nI ([] : List Int32).length)])), (xA, .inl (cI, 366, .inl f1)), (xS, .inr (8, [.ref xY, .ref xW, .int (nI ca), .int (fq_b cl)])), (xY, .inr (7, [.int (nI iw), .int (fq_b ih)])), (xW, .inr (0, [.ref xV, .int (nI i2), .int (nI Lb.length)])), (xV, .inl (cI, 120, .inl f2)), (xH, .inr (0, [.ref xI, .int (nI i3), .int (nI Lh.length)])), (xI, .inl (cI, 366, .inl f3)), (xG, .inr (0, [.ref xJ, .int (nI i4), .int (nI Lr.length)])), (xJ, .inl (cI, rm, .inl f4)), (xK, .inr (9, [.ref xZ, .ref xP])), (xZ, .inr (7, [.int (nI ow), .int (fq_b oh)])), (xP, .inr (0, [.ref xQ, .int (nI i5), .int (nI Lk.length)])), (xQ, .inl (cI, 2286, .inl f5))] ++ (wl :: Ls).flatten) := hD
  refine lv_aload_n K.1 K.2.1 dc_FP_isStarted_0 rfl (lv_at hl 0 rfl) ?_
  refine fq_get K hK cl_FP hP 0 6 rfl (by decide) wd_187 rfl dc_FP_isStarted_1 ?_
  refine lv_if_eq (tgt := 11) K.1 K.2.1 dc_FP_isStarted_4 rfl (fun b4 => ?_) (fun b4 => ?_)
  · skip
    have hz : ps = 0 := (nI_eq (by have := kn.1; omega) (by decide)).mp (b4.trans nI_0.symm)
    refine lv_iconst (v := 0) K.1 K.2.1 dc_FP_isStarted_11 (by decide) ?_
    exact fq_retz K hret hlk hS hP hD (by first | exact Or.inl rfl | exact Or.inr rfl) ⟨rfl, by rw [if_pos hz]⟩ dc_FP_isStarted_12 (Nat.le_of_ble_eq_true rfl) (Nat.le_of_ble_eq_true rfl)
  · skip
    have hz : ¬ ps = 0 := fun z => b4 (by rw [z, nI_0])
    refine lv_iconst (v := 1) K.1 K.2.1 dc_FP_isStarted_7 (by decide) ?_
    refine lv_goto (tgt := 12) K.1 K.2.1 dc_FP_isStarted_8 rfl ?_
    exact fq_retz K hret hlk hS hP hD (by first | exact Or.inl rfl | exact Or.inr rfl) ⟨rfl, by rw [if_neg hz]⟩ dc_FP_isStarted_12 (Nat.le_of_ble_eq_true rfl) (Nat.le_of_ble_eq_true rfl)
set_option maxHeartbeats 4000000 in
set_option maxRecDepth 100000 in
theorem ct_FP_state (l : Launch) (D : va_G) (cI cO : ClassId) (tE : Nat) (h : Nat) (sts : List ch_T) (rs : Nat) (fl : Bool) (ps : Nat) (cs : Nat) (ca : Nat) (cl : Bool) (iw : Nat) (ih : Bool) (Lb : List Int32) (Lh : List Int32) (Lr : List Int32) (rm : Nat) (ow : Nat) (oh : Bool) (Lk : List Int32) (ws : va_W) (hfp : fp_W cI cO tE h sts rs fl ps cs ca cl iw ih Lb Lh Lr rm ow oh Lk ws)  (sz : Nat) : Met l my_FP_state (fq_w my_FP_state cb_FP_state 1 (some .int)) ({ frames := 0, cells := 0, slots := 0, locals := 0 }) (va_Pc ([.ref h]) (fq_Pre D cI cO tE sz (ws))) (va_Qi (S := va_W) (fun r w => w = ws ∧ r = nI (ps + 4 * cs)) (fq_Bw D (va_A (ws) sz)) (va_A (ws) sz)) (0) (0) (va_A (ws) sz) := by
  refine fq_open (by decide +kernel) (Nat.le_of_ble_eq_true rfl) ?_
  intro pg ev s mt below meth cd ls K hret hlk hin hK hZ hP hD hA hS hl
  generalize va_A (ws) sz = A at hZ hD hA hS ⊢
  have K : fq_Ctx pg mt cd cb_FP_state 1 s _ cn_FP := K
  have hl : lv_has ls 1 [(0, .ref h)] := hl
  obtain ⟨xC, xL, xR, xA, xS, xY, xW, xV, xH, xI, xG, xJ, xK, xZ, xP, xQ, f1, f2, f3, f4, f5, i1, i2, i3, i4, i5, wl, Ls, rfl, k1, k2, k3, k4, k5, kal, kch, kn⟩ := hfp
  have hP : va_P D fq_cl ([(h, .inr (10, [.ref xC, .ref xS, .ref xH, .ref xG, .ref xK, .int (fq_b fl), .int (nI ps), .int (nI cs)])), (xC, .inr (6, [.ref xL, .ref xR, .int (nI rs)])), (xR, .inr (0, [.ref xA, .int (nI i1), .int (nI ([] : List Int32).length)])), (xA, .inl (cI, 366, .inl f1)), (xS, .inr (8, [.ref xY, .ref xW, .int (nI ca), .int (fq_b cl)])), (xY, .inr (7, [.int (nI iw), .int (fq_b ih)])), (xW, .inr (0, [.ref xV, .int (nI i2), .int (nI Lb.length)])), (xV, .inl (cI, 120, .inl f2)), (xH, .inr (0, [.ref xI, .int (nI i3), .int (nI Lh.length)])), (xI, .inl (cI, 366, .inl f3)), (xG, .inr (0, [.ref xJ, .int (nI i4), .int (nI Lr.length)])), (xJ, .inl (cI, rm, .inl f4)), (xK, .inr (9, [.ref xZ, .ref xP])), (xZ, .inr (7, [.int (nI ow), .int (fq_b oh)])), (xP, .inr (0, [.ref xQ, .int (nI i5), .int (nI Lk.length)])), (xQ, .inl (cI, 2286, .inl f5))] ++ (wl :: Ls).flatten) _ := hP
  have hD : va_D A ([(h, .inr (10, [.ref xC, .ref xS, .ref xH, .ref xG, .ref xK, .int (fq_b fl), .int (nI ps), .int (nI cs)])), (xC, .inr (6, [.ref xL, .ref xR, .int (nI rs)])), (xR, .inr (0, [.ref xA, .int (nI i1), .int (nI ([] : List Int32).length)])), (xA, .inl (cI, 366, .inl f1)), (xS, .inr (8, [.ref xY, .ref xW, .int (nI ca), .int (fq_b cl)])), (xY, .inr (7, [.int (nI iw), .int (fq_b ih)])), (xW, .inr (0, [.ref xV, .int (nI i2), .int (nI Lb.length)])), (xV, .inl (cI, 120, .inl f2)), (xH, .inr (0, [.ref xI, .int (nI i3), .int (nI Lh.length)])), (xI, .inl (cI, 366, .inl f3)), (xG, .inr (0, [.ref xJ, .int (nI i4), .int (nI Lr.length)])), (xJ, .inl (cI, rm, .inl f4)), (xK, .inr (9, [.ref xZ, .ref xP])), (xZ, .inr (7, [.int (nI ow), .int (fq_b oh)])), (xP, .inr (0, [.ref xQ, .int (nI i5), .int (nI Lk.length)])), (xQ, .inl (cI, 2286, .inl f5))] ++ (wl :: Ls).flatten) := hD
  refine lv_aload_n K.1 K.2.1 dc_FP_state_0 rfl (lv_at hl 0 rfl) ?_
  refine fq_get K hK cl_FP hP 0 6 rfl (by decide) wd_187 rfl dc_FP_state_1 ?_
  refine lv_iconst (v := 4) K.1 K.2.1 dc_FP_state_4 (by decide) ?_
  refine lv_aload_n K.1 K.2.1 dc_FP_state_5 rfl (lv_at hl 0 rfl) ?_
  refine fq_get K hK cl_FP hP 0 7 rfl (by decide) wd_188 rfl dc_FP_state_6 ?_
  refine lv_imul K.1 K.2.1 dc_FP_state_9 ?_
  refine fq_asi (y := nI (4 * cs)) (pk_mul 4 cs) ?_
  refine lv_iadd K.1 K.2.1 dc_FP_state_10 ?_
  refine fq_asi (y := nI (ps + 4 * cs)) (nI_add _ _) ?_
  exact fq_reti K hret hlk hS hP hD ⟨rfl, rfl⟩ dc_FP_state_11 (Nat.le_of_ble_eq_true rfl) (Nat.le_of_ble_eq_true rfl)
