theorem wd_844 : Cond.methodLink cn_Mo 57 my_Mo_canAdd ∈ fq_TB := fq_in 844 (by decide +kernel) rfl
theorem wd_851 : Cond.methodLink cn_Mo 65 my_Mo_add ∈ fq_TB := fq_in 851 (by decide +kernel) rfl
theorem wd_874 : Cond.instanceMethod my_Mo_gain ∈ fq_TB := fq_in 874 (by decide +kernel) rfl
theorem wd_875 : Cond.selects cn_Mo my_Mo_gain my_Mo_gain ∈ fq_TB := fq_in 875 (by decide +kernel) rfl
theorem wd_876 : Cond.code my_Mo_gain cb_Mo_gain 2 (some .boolean) ∈ fq_TB := fq_in 876 (by decide +kernel) rfl
theorem wd_878 : Cond.instanceMethod my_Mo_window ∈ fq_TB := fq_in 878 (by decide +kernel) rfl
theorem wd_879 : Cond.selects cn_Mo my_Mo_window my_Mo_window ∈ fq_TB := fq_in 879 (by decide +kernel) rfl
theorem wd_880 : Cond.code my_Mo_window cb_Mo_window 3 (some .boolean) ∈ fq_TB := fq_in 880 (by decide +kernel) rfl


theorem dc_Mo_gain_0 : decode cb_Mo_gain 0 = .ok (.aload_n 0, 1) := by decide +kernel
theorem dc_Mo_gain_1 : decode cb_Mo_gain 1 = .ok (.invokevirtual 57, 3) := by decide +kernel
theorem dc_Mo_gain_4 : decode cb_Mo_gain 4 = .ok (.ifCond .eq 17, 3) := by decide +kernel
theorem dc_Mo_gain_7 : decode cb_Mo_gain 7 = .ok (.iload_n 1, 1) := by decide +kernel
theorem dc_Mo_gain_8 : decode cb_Mo_gain 8 = .ok (.sipush (-1024), 3) := by decide +kernel
theorem dc_Mo_gain_11 : decode cb_Mo_gain 11 = .ok (.if_icmp .lt 10, 3) := by decide +kernel
theorem dc_Mo_gain_14 : decode cb_Mo_gain 14 = .ok (.iload_n 1, 1) := by decide +kernel
theorem dc_Mo_gain_15 : decode cb_Mo_gain 15 = .ok (.sipush 1024, 3) := by decide +kernel
theorem dc_Mo_gain_18 : decode cb_Mo_gain 18 = .ok (.if_icmp .le 5, 3) := by decide +kernel
theorem dc_Mo_gain_21 : decode cb_Mo_gain 21 = .ok (.iconst 0, 1) := by decide +kernel
theorem dc_Mo_gain_22 : decode cb_Mo_gain 22 = .ok (.ireturn, 1) := by decide +kernel
theorem dc_Mo_gain_23 : decode cb_Mo_gain 23 = .ok (.aload_n 0, 1) := by decide +kernel
theorem dc_Mo_gain_24 : decode cb_Mo_gain 24 = .ok (.iconst 1, 1) := by decide +kernel
theorem dc_Mo_gain_25 : decode cb_Mo_gain 25 = .ok (.iload_n 1, 1) := by decide +kernel
theorem dc_Mo_gain_26 : decode cb_Mo_gain 26 = .ok (.iconst 0, 1) := by decide +kernel
theorem dc_Mo_gain_27 : decode cb_Mo_gain 27 = .ok (.iconst 0, 1) := by decide +kernel
theorem dc_Mo_gain_28 : decode cb_Mo_gain 28 = .ok (.iconst 0, 1) := by decide +kernel
theorem dc_Mo_gain_29 : decode cb_Mo_gain 29 = .ok (.iconst 0, 1) := by decide +kernel
theorem dc_Mo_gain_30 : decode cb_Mo_gain 30 = .ok (.invokevirtual 65, 3) := by decide +kernel
theorem dc_Mo_gain_33 : decode cb_Mo_gain 33 = .ok (.iconst 1, 1) := by decide +kernel
theorem dc_Mo_gain_34 : decode cb_Mo_gain 34 = .ok (.ireturn, 1) := by decide +kernel
theorem yk_Mo_gain : fq_Y my_Mo_gain cb_Mo_gain 2 (some .boolean) 1 := ⟨wd_876, wd_36, by decide +kernel⟩
theorem dc_Mo_window_0 : decode cb_Mo_window 0 = .ok (.aload_n 0, 1) := by decide +kernel
theorem dc_Mo_window_1 : decode cb_Mo_window 1 = .ok (.invokevirtual 57, 3) := by decide +kernel
theorem dc_Mo_window_4 : decode cb_Mo_window 4 = .ok (.ifCond .eq 23, 3) := by decide +kernel
theorem dc_Mo_window_7 : decode cb_Mo_window 7 = .ok (.iload_n 1, 1) := by decide +kernel
theorem dc_Mo_window_8 : decode cb_Mo_window 8 = .ok (.ifCond .lt 19, 3) := by decide +kernel
theorem dc_Mo_window_11 : decode cb_Mo_window 11 = .ok (.iload_n 1, 1) := by decide +kernel
theorem dc_Mo_window_12 : decode cb_Mo_window 12 = .ok (.iconst 2, 1) := by decide +kernel
theorem dc_Mo_window_13 : decode cb_Mo_window 13 = .ok (.if_icmp .gt 14, 3) := by decide +kernel
theorem dc_Mo_window_16 : decode cb_Mo_window 16 = .ok (.iload_n 2, 1) := by decide +kernel
theorem dc_Mo_window_17 : decode cb_Mo_window 17 = .ok (.iconst 1, 1) := by decide +kernel
theorem dc_Mo_window_18 : decode cb_Mo_window 18 = .ok (.if_icmp .lt 9, 3) := by decide +kernel
theorem dc_Mo_window_21 : decode cb_Mo_window 21 = .ok (.iload_n 2, 1) := by decide +kernel
theorem dc_Mo_window_22 : decode cb_Mo_window 22 = .ok (.bipush 8, 2) := by decide +kernel
theorem dc_Mo_window_24 : decode cb_Mo_window 24 = .ok (.if_icmp .le 5, 3) := by decide +kernel
theorem dc_Mo_window_27 : decode cb_Mo_window 27 = .ok (.iconst 0, 1) := by decide +kernel
theorem dc_Mo_window_28 : decode cb_Mo_window 28 = .ok (.ireturn, 1) := by decide +kernel
theorem dc_Mo_window_29 : decode cb_Mo_window 29 = .ok (.aload_n 0, 1) := by decide +kernel
theorem dc_Mo_window_30 : decode cb_Mo_window 30 = .ok (.iconst 2, 1) := by decide +kernel
theorem dc_Mo_window_31 : decode cb_Mo_window 31 = .ok (.iload_n 1, 1) := by decide +kernel
theorem dc_Mo_window_32 : decode cb_Mo_window 32 = .ok (.iload_n 2, 1) := by decide +kernel
theorem dc_Mo_window_33 : decode cb_Mo_window 33 = .ok (.iconst 0, 1) := by decide +kernel
theorem dc_Mo_window_34 : decode cb_Mo_window 34 = .ok (.iconst 0, 1) := by decide +kernel
theorem dc_Mo_window_35 : decode cb_Mo_window 35 = .ok (.iconst 0, 1) := by decide +kernel
theorem dc_Mo_window_36 : decode cb_Mo_window 36 = .ok (.invokevirtual 65, 3) := by decide +kernel
theorem dc_Mo_window_39 : decode cb_Mo_window 39 = .ok (.iconst 1, 1) := by decide +kernel
theorem dc_Mo_window_40 : decode cb_Mo_window 40 = .ok (.ireturn, 1) := by decide +kernel
theorem yk_Mo_window : fq_Y my_Mo_window cb_Mo_window 3 (some .boolean) 2 := ⟨wd_880, wd_36, by decide +kernel⟩
set_option maxHeartbeats 4000000 in
set_option maxRecDepth 100000 in
theorem ct_Mo_gain (l : Launch) (D : va_G) (cI cO : ClassId) (tE : Nat) (h aK aN aB aS aL aX : Nat) (rm : Nat) (sd : Bool) (ns : Nat) (iw : Nat) (ow : Nat) (ih : Bool) (oh : Bool) (ca : Nat) (us : Nat) (cl : Bool) (fl : Bool) (tk : Nat) (md : Nat) (gi : Nat) (su : Nat) (ps : Nat) (cs : Nat) (fK fN fB fS fL fX : Nat → Int32) (x : Int32) (hns : ns ≤ 5) (sz : Nat) : Met l my_Mo_gain (fq_w my_Mo_gain cb_Mo_gain 2 (some .boolean)) ({ frames := 1, cells := 0, slots := 0, locals := 26 }) (va_Pc ([.ref h, .int x]) (fq_Pre D cI cO tE sz ([(h, .inr (12, [.int (nI rm), .int (fq_b sd), .int (nI ns), .ref aK, .ref aN, .int (nI iw), .int (nI ow), .int (fq_b ih), .int (fq_b oh), .ref aB, .int (nI ca), .int (nI us), .int (fq_b cl), .int (fq_b fl), .ref aS, .int (nI tk), .ref aL, .ref aX, .int (nI md), .int (nI gi), .int (nI su), .int (nI ps), .int (nI cs)])), (aK, .inl (cI, 5, .inl fK)), (aN, .inl (cI, 25, .inl fN)), (aB, .inl (cI, 120, .inl fB)), (aS, .inl (cI, 120, .inl fS)), (aL, .inl (cI, 2300, .inl fL)), (aX, .inl (cI, 2300, .inl fX))]))) (va_Qi (S := va_W) (fun r w => if (sd = false ∧ ns < 5) ∧ -1024 ≤ x.toInt ∧ x.toInt ≤ 1024 then r = 1 ∧ w = [(h, .inr (12, [.int (nI rm), .int (fq_b sd), .int (nI (ns + 1)), .ref aK, .ref aN, .int (nI iw), .int (nI ow), .int (fq_b ih), .int (fq_b oh), .ref aB, .int (nI ca), .int (nI us), .int (fq_b cl), .int (fq_b fl), .ref aS, .int (nI tk), .ref aL, .ref aX, .int (nI md), .int (nI gi), .int (nI su), .int (nI ps), .int (nI cs)])), (aK, .inl (cI, 5, .inl (upd fK ns 1))), (aN, .inl (cI, 25, .inl (upd (upd (upd (upd (upd fN (5 * ns) x) (5 * ns + 1) 0) (5 * ns + 2) 0) (5 * ns + 3) 0) (5 * ns + 4) 0))), (aB, .inl (cI, 120, .inl fB)), (aS, .inl (cI, 120, .inl fS)), (aL, .inl (cI, 2300, .inl fL)), (aX, .inl (cI, 2300, .inl fX))] else r = 0 ∧ w = [(h, .inr (12, [.int (nI rm), .int (fq_b sd), .int (nI ns), .ref aK, .ref aN, .int (nI iw), .int (nI ow), .int (fq_b ih), .int (fq_b oh), .ref aB, .int (nI ca), .int (nI us), .int (fq_b cl), .int (fq_b fl), .ref aS, .int (nI tk), .ref aL, .ref aX, .int (nI md), .int (nI gi), .int (nI su), .int (nI ps), .int (nI cs)])), (aK, .inl (cI, 5, .inl fK)), (aN, .inl (cI, 25, .inl fN)), (aB, .inl (cI, 120, .inl fB)), (aS, .inl (cI, 120, .inl fS)), (aL, .inl (cI, 2300, .inl fL)), (aX, .inl (cI, 2300, .inl fX))]) (fq_Bw D (va_A ([(h, .inr (12, [.int (nI rm), .int (fq_b sd), .int (nI ns), .ref aK, .ref aN, .int (nI iw), .int (nI ow), .int (fq_b ih), .int (fq_b oh), .ref aB, .int (nI ca), .int (nI us), .int (fq_b cl), .int (fq_b fl), .ref aS, .int (nI tk), .ref aL, .ref aX, .int (nI md), .int (nI gi), .int (nI su), .int (nI ps), .int (nI cs)])), (aK, .inl (cI, 5, .inl fK)), (aN, .inl (cI, 25, .inl fN)), (aB, .inl (cI, 120, .inl fB)), (aS, .inl (cI, 120, .inl fS)), (aL, .inl (cI, 2300, .inl fL)), (aX, .inl (cI, 2300, .inl fX))]) sz)) (va_A ([(h, .inr (12, [.int (nI rm), .int (fq_b sd), .int (nI ns), .ref aK, .ref aN, .int (nI iw), .int (nI ow), .int (fq_b ih), .int (fq_b oh), .ref aB, .int (nI ca), .int (nI us), .int (fq_b cl), .int (fq_b fl), .ref aS, .int (nI tk), .ref aL, .ref aX, .int (nI md), .int (nI gi), .int (nI su), .int (nI ps), .int (nI cs)])), (aK, .inl (cI, 5, .inl fK)), (aN, .inl (cI, 25, .inl fN)), (aB, .inl (cI, 120, .inl fB)), (aS, .inl (cI, 120, .inl fS)), (aL, .inl (cI, 2300, .inl fL)), (aX, .inl (cI, 2300, .inl fX))]) sz)) (0) (0) (va_A ([(h, .inr (12, [.int (nI rm), .int (fq_b sd), .int (nI ns), .ref aK, .ref aN, .int (nI iw), .int (nI ow), .int (fq_b ih), .int (fq_b oh), .ref aB, .int (nI ca), .int (nI us), .int (fq_b cl), .int (fq_b fl), .ref aS, .int (nI tk), .ref aL, .ref aX, .int (nI md), .int (nI gi), .int (nI su), .int (nI ps), .int (nI cs)])), (aK, .inl (cI, 5, .inl fK)), (aN, .inl (cI, 25, .inl fN)), (aB, .inl (cI, 120, .inl fB)), (aS, .inl (cI, 120, .inl fS)), (aL, .inl (cI, 2300, .inl fL)), (aX, .inl (cI, 2300, .inl fX))]) sz) := by
  refine fq_open (by decide +kernel) (Nat.le_of_ble_eq_true rfl) ?_
  intro pg ev s mt below meth cd ls K hret hlk hin hK hZ hP hD hA hS hl
  generalize va_A ([(h, .inr (12, [.int (nI rm), .int (fq_b sd), .int (nI ns), .ref aK, .ref aN, .int (nI iw), .int (nI ow), .int (fq_b ih), .int (fq_b oh), .ref aB, .int (nI ca), .int (nI us), .int (fq_b cl), .int (fq_b fl), .ref aS, .int (nI tk), .ref aL, .ref aX, .int (nI md), .int (nI gi), .int (nI su), .int (nI ps), .int (nI cs)])), (aK, .inl (cI, 5, .inl fK)), (aN, .inl (cI, 25, .inl fN)), (aB, .inl (cI, 120, .inl fB)), (aS, .inl (cI, 120, .inl fS)), (aL, .inl (cI, 2300, .inl fL)), (aX, .inl (cI, 2300, .inl fX))]) sz = A at hZ hD hA hS ⊢
  have K : fq_Ctx pg mt cd cb_Mo_gain 2 s _ cn_Mo := K
  have hl : lv_has ls 2 [(0, .ref h), (1, .int x)] := hl
  refine lv_aload_n K.1 K.2.1 dc_Mo_gain_0 rfl (lv_at hl 0 rfl) ?_
  have hc := fq_cut.of (wc := [(h, .inr (12, [.int (nI rm), .int (fq_b sd), .int (nI ns), .ref aK, .ref aN, .int (nI iw), .int (nI ow), .int (fq_b ih), .int (fq_b oh), .ref aB, .int (nI ca), .int (nI us), .int (fq_b cl), .int (fq_b fl), .ref aS, .int (nI tk), .ref aL, .ref aX, .int (nI md), .int (nI gi), .int (nI su), .int (nI ps), .int (nI cs)])), (aK, .inl (cI, 5, .inl fK)), (aN, .inl (cI, 25, .inl fN)), (aB, .inl (cI, 120, .inl fB)), (aS, .inl (cI, 120, .inl fS)), (aL, .inl (cI, 2300, .inl fL)), (aX, .inl (cI, 2300, .inl fX))]) hP hD hS hA [0, 1, 2, 3, 4, 5, 6] (by decide) rfl
  refine fq_ci (wr := []) (fq_rV K hK hZ hS hc (ct_Mo_canAdd l D cI cO tE h aK aN aB aS aL aX rm sd ns iw ow ih oh ca us cl fl tk md gi su ps cs fK fN fB fS fL fX hns _) yk_Mo_canAdd wd_846 wd_13 wd_844 0 rfl rfl rfl ⟨⟨rfl, rfl⟩, ⟨Nat.le_of_ble_eq_true rfl, Nat.le_of_ble_eq_true rfl⟩, ⟨Nat.le_of_ble_eq_true rfl, Nat.le_of_ble_eq_true rfl⟩⟩ hl.1 rfl (Nat.le_of_ble_eq_true rfl) dc_Mo_gain_1) hP hD hS hc [0, 1, 2, 3, 4, 5, 6] [] rfl rfl (by decide) (by decide) (fun r1 w H locs hw1 hP hD hS => ?_)
  obtain ⟨rfl, rfl⟩ := hw1
  have hP : va_P D fq_cl ([(h, .inr (12, [.int (nI rm), .int (fq_b sd), .int (nI ns), .ref aK, .ref aN, .int (nI iw), .int (nI ow), .int (fq_b ih), .int (fq_b oh), .ref aB, .int (nI ca), .int (nI us), .int (fq_b cl), .int (fq_b fl), .ref aS, .int (nI tk), .ref aL, .ref aX, .int (nI md), .int (nI gi), .int (nI su), .int (nI ps), .int (nI cs)])), (aK, .inl (cI, 5, .inl fK)), (aN, .inl (cI, 25, .inl fN)), (aB, .inl (cI, 120, .inl fB)), (aS, .inl (cI, 120, .inl fS)), (aL, .inl (cI, 2300, .inl fL)), (aX, .inl (cI, 2300, .inl fX))]) _ := hP
  have hD : va_D A ([(h, .inr (12, [.int (nI rm), .int (fq_b sd), .int (nI ns), .ref aK, .ref aN, .int (nI iw), .int (nI ow), .int (fq_b ih), .int (fq_b oh), .ref aB, .int (nI ca), .int (nI us), .int (fq_b cl), .int (fq_b fl), .ref aS, .int (nI tk), .ref aL, .ref aX, .int (nI md), .int (nI gi), .int (nI su), .int (nI ps), .int (nI cs)])), (aK, .inl (cI, 5, .inl fK)), (aN, .inl (cI, 25, .inl fN)), (aB, .inl (cI, 120, .inl fB)), (aS, .inl (cI, 120, .inl fS)), (aL, .inl (cI, 2300, .inl fL)), (aX, .inl (cI, 2300, .inl fX))]) := hD
  refine lv_if_eq (tgt := 21) K.1 K.2.1 dc_Mo_gain_4 rfl (fun b4 => ?_) (fun b4 => ?_)
  · skip
    have hx : ¬ ((sd = false ∧ ns < 5) ∧ -1024 ≤ x.toInt ∧ x.toInt ≤ 1024) := fun z => fq_z1.mp b4 z.1
    refine lv_iconst (v := 0) K.1 K.2.1 dc_Mo_gain_21 (by decide) ?_
    exact fq_retz K hret hlk hS hP hD (by first | exact Or.inl rfl | exact Or.inr rfl) (by rw [if_neg hx]; exact ⟨rfl, rfl⟩) dc_Mo_gain_22 (Nat.le_of_ble_eq_true rfl) (Nat.le_of_ble_eq_true rfl)
  · skip
    have hca := fq_zp b4
    refine lv_iload_n K.1 K.2.1 dc_Mo_gain_7 rfl (lv_at hl 1 rfl) ?_
    refine lv_sipush (v := (-1024)) K.1 K.2.1 dc_Mo_gain_8 (by decide) ?_
    refine lv_icmp_lt (tgt := 21) K.1 K.2.1 dc_Mo_gain_11 rfl (fun b11 => ?_) (fun b11 => ?_)
    · skip
      rw [Int32.lt_iff_toInt_lt, show (-1024 : Int32).toInt = -1024 by decide] at b11
      have hx : ¬ ((sd = false ∧ ns < 5) ∧ -1024 ≤ x.toInt ∧ x.toInt ≤ 1024) := fun z => by have := z.2; omega
      refine lv_iconst (v := 0) K.1 K.2.1 dc_Mo_gain_21 (by decide) ?_
      exact fq_retz K hret hlk hS hP hD (by first | exact Or.inl rfl | exact Or.inr rfl) (by rw [if_neg hx]; exact ⟨rfl, rfl⟩) dc_Mo_gain_22 (Nat.le_of_ble_eq_true rfl) (Nat.le_of_ble_eq_true rfl)
    · skip
      rw [Int32.lt_iff_toInt_lt, show (-1024 : Int32).toInt = -1024 by decide] at b11
      refine lv_iload_n K.1 K.2.1 dc_Mo_gain_14 rfl (lv_at hl 1 rfl) ?_
      refine lv_sipush (v := 1024) K.1 K.2.1 dc_Mo_gain_15 (by decide) ?_
      refine lv_icmp_le (tgt := 23) K.1 K.2.1 dc_Mo_gain_18 rfl (fun b18 => ?_) (fun b18 => ?_)
      · skip
        rw [Int32.le_iff_toInt_le, show (1024 : Int32).toInt = 1024 by decide] at b18
        have hx : (sd = false ∧ ns < 5) ∧ -1024 ≤ x.toInt ∧ x.toInt ≤ 1024 := ⟨hca, by omega⟩
        refine lv_aload_n K.1 K.2.1 dc_Mo_gain_23 rfl (lv_at hl 0 rfl) ?_
        refine lv_iconst (v := 1) K.1 K.2.1 dc_Mo_gain_24 (by decide) ?_
        refine lv_iload_n K.1 K.2.1 dc_Mo_gain_25 rfl (lv_at hl 1 rfl) ?_
        refine lv_iconst (v := 0) K.1 K.2.1 dc_Mo_gain_26 (by decide) ?_
        refine lv_iconst (v := 0) K.1 K.2.1 dc_Mo_gain_27 (by decide) ?_
        refine lv_iconst (v := 0) K.1 K.2.1 dc_Mo_gain_28 (by decide) ?_
        refine lv_iconst (v := 0) K.1 K.2.1 dc_Mo_gain_29 (by decide) ?_
        have hc := fq_cut.of (wc := [(h, .inr (12, [.int (nI rm), .int (fq_b sd), .int (nI ns), .ref aK, .ref aN, .int (nI iw), .int (nI ow), .int (fq_b ih), .int (fq_b oh), .ref aB, .int (nI ca), .int (nI us), .int (fq_b cl), .int (fq_b fl), .ref aS, .int (nI tk), .ref aL, .ref aX, .int (nI md), .int (nI gi), .int (nI su), .int (nI ps), .int (nI cs)])), (aK, .inl (cI, 5, .inl fK)), (aN, .inl (cI, 25, .inl fN)), (aB, .inl (cI, 120, .inl fB)), (aS, .inl (cI, 120, .inl fS)), (aL, .inl (cI, 2300, .inl fL)), (aX, .inl (cI, 2300, .inl fX))]) hP hD hS hA [0, 1, 2, 3, 4, 5, 6] (by decide) rfl
        refine fq_cv (wr := []) (fq_rV K hK hZ hS hc (ct_Mo_add l D cI cO tE h aK aN aB aS aL aX rm sd ns iw ow ih oh ca us cl fl tk md gi su ps cs fK fN fB fS fL fX 1 x 0 0 0 0 hca.2 _) yk_Mo_add wd_853 wd_14 wd_851 0 rfl rfl rfl ⟨⟨rfl, rfl⟩, ⟨Nat.le_of_ble_eq_true rfl, Nat.le_of_ble_eq_true rfl⟩, ⟨Nat.le_of_ble_eq_true rfl, Nat.le_of_ble_eq_true rfl⟩⟩ hl.1 rfl (Nat.le_of_ble_eq_true rfl) dc_Mo_gain_30) hP hD hS hc [0, 1, 2, 3, 4, 5, 6] [] rfl rfl (by decide) (by decide) (fun  w H locs hw2 hP hD hS => ?_)
        subst hw2
        have hP : va_P D fq_cl ([(h, .inr (12, [.int (nI rm), .int (fq_b sd), .int (nI (ns + 1)), .ref aK, .ref aN, .int (nI iw), .int (nI ow), .int (fq_b ih), .int (fq_b oh), .ref aB, .int (nI ca), .int (nI us), .int (fq_b cl), .int (fq_b fl), .ref aS, .int (nI tk), .ref aL, .ref aX, .int (nI md), .int (nI gi), .int (nI su), .int (nI ps), .int (nI cs)])), (aK, .inl (cI, 5, .inl (upd fK ns 1))), (aN, .inl (cI, 25, .inl (upd (upd (upd (upd (upd fN (5 * ns) x) (5 * ns + 1) 0) (5 * ns + 2) 0) (5 * ns + 3) 0) (5 * ns + 4) 0))), (aB, .inl (cI, 120, .inl fB)), (aS, .inl (cI, 120, .inl fS)), (aL, .inl (cI, 2300, .inl fL)), (aX, .inl (cI, 2300, .inl fX))]) _ := hP
        have hD : va_D A ([(h, .inr (12, [.int (nI rm), .int (fq_b sd), .int (nI (ns + 1)), .ref aK, .ref aN, .int (nI iw), .int (nI ow), .int (fq_b ih), .int (fq_b oh), .ref aB, .int (nI ca), .int (nI us), .int (fq_b cl), .int (fq_b fl), .ref aS, .int (nI tk), .ref aL, .ref aX, .int (nI md), .int (nI gi), .int (nI su), .int (nI ps), .int (nI cs)])), (aK, .inl (cI, 5, .inl (upd fK ns 1))), (aN, .inl (cI, 25, .inl (upd (upd (upd (upd (upd fN (5 * ns) x) (5 * ns + 1) 0) (5 * ns + 2) 0) (5 * ns + 3) 0) (5 * ns + 4) 0))), (aB, .inl (cI, 120, .inl fB)), (aS, .inl (cI, 120, .inl fS)), (aL, .inl (cI, 2300, .inl fL)), (aX, .inl (cI, 2300, .inl fX))]) := hD
        refine lv_iconst (v := 1) K.1 K.2.1 dc_Mo_gain_33 (by decide) ?_
        exact fq_retz K hret hlk hS hP hD (by first | exact Or.inl rfl | exact Or.inr rfl) (by rw [if_pos hx]; exact ⟨rfl, rfl⟩) dc_Mo_gain_34 (Nat.le_of_ble_eq_true rfl) (Nat.le_of_ble_eq_true rfl)
      · skip
        rw [Int32.le_iff_toInt_le, show (1024 : Int32).toInt = 1024 by decide] at b18
        have hx : ¬ ((sd = false ∧ ns < 5) ∧ -1024 ≤ x.toInt ∧ x.toInt ≤ 1024) := fun z => by have := z.2; omega
        refine lv_iconst (v := 0) K.1 K.2.1 dc_Mo_gain_21 (by decide) ?_
        exact fq_retz K hret hlk hS hP hD (by first | exact Or.inl rfl | exact Or.inr rfl) (by rw [if_neg hx]; exact ⟨rfl, rfl⟩) dc_Mo_gain_22 (Nat.le_of_ble_eq_true rfl) (Nat.le_of_ble_eq_true rfl)
set_option maxHeartbeats 4000000 in
set_option maxRecDepth 100000 in
theorem ct_Mo_window (l : Launch) (D : va_G) (cI cO : ClassId) (tE : Nat) (h aK aN aB aS aL aX : Nat) (rm : Nat) (sd : Bool) (ns : Nat) (iw : Nat) (ow : Nat) (ih : Bool) (oh : Bool) (ca : Nat) (us : Nat) (cl : Bool) (fl : Bool) (tk : Nat) (md : Nat) (gi : Nat) (su : Nat) (ps : Nat) (cs : Nat) (fK fN fB fS fL fX : Nat → Int32) (x y : Int32) (hns : ns ≤ 5) (sz : Nat) : Met l my_Mo_window (fq_w my_Mo_window cb_Mo_window 3 (some .boolean)) ({ frames := 1, cells := 0, slots := 0, locals := 26 }) (va_Pc ([.ref h, .int x, .int y]) (fq_Pre D cI cO tE sz ([(h, .inr (12, [.int (nI rm), .int (fq_b sd), .int (nI ns), .ref aK, .ref aN, .int (nI iw), .int (nI ow), .int (fq_b ih), .int (fq_b oh), .ref aB, .int (nI ca), .int (nI us), .int (fq_b cl), .int (fq_b fl), .ref aS, .int (nI tk), .ref aL, .ref aX, .int (nI md), .int (nI gi), .int (nI su), .int (nI ps), .int (nI cs)])), (aK, .inl (cI, 5, .inl fK)), (aN, .inl (cI, 25, .inl fN)), (aB, .inl (cI, 120, .inl fB)), (aS, .inl (cI, 120, .inl fS)), (aL, .inl (cI, 2300, .inl fL)), (aX, .inl (cI, 2300, .inl fX))]))) (va_Qi (S := va_W) (fun r w => if (sd = false ∧ ns < 5) ∧ 0 ≤ x.toInt ∧ x.toInt ≤ 2 ∧ 1 ≤ y.toInt ∧ y.toInt ≤ 8 then r = 1 ∧ w = [(h, .inr (12, [.int (nI rm), .int (fq_b sd), .int (nI (ns + 1)), .ref aK, .ref aN, .int (nI iw), .int (nI ow), .int (fq_b ih), .int (fq_b oh), .ref aB, .int (nI ca), .int (nI us), .int (fq_b cl), .int (fq_b fl), .ref aS, .int (nI tk), .ref aL, .ref aX, .int (nI md), .int (nI gi), .int (nI su), .int (nI ps), .int (nI cs)])), (aK, .inl (cI, 5, .inl (upd fK ns 2))), (aN, .inl (cI, 25, .inl (upd (upd (upd (upd (upd fN (5 * ns) x) (5 * ns + 1) y) (5 * ns + 2) 0) (5 * ns + 3) 0) (5 * ns + 4) 0))), (aB, .inl (cI, 120, .inl fB)), (aS, .inl (cI, 120, .inl fS)), (aL, .inl (cI, 2300, .inl fL)), (aX, .inl (cI, 2300, .inl fX))] else r = 0 ∧ w = [(h, .inr (12, [.int (nI rm), .int (fq_b sd), .int (nI ns), .ref aK, .ref aN, .int (nI iw), .int (nI ow), .int (fq_b ih), .int (fq_b oh), .ref aB, .int (nI ca), .int (nI us), .int (fq_b cl), .int (fq_b fl), .ref aS, .int (nI tk), .ref aL, .ref aX, .int (nI md), .int (nI gi), .int (nI su), .int (nI ps), .int (nI cs)])), (aK, .inl (cI, 5, .inl fK)), (aN, .inl (cI, 25, .inl fN)), (aB, .inl (cI, 120, .inl fB)), (aS, .inl (cI, 120, .inl fS)), (aL, .inl (cI, 2300, .inl fL)), (aX, .inl (cI, 2300, .inl fX))]) (fq_Bw D (va_A ([(h, .inr (12, [.int (nI rm), .int (fq_b sd), .int (nI ns), .ref aK, .ref aN, .int (nI iw), .int (nI ow), .int (fq_b ih), .int (fq_b oh), .ref aB, .int (nI ca), .int (nI us), .int (fq_b cl), .int (fq_b fl), .ref aS, .int (nI tk), .ref aL, .ref aX, .int (nI md), .int (nI gi), .int (nI su), .int (nI ps), .int (nI cs)])), (aK, .inl (cI, 5, .inl fK)), (aN, .inl (cI, 25, .inl fN)), (aB, .inl (cI, 120, .inl fB)), (aS, .inl (cI, 120, .inl fS)), (aL, .inl (cI, 2300, .inl fL)), (aX, .inl (cI, 2300, .inl fX))]) sz)) (va_A ([(h, .inr (12, [.int (nI rm), .int (fq_b sd), .int (nI ns), .ref aK, .ref aN, .int (nI iw), .int (nI ow), .int (fq_b ih), .int (fq_b oh), .ref aB, .int (nI ca), .int (nI us), .int (fq_b cl), .int (fq_b fl), .ref aS, .int (nI tk), .ref aL, .ref aX, .int (nI md), .int (nI gi), .int (nI su), .int (nI ps), .int (nI cs)])), (aK, .inl (cI, 5, .inl fK)), (aN, .inl (cI, 25, .inl fN)), (aB, .inl (cI, 120, .inl fB)), (aS, .inl (cI, 120, .inl fS)), (aL, .inl (cI, 2300, .inl fL)), (aX, .inl (cI, 2300, .inl fX))]) sz)) (0) (0) (va_A ([(h, .inr (12, [.int (nI rm), .int (fq_b sd), .int (nI ns), .ref aK, .ref aN, .int (nI iw), .int (nI ow), .int (fq_b ih), .int (fq_b oh), .ref aB, .int (nI ca), .int (nI us), .int (fq_b cl), .int (fq_b fl), .ref aS, .int (nI tk), .ref aL, .ref aX, .int (nI md), .int (nI gi), .int (nI su), .int (nI ps), .int (nI cs)])), (aK, .inl (cI, 5, .inl fK)), (aN, .inl (cI, 25, .inl fN)), (aB, .inl (cI, 120, .inl fB)), (aS, .inl (cI, 120, .inl fS)), (aL, .inl (cI, 2300, .inl fL)), (aX, .inl (cI, 2300, .inl fX))]) sz) := by
  refine fq_open (by decide +kernel) (Nat.le_of_ble_eq_true rfl) ?_
  intro pg ev s mt below meth cd ls K hret hlk hin hK hZ hP hD hA hS hl
  generalize va_A ([(h, .inr (12, [.int (nI rm), .int (fq_b sd), .int (nI ns), .ref aK, .ref aN, .int (nI iw), .int (nI ow), .int (fq_b ih), .int (fq_b oh), .ref aB, .int (nI ca), .int (nI us), .int (fq_b cl), .int (fq_b fl), .ref aS, .int (nI tk), .ref aL, .ref aX, .int (nI md), .int (nI gi), .int (nI su), .int (nI ps), .int (nI cs)])), (aK, .inl (cI, 5, .inl fK)), (aN, .inl (cI, 25, .inl fN)), (aB, .inl (cI, 120, .inl fB)), (aS, .inl (cI, 120, .inl fS)), (aL, .inl (cI, 2300, .inl fL)), (aX, .inl (cI, 2300, .inl fX))]) sz = A at hZ hD hA hS ⊢
  have K : fq_Ctx pg mt cd cb_Mo_window 3 s _ cn_Mo := K
  have hl : lv_has ls 3 [(0, .ref h), (1, .int x), (2, .int y)] := hl
  refine lv_aload_n K.1 K.2.1 dc_Mo_window_0 rfl (lv_at hl 0 rfl) ?_
  have hc := fq_cut.of (wc := [(h, .inr (12, [.int (nI rm), .int (fq_b sd), .int (nI ns), .ref aK, .ref aN, .int (nI iw), .int (nI ow), .int (fq_b ih), .int (fq_b oh), .ref aB, .int (nI ca), .int (nI us), .int (fq_b cl), .int (fq_b fl), .ref aS, .int (nI tk), .ref aL, .ref aX, .int (nI md), .int (nI gi), .int (nI su), .int (nI ps), .int (nI cs)])), (aK, .inl (cI, 5, .inl fK)), (aN, .inl (cI, 25, .inl fN)), (aB, .inl (cI, 120, .inl fB)), (aS, .inl (cI, 120, .inl fS)), (aL, .inl (cI, 2300, .inl fL)), (aX, .inl (cI, 2300, .inl fX))]) hP hD hS hA [0, 1, 2, 3, 4, 5, 6] (by decide) rfl
  refine fq_ci (wr := []) (fq_rV K hK hZ hS hc (ct_Mo_canAdd l D cI cO tE h aK aN aB aS aL aX rm sd ns iw ow ih oh ca us cl fl tk md gi su ps cs fK fN fB fS fL fX hns _) yk_Mo_canAdd wd_846 wd_13 wd_844 0 rfl rfl rfl ⟨⟨rfl, rfl⟩, ⟨Nat.le_of_ble_eq_true rfl, Nat.le_of_ble_eq_true rfl⟩, ⟨Nat.le_of_ble_eq_true rfl, Nat.le_of_ble_eq_true rfl⟩⟩ hl.1 rfl (Nat.le_of_ble_eq_true rfl) dc_Mo_window_1) hP hD hS hc [0, 1, 2, 3, 4, 5, 6] [] rfl rfl (by decide) (by decide) (fun r1 w H locs hw1 hP hD hS => ?_)
  obtain ⟨rfl, rfl⟩ := hw1
  have hP : va_P D fq_cl ([(h, .inr (12, [.int (nI rm), .int (fq_b sd), .int (nI ns), .ref aK, .ref aN, .int (nI iw), .int (nI ow), .int (fq_b ih), .int (fq_b oh), .ref aB, .int (nI ca), .int (nI us), .int (fq_b cl), .int (fq_b fl), .ref aS, .int (nI tk), .ref aL, .ref aX, .int (nI md), .int (nI gi), .int (nI su), .int (nI ps), .int (nI cs)])), (aK, .inl (cI, 5, .inl fK)), (aN, .inl (cI, 25, .inl fN)), (aB, .inl (cI, 120, .inl fB)), (aS, .inl (cI, 120, .inl fS)), (aL, .inl (cI, 2300, .inl fL)), (aX, .inl (cI, 2300, .inl fX))]) _ := hP
  have hD : va_D A ([(h, .inr (12, [.int (nI rm), .int (fq_b sd), .int (nI ns), .ref aK, .ref aN, .int (nI iw), .int (nI ow), .int (fq_b ih), .int (fq_b oh), .ref aB, .int (nI ca), .int (nI us), .int (fq_b cl), .int (fq_b fl), .ref aS, .int (nI tk), .ref aL, .ref aX, .int (nI md), .int (nI gi), .int (nI su), .int (nI ps), .int (nI cs)])), (aK, .inl (cI, 5, .inl fK)), (aN, .inl (cI, 25, .inl fN)), (aB, .inl (cI, 120, .inl fB)), (aS, .inl (cI, 120, .inl fS)), (aL, .inl (cI, 2300, .inl fL)), (aX, .inl (cI, 2300, .inl fX))]) := hD
  refine lv_if_eq (tgt := 27) K.1 K.2.1 dc_Mo_window_4 rfl (fun b4 => ?_) (fun b4 => ?_)
  · skip
    have hx : ¬ ((sd = false ∧ ns < 5) ∧ 0 ≤ x.toInt ∧ x.toInt ≤ 2 ∧ 1 ≤ y.toInt ∧ y.toInt ≤ 8) := fun z => fq_z1.mp b4 z.1
    refine lv_iconst (v := 0) K.1 K.2.1 dc_Mo_window_27 (by decide) ?_
    exact fq_retz K hret hlk hS hP hD (by first | exact Or.inl rfl | exact Or.inr rfl) (by rw [if_neg hx]; exact ⟨rfl, rfl⟩) dc_Mo_window_28 (Nat.le_of_ble_eq_true rfl) (Nat.le_of_ble_eq_true rfl)
  · skip
    have hca := fq_zp b4
    refine lv_iload_n K.1 K.2.1 dc_Mo_window_7 rfl (lv_at hl 1 rfl) ?_
    refine lv_if_lt (tgt := 27) K.1 K.2.1 dc_Mo_window_8 rfl (fun b8 => ?_) (fun b8 => ?_)
    · skip
      rw [Int32.lt_iff_toInt_lt, show (0 : Int32).toInt = 0 by decide] at b8
      have hx : ¬ ((sd = false ∧ ns < 5) ∧ 0 ≤ x.toInt ∧ x.toInt ≤ 2 ∧ 1 ≤ y.toInt ∧ y.toInt ≤ 8) := fun z => by have := z.2; omega
      refine lv_iconst (v := 0) K.1 K.2.1 dc_Mo_window_27 (by decide) ?_
      exact fq_retz K hret hlk hS hP hD (by first | exact Or.inl rfl | exact Or.inr rfl) (by rw [if_neg hx]; exact ⟨rfl, rfl⟩) dc_Mo_window_28 (Nat.le_of_ble_eq_true rfl) (Nat.le_of_ble_eq_true rfl)
    · skip
      rw [Int32.lt_iff_toInt_lt, show (0 : Int32).toInt = 0 by decide] at b8
      refine lv_iload_n K.1 K.2.1 dc_Mo_window_11 rfl (lv_at hl 1 rfl) ?_
      refine lv_iconst (v := 2) K.1 K.2.1 dc_Mo_window_12 (by decide) ?_
      refine lv_icmp_gt (tgt := 27) K.1 K.2.1 dc_Mo_window_13 rfl (fun b13 => ?_) (fun b13 => ?_)
      · skip
        rw [Int32.lt_iff_toInt_lt, show (2 : Int32).toInt = 2 by decide] at b13
        have hx : ¬ ((sd = false ∧ ns < 5) ∧ 0 ≤ x.toInt ∧ x.toInt ≤ 2 ∧ 1 ≤ y.toInt ∧ y.toInt ≤ 8) := fun z => by have := z.2; omega
        refine lv_iconst (v := 0) K.1 K.2.1 dc_Mo_window_27 (by decide) ?_
        exact fq_retz K hret hlk hS hP hD (by first | exact Or.inl rfl | exact Or.inr rfl) (by rw [if_neg hx]; exact ⟨rfl, rfl⟩) dc_Mo_window_28 (Nat.le_of_ble_eq_true rfl) (Nat.le_of_ble_eq_true rfl)
      · skip
        rw [Int32.lt_iff_toInt_lt, show (2 : Int32).toInt = 2 by decide] at b13
        refine lv_iload_n K.1 K.2.1 dc_Mo_window_16 rfl (lv_at hl 2 rfl) ?_
        refine lv_iconst (v := 1) K.1 K.2.1 dc_Mo_window_17 (by decide) ?_
        refine lv_icmp_lt (tgt := 27) K.1 K.2.1 dc_Mo_window_18 rfl (fun b18 => ?_) (fun b18 => ?_)
        · skip
          rw [Int32.lt_iff_toInt_lt, show (1 : Int32).toInt = 1 by decide] at b18
          have hx : ¬ ((sd = false ∧ ns < 5) ∧ 0 ≤ x.toInt ∧ x.toInt ≤ 2 ∧ 1 ≤ y.toInt ∧ y.toInt ≤ 8) := fun z => by have := z.2; omega
          refine lv_iconst (v := 0) K.1 K.2.1 dc_Mo_window_27 (by decide) ?_
          exact fq_retz K hret hlk hS hP hD (by first | exact Or.inl rfl | exact Or.inr rfl) (by rw [if_neg hx]; exact ⟨rfl, rfl⟩) dc_Mo_window_28 (Nat.le_of_ble_eq_true rfl) (Nat.le_of_ble_eq_true rfl)
        · skip
          rw [Int32.lt_iff_toInt_lt, show (1 : Int32).toInt = 1 by decide] at b18
          refine lv_iload_n K.1 K.2.1 dc_Mo_window_21 rfl (lv_at hl 2 rfl) ?_
          refine lv_bipush (v := 8) K.1 K.2.1 dc_Mo_window_22 (by decide) ?_
          refine lv_icmp_le (tgt := 29) K.1 K.2.1 dc_Mo_window_24 rfl (fun b24 => ?_) (fun b24 => ?_)
          · skip
            rw [Int32.le_iff_toInt_le, show (8 : Int32).toInt = 8 by decide] at b24
            have hx : (sd = false ∧ ns < 5) ∧ 0 ≤ x.toInt ∧ x.toInt ≤ 2 ∧ 1 ≤ y.toInt ∧ y.toInt ≤ 8 := ⟨hca, by omega⟩
            refine lv_aload_n K.1 K.2.1 dc_Mo_window_29 rfl (lv_at hl 0 rfl) ?_
            refine lv_iconst (v := 2) K.1 K.2.1 dc_Mo_window_30 (by decide) ?_
            refine lv_iload_n K.1 K.2.1 dc_Mo_window_31 rfl (lv_at hl 1 rfl) ?_
            refine lv_iload_n K.1 K.2.1 dc_Mo_window_32 rfl (lv_at hl 2 rfl) ?_
            refine lv_iconst (v := 0) K.1 K.2.1 dc_Mo_window_33 (by decide) ?_
            refine lv_iconst (v := 0) K.1 K.2.1 dc_Mo_window_34 (by decide) ?_
            refine lv_iconst (v := 0) K.1 K.2.1 dc_Mo_window_35 (by decide) ?_
            have hc := fq_cut.of (wc := [(h, .inr (12, [.int (nI rm), .int (fq_b sd), .int (nI ns), .ref aK, .ref aN, .int (nI iw), .int (nI ow), .int (fq_b ih), .int (fq_b oh), .ref aB, .int (nI ca), .int (nI us), .int (fq_b cl), .int (fq_b fl), .ref aS, .int (nI tk), .ref aL, .ref aX, .int (nI md), .int (nI gi), .int (nI su), .int (nI ps), .int (nI cs)])), (aK, .inl (cI, 5, .inl fK)), (aN, .inl (cI, 25, .inl fN)), (aB, .inl (cI, 120, .inl fB)), (aS, .inl (cI, 120, .inl fS)), (aL, .inl (cI, 2300, .inl fL)), (aX, .inl (cI, 2300, .inl fX))]) hP hD hS hA [0, 1, 2, 3, 4, 5, 6] (by decide) rfl
            refine fq_cv (wr := []) (fq_rV K hK hZ hS hc (ct_Mo_add l D cI cO tE h aK aN aB aS aL aX rm sd ns iw ow ih oh ca us cl fl tk md gi su ps cs fK fN fB fS fL fX 2 x y 0 0 0 hca.2 _) yk_Mo_add wd_853 wd_14 wd_851 0 rfl rfl rfl ⟨⟨rfl, rfl⟩, ⟨Nat.le_of_ble_eq_true rfl, Nat.le_of_ble_eq_true rfl⟩, ⟨Nat.le_of_ble_eq_true rfl, Nat.le_of_ble_eq_true rfl⟩⟩ hl.1 rfl (Nat.le_of_ble_eq_true rfl) dc_Mo_window_36) hP hD hS hc [0, 1, 2, 3, 4, 5, 6] [] rfl rfl (by decide) (by decide) (fun  w H locs hw2 hP hD hS => ?_)
            subst hw2
            have hP : va_P D fq_cl ([(h, .inr (12, [.int (nI rm), .int (fq_b sd), .int (nI (ns + 1)), .ref aK, .ref aN, .int (nI iw), .int (nI ow), .int (fq_b ih), .int (fq_b oh), .ref aB, .int (nI ca), .int (nI us), .int (fq_b cl), .int (fq_b fl), .ref aS, .int (nI tk), .ref aL, .ref aX, .int (nI md), .int (nI gi), .int (nI su), .int (nI ps), .int (nI cs)])), (aK, .inl (cI, 5, .inl (upd fK ns 2))), (aN, .inl (cI, 25, .inl (upd (upd (upd (upd (upd fN (5 * ns) x) (5 * ns + 1) y) (5 * ns + 2) 0) (5 * ns + 3) 0) (5 * ns + 4) 0))), (aB, .inl (cI, 120, .inl fB)), (aS, .inl (cI, 120, .inl fS)), (aL, .inl (cI, 2300, .inl fL)), (aX, .inl (cI, 2300, .inl fX))]) _ := hP
            have hD : va_D A ([(h, .inr (12, [.int (nI rm), .int (fq_b sd), .int (nI (ns + 1)), .ref aK, .ref aN, .int (nI iw), .int (nI ow), .int (fq_b ih), .int (fq_b oh), .ref aB, .int (nI ca), .int (nI us), .int (fq_b cl), .int (fq_b fl), .ref aS, .int (nI tk), .ref aL, .ref aX, .int (nI md), .int (nI gi), .int (nI su), .int (nI ps), .int (nI cs)])), (aK, .inl (cI, 5, .inl (upd fK ns 2))), (aN, .inl (cI, 25, .inl (upd (upd (upd (upd (upd fN (5 * ns) x) (5 * ns + 1) y) (5 * ns + 2) 0) (5 * ns + 3) 0) (5 * ns + 4) 0))), (aB, .inl (cI, 120, .inl fB)), (aS, .inl (cI, 120, .inl fS)), (aL, .inl (cI, 2300, .inl fL)), (aX, .inl (cI, 2300, .inl fX))]) := hD
            refine lv_iconst (v := 1) K.1 K.2.1 dc_Mo_window_39 (by decide) ?_
            exact fq_retz K hret hlk hS hP hD (by first | exact Or.inl rfl | exact Or.inr rfl) (by rw [if_pos hx]; exact ⟨rfl, rfl⟩) dc_Mo_window_40 (Nat.le_of_ble_eq_true rfl) (Nat.le_of_ble_eq_true rfl)
          · skip
            rw [Int32.le_iff_toInt_le, show (8 : Int32).toInt = 8 by decide] at b24
            have hx : ¬ ((sd = false ∧ ns < 5) ∧ 0 ≤ x.toInt ∧ x.toInt ≤ 2 ∧ 1 ≤ y.toInt ∧ y.toInt ≤ 8) := fun z => by have := z.2; omega
            refine lv_iconst (v := 0) K.1 K.2.1 dc_Mo_window_27 (by decide) ?_
            exact fq_retz K hret hlk hS hP hD (by first | exact Or.inl rfl | exact Or.inr rfl) (by rw [if_neg hx]; exact ⟨rfl, rfl⟩) dc_Mo_window_28 (Nat.le_of_ble_eq_true rfl) (Nat.le_of_ble_eq_true rfl)
