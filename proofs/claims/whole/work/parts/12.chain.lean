theorem wd_10 : Cond.selects cn_Chain my_Chain_makeSamples my_Chain_makeSamples ∈ fq_TB := fq_in 10 (by decide +kernel) rfl
theorem wd_27 : Cond.initialized cn_Chain ∈ fq_TB := fq_in 27 (by decide +kernel) rfl
theorem wd_106 : Cond.fieldLink cn_Chain 23 cn_Chain "passing" "LFilterPipe$Row;" ∈ fq_TB := fq_in 106 (by decide +kernel) rfl
theorem wd_225 : Cond.instanceMethod my_Chain_length ∈ fq_TB := fq_in 225 (by decide +kernel) rfl
theorem wd_226 : Cond.selects cn_Chain my_Chain_length my_Chain_length ∈ fq_TB := fq_in 226 (by decide +kernel) rfl
theorem wd_227 : Cond.code my_Chain_length cb_Chain_length 1 (some .int) ∈ fq_TB := fq_in 227 (by decide +kernel) rfl
theorem wd_415 : Cond.instanceMethod my_Chain_hasPlaceForResampler ∈ fq_TB := fq_in 415 (by decide +kernel) rfl
theorem wd_416 : Cond.selects cn_Chain my_Chain_hasPlaceForResampler my_Chain_hasPlaceForResampler ∈ fq_TB := fq_in 416 (by decide +kernel) rfl
theorem wd_417 : Cond.code my_Chain_hasPlaceForResampler cb_Chain_hasPlaceForResampler 1 (some .boolean) ∈ fq_TB := fq_in 417 (by decide +kernel) rfl
theorem wd_606 : Cond.methodLink cn_Chain 48 my_Row_add ∈ fq_TB := fq_in 606 (by decide +kernel) rfl
theorem wd_643 : Cond.instanceMethod my_Chain_makeSamples ∈ fq_TB := fq_in 643 (by decide +kernel) rfl
theorem wd_644 : Cond.code my_Chain_makeSamples cb_Chain_makeSamples 4 none ∈ fq_TB := fq_in 644 (by decide +kernel) rfl

theorem mk_step {cI : ClassId} {hs due j i : Nat} {ff f2 : Nat → Int32} {L LL : List Int32} {sp : fm_S} {xs : List Int} {m : Nat} {gg g2 : va_W} {r : Int32} (h : j ≤ due ∧ rw_ok 366 ff i LL ∧ LL.length = L.length + j ∧ LL.map Int32.toInt = L.map Int32.toInt ++ (List.range j).map (fun z => fm_y sp xs (m + z)) ∧ sg_ok cI hs sp xs (m + j) gg)
    (hj : j < due) (hw : r.toInt = fm_y sp xs (m + j) ∧ sg_ok cI hs sp xs (m + j + 1) g2) (hr : rw_ok 366 f2 i (rw_put 366 LL r)) (hc : L.length + due ≤ 366) :
    j + 1 ≤ due ∧ rw_ok 366 f2 i (rw_put 366 LL r) ∧ (rw_put 366 LL r).length = L.length + (j + 1) ∧ (rw_put 366 LL r).map Int32.toInt = L.map Int32.toInt ++ (List.range (j + 1)).map (fun z => fm_y sp xs (m + z)) ∧ sg_ok cI hs sp xs (m + (j + 1)) g2 := by
  obtain ⟨h1, h2, h3, h4, h5⟩ := h
  refine ⟨hj, hr, ?_, ?_, hw.2⟩
  · rw [rw_put_lt (by omega)]; simp; omega
  · rw [rw_put_lt (by omega), List.map_append, h4, List.range_succ, List.map_append, List.append_assoc]
    simp [hw.1]

theorem dc_Chain_makeSamples_0 : decode cb_Chain_makeSamples 0 = .ok (.iconst 0, 1) := by decide +kernel
theorem dc_Chain_makeSamples_1 : decode cb_Chain_makeSamples 1 = .ok (.istore_n 3, 1) := by decide +kernel
theorem dc_Chain_makeSamples_2 : decode cb_Chain_makeSamples 2 = .ok (.iload_n 3, 1) := by decide +kernel
theorem dc_Chain_makeSamples_3 : decode cb_Chain_makeSamples 3 = .ok (.iload_n 2, 1) := by decide +kernel
theorem dc_Chain_makeSamples_4 : decode cb_Chain_makeSamples 4 = .ok (.if_icmp .ge 20, 3) := by decide +kernel
theorem dc_Chain_makeSamples_7 : decode cb_Chain_makeSamples 7 = .ok (.aload_n 0, 1) := by decide +kernel
theorem dc_Chain_makeSamples_8 : decode cb_Chain_makeSamples 8 = .ok (.getfield 23, 3) := by decide +kernel
theorem dc_Chain_makeSamples_11 : decode cb_Chain_makeSamples 11 = .ok (.aload_n 1, 1) := by decide +kernel
theorem dc_Chain_makeSamples_12 : decode cb_Chain_makeSamples 12 = .ok (.invokevirtual 69, 3) := by decide +kernel
theorem dc_Chain_makeSamples_15 : decode cb_Chain_makeSamples 15 = .ok (.invokevirtual 48, 3) := by decide +kernel
theorem dc_Chain_makeSamples_18 : decode cb_Chain_makeSamples 18 = .ok (.iinc 3 1, 3) := by decide +kernel
theorem dc_Chain_makeSamples_21 : decode cb_Chain_makeSamples 21 = .ok (.goto (-19), 3) := by decide +kernel
theorem dc_Chain_makeSamples_24 : decode cb_Chain_makeSamples 24 = .ok (.return_, 1) := by decide +kernel
theorem yk_Chain_makeSamples : fq_Y my_Chain_makeSamples cb_Chain_makeSamples 4 none 2 := ⟨wd_644, wd_27, by decide +kernel⟩
theorem dc_Chain_length_0 : decode cb_Chain_length 0 = .ok (.aload_n 0, 1) := by decide +kernel
theorem dc_Chain_length_1 : decode cb_Chain_length 1 = .ok (.getfield 12, 3) := by decide +kernel
theorem dc_Chain_length_4 : decode cb_Chain_length 4 = .ok (.invokevirtual 27, 3) := by decide +kernel
theorem dc_Chain_length_7 : decode cb_Chain_length 7 = .ok (.ireturn, 1) := by decide +kernel
theorem yk_Chain_length : fq_Y my_Chain_length cb_Chain_length 1 (some .int) 0 := ⟨wd_227, wd_27, by decide +kernel⟩
theorem dc_Chain_hasPlaceForResampler_0 : decode cb_Chain_hasPlaceForResampler 0 = .ok (.aload_n 0, 1) := by decide +kernel
theorem dc_Chain_hasPlaceForResampler_1 : decode cb_Chain_hasPlaceForResampler 1 = .ok (.getfield 37, 3) := by decide +kernel
theorem dc_Chain_hasPlaceForResampler_4 : decode cb_Chain_hasPlaceForResampler 4 = .ok (.iconst 2, 1) := by decide +kernel
theorem dc_Chain_hasPlaceForResampler_5 : decode cb_Chain_hasPlaceForResampler 5 = .ok (.if_icmp .ge 7, 3) := by decide +kernel
theorem dc_Chain_hasPlaceForResampler_8 : decode cb_Chain_hasPlaceForResampler 8 = .ok (.iconst 1, 1) := by decide +kernel
theorem dc_Chain_hasPlaceForResampler_9 : decode cb_Chain_hasPlaceForResampler 9 = .ok (.goto 4, 3) := by decide +kernel
theorem dc_Chain_hasPlaceForResampler_12 : decode cb_Chain_hasPlaceForResampler 12 = .ok (.iconst 0, 1) := by decide +kernel
theorem dc_Chain_hasPlaceForResampler_13 : decode cb_Chain_hasPlaceForResampler 13 = .ok (.ireturn, 1) := by decide +kernel
theorem yk_Chain_hasPlaceForResampler : fq_Y my_Chain_hasPlaceForResampler cb_Chain_hasPlaceForResampler 1 (some .boolean) 0 := ⟨wd_417, wd_27, by decide +kernel⟩
set_option maxHeartbeats 4000000 in
set_option maxRecDepth 100000 in
theorem ct_Chain_makeSamples (l : Launch) (D : va_G) (cI cO : ClassId) (tE : Nat) (h hL hR aR : Nat) (rs : Int32) (f : Nat → Int32) (i : Nat) (L : List Int32) (hs : Nat) (due : Nat) (sp : fm_S) (xs : List Int) (m : Nat) (g : va_W) (hrow : rw_ok 366 f i L) (hsg : sg_ok cI hs sp xs m g) (hcap : L.length + due ≤ 366) (hm1 : fm_m sp false (xs.length - 1) ≤ m) (hm2 : m + due ≤ fm_m sp true xs.length) (hm3 : m + due < 299000) (sz : Nat) : Met l my_Chain_makeSamples (fq_w my_Chain_makeSamples cb_Chain_makeSamples 4 none) ({ frames := 3, cells := 0, slots := 0, locals := 63 }) (va_Pc ([.ref h, .ref hs, .int (nI due)]) (fq_Pre D cI cO tE sz ([(h, .inr (6, [.ref hL, .ref hR, .int rs])), (hR, .inr (0, [.ref aR, .int (nI i), .int (nI L.length)])), (aR, .inl (cI, 366, .inl f))] ++ g))) (va_Qv (S := va_W) (fun w => ∃ (f2 : Nat → Int32) (L2 : List Int32) (g2 : va_W), w = [(h, .inr (6, [.ref hL, .ref hR, .int rs])), (hR, .inr (0, [.ref aR, .int (nI i), .int (nI L2.length)])), (aR, .inl (cI, 366, .inl f2))] ++ g2 ∧ rw_ok 366 f2 i L2 ∧ L2.map Int32.toInt = L.map Int32.toInt ++ (List.range due).map (fun z => fm_y sp xs (m + z)) ∧ sg_ok cI hs sp xs (m + due) g2) (fq_Bw D (va_A ([(h, .inr (6, [.ref hL, .ref hR, .int rs])), (hR, .inr (0, [.ref aR, .int (nI i), .int (nI L.length)])), (aR, .inl (cI, 366, .inl f))] ++ g) sz)) (va_A ([(h, .inr (6, [.ref hL, .ref hR, .int rs])), (hR, .inr (0, [.ref aR, .int (nI i), .int (nI L.length)])), (aR, .inl (cI, 366, .inl f))] ++ g) sz)) (0) (0) (va_A ([(h, .inr (6, [.ref hL, .ref hR, .int rs])), (hR, .inr (0, [.ref aR, .int (nI i), .int (nI L.length)])), (aR, .inl (cI, 366, .inl f))] ++ g) sz) := by
  refine fq_open (by decide +kernel) (Nat.le_of_ble_eq_true rfl) ?_
  intro pg ev s mt below meth cd ls K hret hlk hin hK hZ hP hD hA hS hl
  generalize va_A ([(h, .inr (6, [.ref hL, .ref hR, .int rs])), (hR, .inr (0, [.ref aR, .int (nI i), .int (nI L.length)])), (aR, .inl (cI, 366, .inl f))] ++ g) sz = A at hZ hD hA hS ⊢
  have K : fq_Ctx pg mt cd cb_Chain_makeSamples 4 s _ cn_Chain := K
  have hl : lv_has ls 4 [(0, .ref h), (1, .ref hs), (2, .int (nI due))] := hl
  refine lv_iconst (v := 0) K.1 K.2.1 dc_Chain_makeSamples_0 (by decide) ?_
  refine lv_istore_n K.1 K.2.1 dc_Chain_makeSamples_1 rfl hl (by decide) rfl (fun ls hl => ?_)
  have hl : lv_has ls 4 [(3, .int 0), (0, .ref h), (1, .ref hs), (2, .int (nI due))] := hl
  refine fq_lp (σ := Nat × (Nat → Int32) × List Int32 × va_W) (fun x => due - x.1) (fun x H locs ls => (x.1 ≤ due ∧ rw_ok 366 x.2.1 i x.2.2.1 ∧ x.2.2.1.length = L.length + x.1 ∧ x.2.2.1.map Int32.toInt = L.map Int32.toInt ++ (List.range x.1).map (fun z => fm_y sp xs (m + z)) ∧ sg_ok cI hs sp xs (m + x.1) x.2.2.2) ∧ lv_has ls 4 [(0, .ref h), (1, .ref hs), (2, .int (nI due)), (3, .int (nI x.1))] ∧ va_P D fq_cl ([(h, .inr (6, [.ref hL, .ref hR, .int rs])), (hR, .inr (0, [.ref aR, .int (nI i), .int (nI x.2.2.1.length)])), (aR, .inl (cI, 366, .inl x.2.1))] ++ x.2.2.2) H ∧ va_D A ([(h, .inr (6, [.ref hL, .ref hR, .int rs])), (hR, .inr (0, [.ref aR, .int (nI i), .int (nI x.2.2.1.length)])), (aR, .inl (cI, 366, .inl x.2.1))] ++ x.2.2.2) ∧ va_S A s.heap H locs) ?_ (0, f, L, g) _ _ _ ⟨⟨Nat.zero_le _, hrow, rfl, by simp, hsg⟩, lv_sub hl [1, 2, 3, 0] rfl, hP, hD, hS⟩
  rintro ⟨j, ff, LL, gg⟩ H locs ls ⟨hI2, hl, hP, hD, hS⟩ ih2
  have hI2 : j ≤ due ∧ rw_ok 366 ff i LL ∧ LL.length = L.length + j ∧ LL.map Int32.toInt = L.map Int32.toInt ++ (List.range j).map (fun z => fm_y sp xs (m + z)) ∧ sg_ok cI hs sp xs (m + j) gg := hI2
  have hl : lv_has ls 4 [(0, .ref h), (1, .ref hs), (2, .int (nI due)), (3, .int (nI j))] := hl
  have hP : va_P D fq_cl ([(h, .inr (6, [.ref hL, .ref hR, .int rs])), (hR, .inr (0, [.ref aR, .int (nI i), .int (nI LL.length)])), (aR, .inl (cI, 366, .inl ff))] ++ gg) _ := hP
  have hD : va_D A ([(h, .inr (6, [.ref hL, .ref hR, .int rs])), (hR, .inr (0, [.ref aR, .int (nI i), .int (nI LL.length)])), (aR, .inl (cI, 366, .inl ff))] ++ gg) := hD
  refine lv_iload_n K.1 K.2.1 dc_Chain_makeSamples_2 rfl (lv_at hl 3 rfl) ?_
  refine lv_iload_n K.1 K.2.1 dc_Chain_makeSamples_3 rfl (lv_at hl 2 rfl) ?_
  refine lv_icmp_ge (tgt := 24) K.1 K.2.1 dc_Chain_makeSamples_4 rfl (fun b4 => ?_) (fun b4 => ?_)
  · skip
    have hj : j = due := by rw [nI_leI (by omega) (by omega)] at b4; omega
    exact fq_retv K hret hlk hS hP hD ⟨_, _, _, rfl, hI2.2.1, by rw [← hj]; exact hI2.2.2.2.1, by rw [← hj]; exact hI2.2.2.2.2⟩ dc_Chain_makeSamples_24 (Nat.le_of_ble_eq_true rfl) (Nat.le_of_ble_eq_true rfl)
  · skip
    have hj : j < due := by rw [nI_leI (by omega) (by omega)] at b4; omega
    refine lv_aload_n K.1 K.2.1 dc_Chain_makeSamples_7 rfl (lv_at hl 0 rfl) ?_
    refine fq_get K hK cl_Chain hP 0 1 rfl (by decide) wd_106 rfl dc_Chain_makeSamples_8 ?_
    refine lv_aload_n K.1 K.2.1 dc_Chain_makeSamples_11 rfl (lv_at hl 1 rfl) ?_
    have hcg := fq_cutR (wc := gg) (wr := [(h, .inr (6, [.ref hL, .ref hR, .int rs])), (hR, .inr (0, [.ref aR, .int (nI i), .int (nI LL.length)])), (aR, .inl (cI, 366, .inl ff))]) List.perm_append_comm hP hD hS hA
    refine fq_ciR (wr := [(h, .inr (6, [.ref hL, .ref hR, .int rs])), (hR, .inr (0, [.ref aR, .int (nI i), .int (nI LL.length)])), (aR, .inl (cI, 366, .inl ff))]) (sg_run_make K hK hZ hS hcg hI2.2.2.2.2 (by omega) (by omega) (by omega) (Nat.le_of_ble_eq_true rfl) (Nat.le_of_ble_eq_true rfl) (Nat.le_of_ble_eq_true rfl) (Nat.le_of_ble_eq_true rfl) hl.1 (Nat.le_of_ble_eq_true rfl) dc_Chain_makeSamples_12) hP hD hS hcg List.perm_append_comm (fun r1 g1 H locs hw1 hP hD hS => ?_)
    have hP := fq_permP List.perm_append_comm hP
    have hD := fq_permD List.perm_append_comm hD
    have hP : va_P D fq_cl ([(h, .inr (6, [.ref hL, .ref hR, .int rs])), (hR, .inr (0, [.ref aR, .int (nI i), .int (nI LL.length)])), (aR, .inl (cI, 366, .inl ff))] ++ g1) _ := hP
    have hD : va_D A ([(h, .inr (6, [.ref hL, .ref hR, .int rs])), (hR, .inr (0, [.ref aR, .int (nI i), .int (nI LL.length)])), (aR, .inl (cI, 366, .inl ff))] ++ g1) := hD
    have hc := fq_cutT (X := [(h, .inr (6, [.ref hL, .ref hR, .int rs])), (hR, .inr (0, [.ref aR, .int (nI i), .int (nI LL.length)])), (aR, .inl (cI, 366, .inl ff))]) (T := g1) (cx := [(hR, .inr (0, [.ref aR, .int (nI i), .int (nI LL.length)])), (aR, .inl (cI, 366, .inl ff))]) hP hD hS hA [1, 2] (by decide) rfl
    refine fq_cvT (wr := [(h, .inr (6, [.ref hL, .ref hR, .int rs]))]) (fq_rV K hK hZ hS hc (ct_Row_add l D cI cO tE hR aR 366 ff i LL r1 hI2.2.1 _) yk_Row_add wd_554 wd_555 wd_606 0 rfl rfl rfl ⟨⟨rfl, rfl⟩, ⟨Nat.le_of_ble_eq_true rfl, Nat.le_of_ble_eq_true rfl⟩, ⟨Nat.le_of_ble_eq_true rfl, Nat.le_of_ble_eq_true rfl⟩⟩ hl.1 rfl (Nat.le_of_ble_eq_true rfl) dc_Chain_makeSamples_15) hP hD hS hc [1, 2] [0] rfl rfl (by decide) (by decide) (fun  w H locs hw2 hP hD hS => ?_)
    obtain ⟨g2, rfl, hrow1⟩ := hw2
    have hP : va_P D fq_cl ([(h, .inr (6, [.ref hL, .ref hR, .int rs])), (hR, .inr (0, [.ref aR, .int (nI i), .int (nI (rw_put 366 LL r1).length)])), (aR, .inl (cI, 366, .inl g2))] ++ g1) _ := hP
    have hD : va_D A ([(h, .inr (6, [.ref hL, .ref hR, .int rs])), (hR, .inr (0, [.ref aR, .int (nI i), .int (nI (rw_put 366 LL r1).length)])), (aR, .inl (cI, 366, .inl g2))] ++ g1) := hD
    refine lv_iinc (v := nI (j + 1)) K.1 K.2.1 dc_Chain_makeSamples_18 hl (k := 3) rfl (nI_1 j) (by decide) rfl (fun ls hl => ?_)
    have hl : lv_has ls 4 [(3, .int (nI (j + 1))), (0, .ref h), (1, .ref hs), (2, .int (nI due))] := hl
    refine lv_goto (tgt := 2) K.1 K.2.1 dc_Chain_makeSamples_21 rfl ?_
    exact ih2 (j + 1, g2, rw_put 366 LL r1, g1) _ _ _ (by show due - (j + 1) < due - j; omega) ⟨mk_step hI2 hj hw1 hrow1 hcap, lv_sub hl [1, 2, 3, 0] rfl, hP, hD, hS⟩
