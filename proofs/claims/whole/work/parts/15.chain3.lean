theorem wd_273 : Cond.instanceMethod my_Chain_append ∈ fq_TB := fq_in 273 (by decide +kernel) rfl
theorem wd_274 : Cond.selects cn_Chain my_Chain_append my_Chain_append ∈ fq_TB := fq_in 274 (by decide +kernel) rfl
theorem wd_275 : Cond.code my_Chain_append cb_Chain_append 2 none ∈ fq_TB := fq_in 275 (by decide +kernel) rfl
theorem wd_276 : Cond.methodLink cn_Chain 41 my_AL_add ∈ fq_TB := fq_in 276 (by decide +kernel) rfl
theorem wd_447 : Cond.instanceMethod my_Chain_appendResampler ∈ fq_TB := fq_in 447 (by decide +kernel) rfl
theorem wd_448 : Cond.selects cn_Chain my_Chain_appendResampler my_Chain_appendResampler ∈ fq_TB := fq_in 448 (by decide +kernel) rfl
theorem wd_449 : Cond.code my_Chain_appendResampler cb_Chain_appendResampler 2 none ∈ fq_TB := fq_in 449 (by decide +kernel) rfl
theorem wd_463 : Cond.instanceMethod my_Chain_stage ∈ fq_TB := fq_in 463 (by decide +kernel) rfl
theorem wd_464 : Cond.selects cn_Chain my_Chain_stage my_Chain_stage ∈ fq_TB := fq_in 464 (by decide +kernel) rfl
theorem wd_465 : Cond.code my_Chain_stage cb_Chain_stage 2 (some (.object "FilterPipe$Stage")) ∈ fq_TB := fq_in 465 (by decide +kernel) rfl

def st_ad (sts : List ch_T) (x : Int32) : Option Nat := if x < 0 then none else (sts[x.toNatClampNeg]?).map (·.1)
theorem st_ad0 (x : Int32) : st_ad [] x = none := by unfold st_ad; split <;> rfl
theorem st_ad1 {sts : List ch_T} {x : Int32} (hl : sts.length < 2 ^ 31) (h : x < 0 ∨ ¬ x < nI sts.length) : st_ad sts x = none := by
  unfold st_ad
  split
  · rfl
  · rename_i hx
    obtain ⟨k, hk, rfl⟩ := nI_of hx
    rcases h with h | h
    · exact absurd h hx
    · rw [nI_ltI hk hl] at h
      rw [nI_clamp hk, List.getElem?_eq_none (by omega)]
      rfl
theorem st_ad2 {sts : List ch_T} {x : Int32} {k : Nat} {s : ch_T} (hk : k < 2 ^ 31) (hx : x = nI k) (h : sts[k]? = some s) : st_ad sts x = some s.1 := by
  unfold st_ad
  rw [hx, if_neg (nI_pos hk), nI_clamp hk, h]
  rfl
theorem al_addA {tE hL qe q : Nat} {cO : ClassId} {mo : Int32} {sts : List ch_T} {s0 : ch_T} (hn : sts = []) (hq : s0.1 = q) : al_W tE cO hL (sts ++ [s0]) [(hL, .inr (11, [.ref qe, .int (nI 1), .int mo])), (qe, .inl (cO, 10, .inr (.inr (.inr (.inr (va_up (fun _ => none) 0 (some q)))))))] := by
  subst hn
  refine Or.inr ⟨qe, mo, _, rfl, (by decide : 1 ≤ 5), fun k s hk => ?_⟩
  cases k with
  | zero =>
    have e : s0 = s := Option.some.inj hk
    rw [← e, hq]; rfl
  | succ k => simp at hk
theorem al_addB {tE hL e q : Nat} {cO : ClassId} {mo : Int32} {f : Nat → Option Nat} {sts : List ch_T} {s0 : ch_T} (hl : sts.length < 5) (hq : s0.1 = q) (hf : ∀ (k : Nat) (s : ch_T), sts[k]? = some s → f k = some s.1) : al_W tE cO hL (sts ++ [s0]) [(hL, .inr (11, [.ref e, .int (nI (sts.length + 1)), .int mo])), (e, .inl (cO, 10, .inr (.inr (.inr (.inr (va_up f sts.length (some q)))))))] := by
  have hln : (sts ++ [s0]).length = sts.length + 1 := by simp
  refine Or.inr ⟨e, mo, _, by rw [hln], by rw [hln]; omega, fun k s hk => ?_⟩
  by_cases c : k < sts.length
  · rw [List.getElem?_append_left c] at hk
    unfold va_up
    rw [if_neg (by omega)]
    exact hf k s hk
  · rw [List.getElem?_append_right (by omega)] at hk
    have hz : k - sts.length = 0 := by
      have := (List.getElem?_eq_some_iff.mp hk).1
      simp at this; omega
    rw [hz] at hk
    have e1 : s0 = s := Option.some.inj hk
    unfold va_up
    rw [if_pos (by omega), ← e1, hq]

theorem dc_Chain_stage_0 : decode cb_Chain_stage 0 = .ok (.iload_n 1, 1) := by decide +kernel
theorem dc_Chain_stage_1 : decode cb_Chain_stage 1 = .ok (.ifCond .lt 14, 3) := by decide +kernel
theorem dc_Chain_stage_4 : decode cb_Chain_stage 4 = .ok (.iload_n 1, 1) := by decide +kernel
theorem dc_Chain_stage_5 : decode cb_Chain_stage 5 = .ok (.aload_n 0, 1) := by decide +kernel
theorem dc_Chain_stage_6 : decode cb_Chain_stage 6 = .ok (.getfield 12, 3) := by decide +kernel
theorem dc_Chain_stage_9 : decode cb_Chain_stage 9 = .ok (.invokevirtual 27, 3) := by decide +kernel
theorem dc_Chain_stage_12 : decode cb_Chain_stage 12 = .ok (.if_icmp .lt 7, 3) := by decide +kernel
theorem dc_Chain_stage_15 : decode cb_Chain_stage 15 = .ok (.aconst_null, 1) := by decide +kernel
theorem dc_Chain_stage_16 : decode cb_Chain_stage 16 = .ok (.goto 14, 3) := by decide +kernel
theorem dc_Chain_stage_19 : decode cb_Chain_stage 19 = .ok (.aload_n 0, 1) := by decide +kernel
theorem dc_Chain_stage_20 : decode cb_Chain_stage 20 = .ok (.getfield 12, 3) := by decide +kernel
theorem dc_Chain_stage_23 : decode cb_Chain_stage 23 = .ok (.iload_n 1, 1) := by decide +kernel
theorem dc_Chain_stage_24 : decode cb_Chain_stage 24 = .ok (.invokevirtual 31, 3) := by decide +kernel
theorem dc_Chain_stage_27 : decode cb_Chain_stage 27 = .ok (.checkcast 35, 3) := by decide +kernel
theorem dc_Chain_stage_30 : decode cb_Chain_stage 30 = .ok (.areturn, 1) := by decide +kernel
theorem yk_Chain_stage : fq_Y my_Chain_stage cb_Chain_stage 2 (some (.object "FilterPipe$Stage")) 1 := ⟨wd_465, wd_27, by decide +kernel⟩
theorem dc_Chain_append_0 : decode cb_Chain_append 0 = .ok (.aload_n 0, 1) := by decide +kernel
theorem dc_Chain_append_1 : decode cb_Chain_append 1 = .ok (.getfield 12, 3) := by decide +kernel
theorem dc_Chain_append_4 : decode cb_Chain_append 4 = .ok (.aload_n 1, 1) := by decide +kernel
theorem dc_Chain_append_5 : decode cb_Chain_append 5 = .ok (.invokevirtual 41, 3) := by decide +kernel
theorem dc_Chain_append_8 : decode cb_Chain_append 8 = .ok (.pop, 1) := by decide +kernel
theorem dc_Chain_append_9 : decode cb_Chain_append 9 = .ok (.return_, 1) := by decide +kernel
theorem yk_Chain_append : fq_Y my_Chain_append cb_Chain_append 2 none 1 := ⟨wd_275, wd_27, by decide +kernel⟩
theorem dc_Chain_appendResampler_0 : decode cb_Chain_appendResampler 0 = .ok (.aload_n 0, 1) := by decide +kernel
theorem dc_Chain_appendResampler_1 : decode cb_Chain_appendResampler 1 = .ok (.getfield 12, 3) := by decide +kernel
theorem dc_Chain_appendResampler_4 : decode cb_Chain_appendResampler 4 = .ok (.aload_n 1, 1) := by decide +kernel
theorem dc_Chain_appendResampler_5 : decode cb_Chain_appendResampler 5 = .ok (.invokevirtual 41, 3) := by decide +kernel
theorem dc_Chain_appendResampler_8 : decode cb_Chain_appendResampler 8 = .ok (.pop, 1) := by decide +kernel
theorem dc_Chain_appendResampler_9 : decode cb_Chain_appendResampler 9 = .ok (.aload_n 0, 1) := by decide +kernel
theorem dc_Chain_appendResampler_10 : decode cb_Chain_appendResampler 10 = .ok (.dup, 1) := by decide +kernel
theorem dc_Chain_appendResampler_11 : decode cb_Chain_appendResampler 11 = .ok (.getfield 37, 3) := by decide +kernel
theorem dc_Chain_appendResampler_14 : decode cb_Chain_appendResampler 14 = .ok (.iconst 1, 1) := by decide +kernel
theorem dc_Chain_appendResampler_15 : decode cb_Chain_appendResampler 15 = .ok (.iadd, 1) := by decide +kernel
theorem dc_Chain_appendResampler_16 : decode cb_Chain_appendResampler 16 = .ok (.putfield 37, 3) := by decide +kernel
theorem dc_Chain_appendResampler_19 : decode cb_Chain_appendResampler 19 = .ok (.return_, 1) := by decide +kernel
theorem yk_Chain_appendResampler : fq_Y my_Chain_appendResampler cb_Chain_appendResampler 2 none 1 := ⟨wd_449, wd_27, by decide +kernel⟩
set_option maxHeartbeats 4000000 in
set_option maxRecDepth 100000 in
theorem ct_Chain_length (l : Launch) (D : va_G) (cI cO : ClassId) (tE : Nat) (h hL hR : Nat) (rs : Int32) (sts : List ch_T) (wl : va_W) (hal : al_W tE cO hL sts wl) (sz : Nat) : Met l my_Chain_length (fq_w my_Chain_length cb_Chain_length 1 (some .int)) ({ frames := 1, cells := 0, slots := 0, locals := 20 }) (va_Pc ([.ref h]) (fq_Pre D cI cO tE sz ([(h, .inr (6, [.ref hL, .ref hR, .int rs]))] ++ wl))) (va_Qi (S := va_W) (fun r w => w = [(h, .inr (6, [.ref hL, .ref hR, .int rs]))] ++ wl ∧ r = nI sts.length) (fq_Bw D (va_A ([(h, .inr (6, [.ref hL, .ref hR, .int rs]))] ++ wl) sz)) (va_A ([(h, .inr (6, [.ref hL, .ref hR, .int rs]))] ++ wl) sz)) (0) (0) (va_A ([(h, .inr (6, [.ref hL, .ref hR, .int rs]))] ++ wl) sz) := by
  refine fq_open (by decide +kernel) (Nat.le_of_ble_eq_true rfl) ?_
  intro pg ev s mt below meth cd ls K hret hlk hin hK hZ hP hD hA hS hl
  generalize va_A ([(h, .inr (6, [.ref hL, .ref hR, .int rs]))] ++ wl) sz = A at hZ hD hA hS ⊢
  have K : fq_Ctx pg mt cd cb_Chain_length 1 s _ cn_Chain := K
  have hl : lv_has ls 1 [(0, .ref h)] := hl
  rcases hal with ⟨hnil, mo, rfl⟩ | ⟨eE, mo, fE, rfl, hle, hfE⟩
  · skip
    have hP : va_P D fq_cl ([(h, .inr (6, [.ref hL, .ref hR, .int rs])), (hL, .inr (11, [.ref tE, .int (nI 0), .int mo]))]) _ := hP
    have hD : va_D A ([(h, .inr (6, [.ref hL, .ref hR, .int rs])), (hL, .inr (11, [.ref tE, .int (nI 0), .int mo]))]) := hD
    refine lv_aload_n K.1 K.2.1 dc_Chain_length_0 rfl (lv_at hl 0 rfl) ?_
    refine fq_get K hK cl_Chain hP 0 0 rfl (by decide) wd_105 rfl dc_Chain_length_1 ?_
    have hc := fq_cut.of (wc := [(hL, .inr (11, [.ref tE, .int (nI 0), .int mo]))]) hP hD hS hA [1] (by decide) rfl
    refine fq_ci (wr := [(h, .inr (6, [.ref hL, .ref hR, .int rs]))]) (fq_rV K hK hZ hS hc (ct_AL_size l D cI cO tE hL tE (nI 0) mo _) yk_AL_size wd_229 wd_230 wd_228 0 rfl rfl rfl ⟨⟨rfl, rfl⟩, ⟨Nat.le_of_ble_eq_true rfl, Nat.le_of_ble_eq_true rfl⟩, ⟨Nat.le_of_ble_eq_true rfl, Nat.le_of_ble_eq_true rfl⟩⟩ hl.1 rfl (Nat.le_of_ble_eq_true rfl) dc_Chain_length_4) hP hD hS hc [1] [0] rfl rfl (by decide) (by decide) (fun r1 w H locs hw1 hP hD hS => ?_)
    obtain ⟨rfl, rfl⟩ := hw1
    have hP : va_P D fq_cl ([(h, .inr (6, [.ref hL, .ref hR, .int rs])), (hL, .inr (11, [.ref tE, .int (nI 0), .int mo]))]) _ := hP
    have hD : va_D A ([(h, .inr (6, [.ref hL, .ref hR, .int rs])), (hL, .inr (11, [.ref tE, .int (nI 0), .int mo]))]) := hD
    have hP : va_P D fq_cl ([(h, .inr (6, [.ref hL, .ref hR, .int rs]))] ++ [(hL, .inr (11, [.ref tE, .int (nI 0), .int mo]))]) _ := hP
    have hD : va_D A ([(h, .inr (6, [.ref hL, .ref hR, .int rs]))] ++ [(hL, .inr (11, [.ref tE, .int (nI 0), .int mo]))]) := hD
    exact fq_reti K hret hlk hS hP hD ⟨rfl, by rw [hnil]; rfl⟩ dc_Chain_length_7 (Nat.le_of_ble_eq_true rfl) (Nat.le_of_ble_eq_true rfl)
  · skip
    have hP : va_P D fq_cl ([(h, .inr (6, [.ref hL, .ref hR, .int rs])), (hL, .inr (11, [.ref eE, .int (nI sts.length), .int mo])), (eE, .inl (cO, 10, .inr (.inr (.inr (.inr fE)))))]) _ := hP
    have hD : va_D A ([(h, .inr (6, [.ref hL, .ref hR, .int rs])), (hL, .inr (11, [.ref eE, .int (nI sts.length), .int mo])), (eE, .inl (cO, 10, .inr (.inr (.inr (.inr fE)))))]) := hD
    refine lv_aload_n K.1 K.2.1 dc_Chain_length_0 rfl (lv_at hl 0 rfl) ?_
    refine fq_get K hK cl_Chain hP 0 0 rfl (by decide) wd_105 rfl dc_Chain_length_1 ?_
    have hc := fq_cut.of (wc := [(hL, .inr (11, [.ref eE, .int (nI sts.length), .int mo]))]) hP hD hS hA [1] (by decide) rfl
    refine fq_ci (wr := [(h, .inr (6, [.ref hL, .ref hR, .int rs])), (eE, .inl (cO, 10, .inr (.inr (.inr (.inr fE)))))]) (fq_rV K hK hZ hS hc (ct_AL_size l D cI cO tE hL eE (nI sts.length) mo _) yk_AL_size wd_229 wd_230 wd_228 0 rfl rfl rfl ⟨⟨rfl, rfl⟩, ⟨Nat.le_of_ble_eq_true rfl, Nat.le_of_ble_eq_true rfl⟩, ⟨Nat.le_of_ble_eq_true rfl, Nat.le_of_ble_eq_true rfl⟩⟩ hl.1 rfl (Nat.le_of_ble_eq_true rfl) dc_Chain_length_4) hP hD hS hc [1] [0, 2] rfl rfl (by decide) (by decide) (fun r2 w H locs hw2 hP hD hS => ?_)
    obtain ⟨rfl, rfl⟩ := hw2
    have hP : va_P D fq_cl ([(h, .inr (6, [.ref hL, .ref hR, .int rs])), (eE, .inl (cO, 10, .inr (.inr (.inr (.inr fE))))), (hL, .inr (11, [.ref eE, .int (nI sts.length), .int mo]))]) _ := hP
    have hD : va_D A ([(h, .inr (6, [.ref hL, .ref hR, .int rs])), (eE, .inl (cO, 10, .inr (.inr (.inr (.inr fE))))), (hL, .inr (11, [.ref eE, .int (nI sts.length), .int mo]))]) := hD
    have hP := hP.sub (ws' := [(h, .inr (6, [.ref hL, .ref hR, .int rs])), (hL, .inr (11, [.ref eE, .int (nI sts.length), .int mo])), (eE, .inl (cO, 10, .inr (.inr (.inr (.inr fE)))))]) [0, 2, 1] rfl
    have hD := hD.sub (ws' := [(h, .inr (6, [.ref hL, .ref hR, .int rs])), (hL, .inr (11, [.ref eE, .int (nI sts.length), .int mo])), (eE, .inl (cO, 10, .inr (.inr (.inr (.inr fE)))))]) [0, 2, 1] (by decide) rfl
    have hP : va_P D fq_cl ([(h, .inr (6, [.ref hL, .ref hR, .int rs]))] ++ [(hL, .inr (11, [.ref eE, .int (nI sts.length), .int mo])), (eE, .inl (cO, 10, .inr (.inr (.inr (.inr fE)))))]) _ := hP
    have hD : va_D A ([(h, .inr (6, [.ref hL, .ref hR, .int rs]))] ++ [(hL, .inr (11, [.ref eE, .int (nI sts.length), .int mo])), (eE, .inl (cO, 10, .inr (.inr (.inr (.inr fE)))))]) := hD
    exact fq_reti K hret hlk hS hP hD ⟨rfl, rfl⟩ dc_Chain_length_7 (Nat.le_of_ble_eq_true rfl) (Nat.le_of_ble_eq_true rfl)
set_option maxHeartbeats 4000000 in
set_option maxRecDepth 100000 in
theorem ct_Chain_stage (l : Launch) (D : va_G) (cI cO : ClassId) (tE : Nat) (h hL hR : Nat) (rs : Int32) (x : Int32) (sts : List ch_T) (wl : va_W) (Ls : List va_W) (hal : al_W tE cO hL sts wl) (hch : ch_ok cI Ls sts) (sz : Nat) : Met l my_Chain_stage (fq_w my_Chain_stage cb_Chain_stage 2 (some (.object "FilterPipe$Stage"))) ({ frames := 3, cells := 0, slots := 0, locals := 64 }) (va_Pc ([.ref h, .int x]) (fq_Pre D cI cO tE sz ([(h, .inr (6, [.ref hL, .ref hR, .int rs]))] ++ (wl :: Ls).flatten))) (va_Qq (S := va_W) (fun r w => w = [(h, .inr (6, [.ref hL, .ref hR, .int rs]))] ++ (wl :: Ls).flatten ∧ r = st_ad sts x) (fq_Bw D (va_A ([(h, .inr (6, [.ref hL, .ref hR, .int rs]))] ++ (wl :: Ls).flatten) sz)) (va_A ([(h, .inr (6, [.ref hL, .ref hR, .int rs]))] ++ (wl :: Ls).flatten) sz)) (0) (0) (va_A ([(h, .inr (6, [.ref hL, .ref hR, .int rs]))] ++ (wl :: Ls).flatten) sz) := by
  refine fq_open (by decide +kernel) (Nat.le_of_ble_eq_true rfl) ?_
  intro pg ev s mt below meth cd ls K hret hlk hin hK hZ hP hD hA hS hl
  generalize va_A ([(h, .inr (6, [.ref hL, .ref hR, .int rs]))] ++ (wl :: Ls).flatten) sz = A at hZ hD hA hS ⊢
  have K : fq_Ctx pg mt cd cb_Chain_stage 2 s _ cn_Chain := K
  have hl : lv_has ls 2 [(0, .ref h), (1, .int x)] := hl
  rcases hal with ⟨hnil, mo, rfl⟩ | ⟨eE, mo, fE, rfl, hle, hfE⟩
  · skip
    have hP : va_P D fq_cl ([(h, .inr (6, [.ref hL, .ref hR, .int rs])), (hL, .inr (11, [.ref tE, .int (nI 0), .int mo]))] ++ Ls.flatten) _ := hP
    have hD : va_D A ([(h, .inr (6, [.ref hL, .ref hR, .int rs])), (hL, .inr (11, [.ref tE, .int (nI 0), .int mo]))] ++ Ls.flatten) := hD
    refine lv_iload_n K.1 K.2.1 dc_Chain_stage_0 rfl (lv_at hl 1 rfl) ?_
    refine lv_if_lt (tgt := 15) K.1 K.2.1 dc_Chain_stage_1 rfl (fun b1 => ?_) (fun b1 => ?_)
    · skip
      refine lv_null K.1 K.2.1 dc_Chain_stage_15 ?_
      refine lv_goto (tgt := 30) K.1 K.2.1 dc_Chain_stage_16 rfl ?_
      have hP : va_P D fq_cl ([(h, .inr (6, [.ref hL, .ref hR, .int rs]))] ++ ([(hL, .inr (11, [.ref tE, .int (nI 0), .int mo]))] :: Ls).flatten) _ := hP
      have hD : va_D A ([(h, .inr (6, [.ref hL, .ref hR, .int rs]))] ++ ([(hL, .inr (11, [.ref tE, .int (nI 0), .int mo]))] :: Ls).flatten) := hD
      exact fq_retq (r := none) K hret (Or.inl ⟨_, rfl⟩) hlk hS hP hD ⟨rfl, by rw [hnil]; exact (st_ad0 x).symm⟩ dc_Chain_stage_30 (Nat.le_of_ble_eq_true rfl) (Nat.le_of_ble_eq_true rfl)
    · skip
      refine lv_iload_n K.1 K.2.1 dc_Chain_stage_4 rfl (lv_at hl 1 rfl) ?_
      refine lv_aload_n K.1 K.2.1 dc_Chain_stage_5 rfl (lv_at hl 0 rfl) ?_
      refine fq_get K hK cl_Chain hP 0 0 rfl (by decide) wd_105 rfl dc_Chain_stage_6 ?_
      have hc := fq_cutT (X := [(h, .inr (6, [.ref hL, .ref hR, .int rs])), (hL, .inr (11, [.ref tE, .int (nI 0), .int mo]))]) (T := Ls.flatten) (cx := [(hL, .inr (11, [.ref tE, .int (nI 0), .int mo]))]) hP hD hS hA [1] (by decide) rfl
      refine fq_ciT (wr := [(h, .inr (6, [.ref hL, .ref hR, .int rs]))]) (fq_rV K hK hZ hS hc (ct_AL_size l D cI cO tE hL tE (nI 0) mo _) yk_AL_size wd_229 wd_230 wd_228 0 rfl rfl rfl ⟨⟨rfl, rfl⟩, ⟨Nat.le_of_ble_eq_true rfl, Nat.le_of_ble_eq_true rfl⟩, ⟨Nat.le_of_ble_eq_true rfl, Nat.le_of_ble_eq_true rfl⟩⟩ hl.1 rfl (Nat.le_of_ble_eq_true rfl) dc_Chain_stage_9) hP hD hS hc [1] [0] rfl rfl (by decide) (by decide) (fun r1 w H locs hw1 hP hD hS => ?_)
      obtain ⟨rfl, rfl⟩ := hw1
      have hP : va_P D fq_cl ([(h, .inr (6, [.ref hL, .ref hR, .int rs])), (hL, .inr (11, [.ref tE, .int (nI 0), .int mo]))] ++ Ls.flatten) _ := hP
      have hD : va_D A ([(h, .inr (6, [.ref hL, .ref hR, .int rs])), (hL, .inr (11, [.ref tE, .int (nI 0), .int mo]))] ++ Ls.flatten) := hD
      refine lv_icmp_lt (tgt := 19) K.1 K.2.1 dc_Chain_stage_12 rfl (fun b12 => absurd b12 (by rw [nI_0]; exact b1)) (fun b12 => ?_)
      refine lv_null K.1 K.2.1 dc_Chain_stage_15 ?_
      refine lv_goto (tgt := 30) K.1 K.2.1 dc_Chain_stage_16 rfl ?_
      have hP : va_P D fq_cl ([(h, .inr (6, [.ref hL, .ref hR, .int rs]))] ++ ([(hL, .inr (11, [.ref tE, .int (nI 0), .int mo]))] :: Ls).flatten) _ := hP
      have hD : va_D A ([(h, .inr (6, [.ref hL, .ref hR, .int rs]))] ++ ([(hL, .inr (11, [.ref tE, .int (nI 0), .int mo]))] :: Ls).flatten) := hD
      exact fq_retq (r := none) K hret (Or.inl ⟨_, rfl⟩) hlk hS hP hD ⟨rfl, by rw [hnil]; exact (st_ad0 x).symm⟩ dc_Chain_stage_30 (Nat.le_of_ble_eq_true rfl) (Nat.le_of_ble_eq_true rfl)
  · skip
    have hP : va_P D fq_cl ([(h, .inr (6, [.ref hL, .ref hR, .int rs])), (hL, .inr (11, [.ref eE, .int (nI sts.length), .int mo])), (eE, .inl (cO, 10, .inr (.inr (.inr (.inr fE)))))] ++ Ls.flatten) _ := hP
    have hD : va_D A ([(h, .inr (6, [.ref hL, .ref hR, .int rs])), (hL, .inr (11, [.ref eE, .int (nI sts.length), .int mo])), (eE, .inl (cO, 10, .inr (.inr (.inr (.inr fE)))))] ++ Ls.flatten) := hD
    refine lv_iload_n K.1 K.2.1 dc_Chain_stage_0 rfl (lv_at hl 1 rfl) ?_
    refine lv_if_lt (tgt := 15) K.1 K.2.1 dc_Chain_stage_1 rfl (fun b1 => ?_) (fun b1 => ?_)
    · skip
      refine lv_null K.1 K.2.1 dc_Chain_stage_15 ?_
      refine lv_goto (tgt := 30) K.1 K.2.1 dc_Chain_stage_16 rfl ?_
      have hP : va_P D fq_cl ([(h, .inr (6, [.ref hL, .ref hR, .int rs]))] ++ ([(hL, .inr (11, [.ref eE, .int (nI sts.length), .int mo])), (eE, .inl (cO, 10, .inr (.inr (.inr (.inr fE)))))] :: Ls).flatten) _ := hP
      have hD : va_D A ([(h, .inr (6, [.ref hL, .ref hR, .int rs]))] ++ ([(hL, .inr (11, [.ref eE, .int (nI sts.length), .int mo])), (eE, .inl (cO, 10, .inr (.inr (.inr (.inr fE)))))] :: Ls).flatten) := hD
      exact fq_retq (r := none) K hret (Or.inl ⟨_, rfl⟩) hlk hS hP hD ⟨rfl, (st_ad1 (by omega) (by first | exact Or.inl b1 | exact Or.inr b12)).symm⟩ dc_Chain_stage_30 (Nat.le_of_ble_eq_true rfl) (Nat.le_of_ble_eq_true rfl)
    · skip
      refine lv_iload_n K.1 K.2.1 dc_Chain_stage_4 rfl (lv_at hl 1 rfl) ?_
      refine lv_aload_n K.1 K.2.1 dc_Chain_stage_5 rfl (lv_at hl 0 rfl) ?_
      refine fq_get K hK cl_Chain hP 0 0 rfl (by decide) wd_105 rfl dc_Chain_stage_6 ?_
      have hc := fq_cutT (X := [(h, .inr (6, [.ref hL, .ref hR, .int rs])), (hL, .inr (11, [.ref eE, .int (nI sts.length), .int mo])), (eE, .inl (cO, 10, .inr (.inr (.inr (.inr fE)))))]) (T := Ls.flatten) (cx := [(hL, .inr (11, [.ref eE, .int (nI sts.length), .int mo]))]) hP hD hS hA [1] (by decide) rfl
      refine fq_ciT (wr := [(h, .inr (6, [.ref hL, .ref hR, .int rs])), (eE, .inl (cO, 10, .inr (.inr (.inr (.inr fE)))))]) (fq_rV K hK hZ hS hc (ct_AL_size l D cI cO tE hL eE (nI sts.length) mo _) yk_AL_size wd_229 wd_230 wd_228 0 rfl rfl rfl ⟨⟨rfl, rfl⟩, ⟨Nat.le_of_ble_eq_true rfl, Nat.le_of_ble_eq_true rfl⟩, ⟨Nat.le_of_ble_eq_true rfl, Nat.le_of_ble_eq_true rfl⟩⟩ hl.1 rfl (Nat.le_of_ble_eq_true rfl) dc_Chain_stage_9) hP hD hS hc [1] [0, 2] rfl rfl (by decide) (by decide) (fun r2 w H locs hw2 hP hD hS => ?_)
      obtain ⟨rfl, rfl⟩ := hw2
      have hP : va_P D fq_cl ([(h, .inr (6, [.ref hL, .ref hR, .int rs])), (eE, .inl (cO, 10, .inr (.inr (.inr (.inr fE))))), (hL, .inr (11, [.ref eE, .int (nI sts.length), .int mo]))] ++ Ls.flatten) _ := hP
      have hD : va_D A ([(h, .inr (6, [.ref hL, .ref hR, .int rs])), (eE, .inl (cO, 10, .inr (.inr (.inr (.inr fE))))), (hL, .inr (11, [.ref eE, .int (nI sts.length), .int mo]))] ++ Ls.flatten) := hD
      refine lv_icmp_lt (tgt := 19) K.1 K.2.1 dc_Chain_stage_12 rfl (fun b12 => ?_) (fun b12 => ?_)
      · skip
        obtain ⟨k, hk, hx⟩ := nI_of b1
        have hkl : k < sts.length := (nI_ltI hk (by omega)).mp (hx ▸ b12)
        obtain ⟨⟨hS0, sp, xs, m0⟩, hset0⟩ := ps_some hkl
        obtain ⟨gc, hgc, hsgc⟩ := ch_get hch hset0
        refine lv_aload_n K.1 K.2.1 dc_Chain_stage_19 rfl (lv_at hl 0 rfl) ?_
        refine fq_get K hK cl_Chain hP 0 0 rfl (by decide) wd_105 rfl dc_Chain_stage_20 ?_
        refine lv_iload_n K.1 K.2.1 dc_Chain_stage_23 rfl (lv_at hl 1 rfl) ?_
        refine fq_asi (y := nI k) hx ?_
        have hc := fq_cutT (X := [(h, .inr (6, [.ref hL, .ref hR, .int rs])), (eE, .inl (cO, 10, .inr (.inr (.inr (.inr fE))))), (hL, .inr (11, [.ref eE, .int (nI sts.length), .int mo]))]) (T := Ls.flatten) (cx := [(hL, .inr (11, [.ref eE, .int (nI sts.length), .int mo])), (eE, .inl (cO, 10, .inr (.inr (.inr (.inr fE)))))]) hP hD hS hA [2, 1] (by decide) rfl
        refine fq_cqT (wr := [(h, .inr (6, [.ref hL, .ref hR, .int rs]))]) (fq_rV K hK hZ hS hc (ct_AL_get l D cI cO tE hL eE sts.length mo fE k hS0 hkl (by omega) (hfE k _ hset0) _) yk_AL_get wd_467 wd_468 wd_466 0 rfl rfl rfl ⟨⟨rfl, rfl⟩, ⟨Nat.le_of_ble_eq_true rfl, Nat.le_of_ble_eq_true rfl⟩, ⟨Nat.le_of_ble_eq_true rfl, Nat.le_of_ble_eq_true rfl⟩⟩ hl.1 rfl (Nat.le_of_ble_eq_true rfl) dc_Chain_stage_24) hP hD hS hc [2, 1] [0] rfl rfl (by decide) (by decide) (fun r3 w H locs hw3 hP hD hS => ?_)
        obtain ⟨rfl, rfl⟩ := hw3
        have hP : va_P D fq_cl ([(h, .inr (6, [.ref hL, .ref hR, .int rs])), (hL, .inr (11, [.ref eE, .int (nI sts.length), .int mo])), (eE, .inl (cO, 10, .inr (.inr (.inr (.inr fE)))))] ++ Ls.flatten) _ := hP
        have hD : va_D A ([(h, .inr (6, [.ref hL, .ref hR, .int rs])), (hL, .inr (11, [.ref eE, .int (nI sts.length), .int mo])), (eE, .inl (cO, 10, .inr (.inr (.inr (.inr fE)))))] ++ Ls.flatten) := hD
        refine W.eq (g2 := F0 mt 27 ls [.ref hS0]) rfl ?_
        refine sg_cast K hK hsgc (fq_Pl (fq_permP (fq_gone hgc) hP)) (K.2.2.2.2 _ wd_480) dc_Chain_stage_27 ?_
        have hP : va_P D fq_cl ([(h, .inr (6, [.ref hL, .ref hR, .int rs]))] ++ ([(hL, .inr (11, [.ref eE, .int (nI sts.length), .int mo])), (eE, .inl (cO, 10, .inr (.inr (.inr (.inr fE)))))] :: Ls).flatten) _ := hP
        have hD : va_D A ([(h, .inr (6, [.ref hL, .ref hR, .int rs]))] ++ ([(hL, .inr (11, [.ref eE, .int (nI sts.length), .int mo])), (eE, .inl (cO, 10, .inr (.inr (.inr (.inr fE)))))] :: Ls).flatten) := hD
        exact fq_retq (r := some hS0) K hret (Or.inl ⟨_, rfl⟩) hlk hS hP hD ⟨rfl, (st_ad2 hk hx hset0).symm⟩ dc_Chain_stage_30 (Nat.le_of_ble_eq_true rfl) (Nat.le_of_ble_eq_true rfl)
      · skip
        refine lv_null K.1 K.2.1 dc_Chain_stage_15 ?_
        refine lv_goto (tgt := 30) K.1 K.2.1 dc_Chain_stage_16 rfl ?_
        have hP := va_P.part (X := [(h, .inr (6, [.ref hL, .ref hR, .int rs])), (eE, .inl (cO, 10, .inr (.inr (.inr (.inr fE))))), (hL, .inr (11, [.ref eE, .int (nI sts.length), .int mo]))]) (cx := [(h, .inr (6, [.ref hL, .ref hR, .int rs])), (hL, .inr (11, [.ref eE, .int (nI sts.length), .int mo])), (eE, .inl (cO, 10, .inr (.inr (.inr (.inr fE)))))]) hP [0, 2, 1] rfl
        have hD := va_D.part (X := [(h, .inr (6, [.ref hL, .ref hR, .int rs])), (eE, .inl (cO, 10, .inr (.inr (.inr (.inr fE))))), (hL, .inr (11, [.ref eE, .int (nI sts.length), .int mo]))]) (cx := [(h, .inr (6, [.ref hL, .ref hR, .int rs])), (hL, .inr (11, [.ref eE, .int (nI sts.length), .int mo])), (eE, .inl (cO, 10, .inr (.inr (.inr (.inr fE)))))]) hD [0, 2, 1] (by decide) rfl
        have hP : va_P D fq_cl ([(h, .inr (6, [.ref hL, .ref hR, .int rs]))] ++ ([(hL, .inr (11, [.ref eE, .int (nI sts.length), .int mo])), (eE, .inl (cO, 10, .inr (.inr (.inr (.inr fE)))))] :: Ls).flatten) _ := hP
        have hD : va_D A ([(h, .inr (6, [.ref hL, .ref hR, .int rs]))] ++ ([(hL, .inr (11, [.ref eE, .int (nI sts.length), .int mo])), (eE, .inl (cO, 10, .inr (.inr (.inr (.inr fE)))))] :: Ls).flatten) := hD
        exact fq_retq (r := none) K hret (Or.inl ⟨_, rfl⟩) hlk hS hP hD ⟨rfl, (st_ad1 (by omega) (by first | exact Or.inl b1 | exact Or.inr b12)).symm⟩ dc_Chain_stage_30 (Nat.le_of_ble_eq_true rfl) (Nat.le_of_ble_eq_true rfl)
set_option maxHeartbeats 4000000 in
set_option maxRecDepth 100000 in
theorem ct_Chain_append (l : Launch) (D : va_G) (cI cO : ClassId) (tE : Nat) (h hL hR : Nat) (rs : Int32) (q ci : Nat) (vs : List Value) (rc : vw_C) (s0 : ch_T) (sts : List ch_T) (wl : va_W) (hci : fq_cl[ci]? = some rc) (hcs : Cond.castable rc.1 cn_Oj ∈ lw_tbl) (hsq : s0.1 = q) (hlt : sts.length < 5) (hal : al_W tE cO hL sts wl) (sz : Nat) : Met l my_Chain_append (fq_w my_Chain_append cb_Chain_append 2 none) ({ frames := 5, cells := 1, slots := 10, locals := 101 }) (va_Pc ([.ref h, .ref q]) (fq_Pre D cI cO tE sz ([(h, .inr (6, [.ref hL, .ref hR, .int rs])), (q, .inr (ci, vs))] ++ wl))) (va_Qv (S := va_W) (fun w => ∃ wl2 : va_W, w = [(h, .inr (6, [.ref hL, .ref hR, .int rs])), (q, .inr (ci, vs))] ++ wl2 ∧ al_W tE cO hL (sts ++ [s0]) wl2) (fq_Bw D (va_A ([(h, .inr (6, [.ref hL, .ref hR, .int rs])), (q, .inr (ci, vs))] ++ wl) sz)) (va_A ([(h, .inr (6, [.ref hL, .ref hR, .int rs])), (q, .inr (ci, vs))] ++ wl) sz)) (1) (10) (va_A ([(h, .inr (6, [.ref hL, .ref hR, .int rs])), (q, .inr (ci, vs))] ++ wl) sz) := by
  refine fq_open (by decide +kernel) (Nat.le_of_ble_eq_true rfl) ?_
  intro pg ev s mt below meth cd ls K hret hlk hin hK hZ hP hD hA hS hl
  generalize va_A ([(h, .inr (6, [.ref hL, .ref hR, .int rs])), (q, .inr (ci, vs))] ++ wl) sz = A at hZ hD hA hS ⊢
  have K : fq_Ctx pg mt cd cb_Chain_append 2 s _ cn_Chain := K
  have hl : lv_has ls 2 [(0, .ref h), (1, .ref q)] := hl
  rcases hal with ⟨hnil, mo, rfl⟩ | ⟨eE, mo, fE, rfl, hle, hfE⟩
  · skip
    have hP : va_P D fq_cl ([(h, .inr (6, [.ref hL, .ref hR, .int rs])), (q, .inr (ci, vs)), (hL, .inr (11, [.ref tE, .int (nI 0), .int mo]))]) _ := hP
    have hD : va_D A ([(h, .inr (6, [.ref hL, .ref hR, .int rs])), (q, .inr (ci, vs)), (hL, .inr (11, [.ref tE, .int (nI 0), .int mo]))]) := hD
    refine lv_aload_n K.1 K.2.1 dc_Chain_append_0 rfl (lv_at hl 0 rfl) ?_
    refine fq_get K hK cl_Chain hP 0 0 rfl (by decide) wd_105 rfl dc_Chain_append_1 ?_
    refine lv_aload_n K.1 K.2.1 dc_Chain_append_4 rfl (lv_at hl 1 rfl) ?_
    have hc := fq_cut.of (wc := [(hL, .inr (11, [.ref tE, .int (nI 0), .int mo])), (q, .inr (ci, vs))]) hP hD hS hA [2, 1] (by decide) rfl
    refine fq_ci (wr := [(h, .inr (6, [.ref hL, .ref hR, .int rs]))]) (fq_rV K hK hZ hS hc (ct_AL_addA l D cI cO tE hL mo q ci vs rc hci hcs _) yk_AL_add wd_277 wd_278 wd_276 0 rfl rfl rfl ⟨⟨rfl, rfl⟩, ⟨Nat.le_of_ble_eq_true rfl, Nat.le_of_ble_eq_true rfl⟩, ⟨Nat.le_of_ble_eq_true rfl, Nat.le_of_ble_eq_true rfl⟩⟩ hl.1 rfl (Nat.le_of_ble_eq_true rfl) dc_Chain_append_5) hP hD hS hc [2, 1] [0] rfl rfl (by decide) (by decide) (fun r1 w H locs hw1 hP hD hS => ?_)
    obtain ⟨mo21, qe1, rfl, rfl⟩ := hw1
    have hP : va_P D fq_cl ([(h, .inr (6, [.ref hL, .ref hR, .int rs])), (hL, .inr (11, [.ref qe1, .int (nI 1), .int mo21])), (q, .inr (ci, vs)), (qe1, .inl (cO, 10, .inr (.inr (.inr (.inr (va_up (fun _ => none) 0 (some q)))))))]) _ := hP
    have hD : va_D A ([(h, .inr (6, [.ref hL, .ref hR, .int rs])), (hL, .inr (11, [.ref qe1, .int (nI 1), .int mo21])), (q, .inr (ci, vs)), (qe1, .inl (cO, 10, .inr (.inr (.inr (.inr (va_up (fun _ => none) 0 (some q)))))))]) := hD
    refine lv_pop K.1 K.2.1 dc_Chain_append_8 rfl ?_
    have hP := hP.sub (ws' := [(h, .inr (6, [.ref hL, .ref hR, .int rs])), (q, .inr (ci, vs)), (hL, .inr (11, [.ref qe1, .int (nI 1), .int mo21])), (qe1, .inl (cO, 10, .inr (.inr (.inr (.inr (va_up (fun _ => none) 0 (some q)))))))]) [0, 2, 1, 3] rfl
    have hD := hD.sub (ws' := [(h, .inr (6, [.ref hL, .ref hR, .int rs])), (q, .inr (ci, vs)), (hL, .inr (11, [.ref qe1, .int (nI 1), .int mo21])), (qe1, .inl (cO, 10, .inr (.inr (.inr (.inr (va_up (fun _ => none) 0 (some q)))))))]) [0, 2, 1, 3] (by decide) rfl
    have hP : va_P D fq_cl ([(h, .inr (6, [.ref hL, .ref hR, .int rs])), (q, .inr (ci, vs))] ++ [(hL, .inr (11, [.ref qe1, .int (nI 1), .int mo21])), (qe1, .inl (cO, 10, .inr (.inr (.inr (.inr (va_up (fun _ => none) 0 (some q)))))))]) _ := hP
    have hD : va_D A ([(h, .inr (6, [.ref hL, .ref hR, .int rs])), (q, .inr (ci, vs))] ++ [(hL, .inr (11, [.ref qe1, .int (nI 1), .int mo21])), (qe1, .inl (cO, 10, .inr (.inr (.inr (.inr (va_up (fun _ => none) 0 (some q)))))))]) := hD
    exact fq_retv K hret hlk hS hP hD ⟨_, rfl, al_addA hnil hsq⟩ dc_Chain_append_9 (Nat.le_of_ble_eq_true rfl) (Nat.le_of_ble_eq_true rfl)
  · skip
    have hP : va_P D fq_cl ([(h, .inr (6, [.ref hL, .ref hR, .int rs])), (q, .inr (ci, vs)), (hL, .inr (11, [.ref eE, .int (nI sts.length), .int mo])), (eE, .inl (cO, 10, .inr (.inr (.inr (.inr fE)))))]) _ := hP
    have hD : va_D A ([(h, .inr (6, [.ref hL, .ref hR, .int rs])), (q, .inr (ci, vs)), (hL, .inr (11, [.ref eE, .int (nI sts.length), .int mo])), (eE, .inl (cO, 10, .inr (.inr (.inr (.inr fE)))))]) := hD
    refine lv_aload_n K.1 K.2.1 dc_Chain_append_0 rfl (lv_at hl 0 rfl) ?_
    refine fq_get K hK cl_Chain hP 0 0 rfl (by decide) wd_105 rfl dc_Chain_append_1 ?_
    refine lv_aload_n K.1 K.2.1 dc_Chain_append_4 rfl (lv_at hl 1 rfl) ?_
    have hc := fq_cut.of (wc := [(hL, .inr (11, [.ref eE, .int (nI sts.length), .int mo])), (q, .inr (ci, vs)), (eE, .inl (cO, 10, .inr (.inr (.inr (.inr fE)))))]) hP hD hS hA [2, 1, 3] (by decide) rfl
    refine fq_ci (wr := [(h, .inr (6, [.ref hL, .ref hR, .int rs]))]) (fq_rV K hK hZ hS hc (ct_AL_addB l D cI cO tE hL eE sts.length mo fE q ci vs rc hci hcs (by omega) _) yk_AL_add wd_277 wd_278 wd_276 0 rfl rfl rfl ⟨⟨rfl, rfl⟩, ⟨Nat.le_of_ble_eq_true rfl, Nat.le_of_ble_eq_true rfl⟩, ⟨Nat.le_of_ble_eq_true rfl, Nat.le_of_ble_eq_true rfl⟩⟩ hl.1 rfl (Nat.le_of_ble_eq_true rfl) dc_Chain_append_5) hP hD hS hc [2, 1, 3] [0] rfl rfl (by decide) (by decide) (fun r2 w H locs hw2 hP hD hS => ?_)
    obtain ⟨mo22, rfl, rfl⟩ := hw2
    have hP : va_P D fq_cl ([(h, .inr (6, [.ref hL, .ref hR, .int rs])), (hL, .inr (11, [.ref eE, .int (nI (sts.length + 1)), .int mo22])), (q, .inr (ci, vs)), (eE, .inl (cO, 10, .inr (.inr (.inr (.inr (va_up fE sts.length (some q)))))))]) _ := hP
    have hD : va_D A ([(h, .inr (6, [.ref hL, .ref hR, .int rs])), (hL, .inr (11, [.ref eE, .int (nI (sts.length + 1)), .int mo22])), (q, .inr (ci, vs)), (eE, .inl (cO, 10, .inr (.inr (.inr (.inr (va_up fE sts.length (some q)))))))]) := hD
    refine lv_pop K.1 K.2.1 dc_Chain_append_8 rfl ?_
    have hP := hP.sub (ws' := [(h, .inr (6, [.ref hL, .ref hR, .int rs])), (q, .inr (ci, vs)), (hL, .inr (11, [.ref eE, .int (nI (sts.length + 1)), .int mo22])), (eE, .inl (cO, 10, .inr (.inr (.inr (.inr (va_up fE sts.length (some q)))))))]) [0, 2, 1, 3] rfl
    have hD := hD.sub (ws' := [(h, .inr (6, [.ref hL, .ref hR, .int rs])), (q, .inr (ci, vs)), (hL, .inr (11, [.ref eE, .int (nI (sts.length + 1)), .int mo22])), (eE, .inl (cO, 10, .inr (.inr (.inr (.inr (va_up fE sts.length (some q)))))))]) [0, 2, 1, 3] (by decide) rfl
    have hP : va_P D fq_cl ([(h, .inr (6, [.ref hL, .ref hR, .int rs])), (q, .inr (ci, vs))] ++ [(hL, .inr (11, [.ref eE, .int (nI (sts.length + 1)), .int mo22])), (eE, .inl (cO, 10, .inr (.inr (.inr (.inr (va_up fE sts.length (some q)))))))]) _ := hP
    have hD : va_D A ([(h, .inr (6, [.ref hL, .ref hR, .int rs])), (q, .inr (ci, vs))] ++ [(hL, .inr (11, [.ref eE, .int (nI (sts.length + 1)), .int mo22])), (eE, .inl (cO, 10, .inr (.inr (.inr (.inr (va_up fE sts.length (some q)))))))]) := hD
    exact fq_retv K hret hlk hS hP hD ⟨_, rfl, al_addB hlt hsq hfE⟩ dc_Chain_append_9 (Nat.le_of_ble_eq_true rfl) (Nat.le_of_ble_eq_true rfl)
set_option maxHeartbeats 4000000 in
set_option maxRecDepth 100000 in
theorem ct_Chain_appendResampler (l : Launch) (D : va_G) (cI cO : ClassId) (tE : Nat) (h hL hR : Nat) (rs : Int32) (q ci : Nat) (vs : List Value) (rc : vw_C) (s0 : ch_T) (sts : List ch_T) (wl : va_W) (hci : fq_cl[ci]? = some rc) (hcs : Cond.castable rc.1 cn_Oj ∈ lw_tbl) (hsq : s0.1 = q) (hlt : sts.length < 5) (hal : al_W tE cO hL sts wl) (sz : Nat) : Met l my_Chain_appendResampler (fq_w my_Chain_appendResampler cb_Chain_appendResampler 2 none) ({ frames := 5, cells := 1, slots := 10, locals := 101 }) (va_Pc ([.ref h, .ref q]) (fq_Pre D cI cO tE sz ([(h, .inr (6, [.ref hL, .ref hR, .int rs])), (q, .inr (ci, vs))] ++ wl))) (va_Qv (S := va_W) (fun w => ∃ wl2 : va_W, w = [(h, .inr (6, [.ref hL, .ref hR, .int (rs + 1)])), (q, .inr (ci, vs))] ++ wl2 ∧ al_W tE cO hL (sts ++ [s0]) wl2) (fq_Bw D (va_A ([(h, .inr (6, [.ref hL, .ref hR, .int rs])), (q, .inr (ci, vs))] ++ wl) sz)) (va_A ([(h, .inr (6, [.ref hL, .ref hR, .int rs])), (q, .inr (ci, vs))] ++ wl) sz)) (1) (10) (va_A ([(h, .inr (6, [.ref hL, .ref hR, .int rs])), (q, .inr (ci, vs))] ++ wl) sz) := by
  refine fq_open (by decide +kernel) (Nat.le_of_ble_eq_true rfl) ?_
  intro pg ev s mt below meth cd ls K hret hlk hin hK hZ hP hD hA hS hl
  generalize va_A ([(h, .inr (6, [.ref hL, .ref hR, .int rs])), (q, .inr (ci, vs))] ++ wl) sz = A at hZ hD hA hS ⊢
  have K : fq_Ctx pg mt cd cb_Chain_appendResampler 2 s _ cn_Chain := K
  have hl : lv_has ls 2 [(0, .ref h), (1, .ref q)] := hl
  rcases hal with ⟨hnil, mo, rfl⟩ | ⟨eE, mo, fE, rfl, hle, hfE⟩
  · skip
    have hP : va_P D fq_cl ([(h, .inr (6, [.ref hL, .ref hR, .int rs])), (q, .inr (ci, vs)), (hL, .inr (11, [.ref tE, .int (nI 0), .int mo]))]) _ := hP
    have hD : va_D A ([(h, .inr (6, [.ref hL, .ref hR, .int rs])), (q, .inr (ci, vs)), (hL, .inr (11, [.ref tE, .int (nI 0), .int mo]))]) := hD
    refine lv_aload_n K.1 K.2.1 dc_Chain_appendResampler_0 rfl (lv_at hl 0 rfl) ?_
    refine fq_get K hK cl_Chain hP 0 0 rfl (by decide) wd_105 rfl dc_Chain_appendResampler_1 ?_
    refine lv_aload_n K.1 K.2.1 dc_Chain_appendResampler_4 rfl (lv_at hl 1 rfl) ?_
    have hc := fq_cut.of (wc := [(hL, .inr (11, [.ref tE, .int (nI 0), .int mo])), (q, .inr (ci, vs))]) hP hD hS hA [2, 1] (by decide) rfl
    refine fq_ci (wr := [(h, .inr (6, [.ref hL, .ref hR, .int rs]))]) (fq_rV K hK hZ hS hc (ct_AL_addA l D cI cO tE hL mo q ci vs rc hci hcs _) yk_AL_add wd_277 wd_278 wd_276 0 rfl rfl rfl ⟨⟨rfl, rfl⟩, ⟨Nat.le_of_ble_eq_true rfl, Nat.le_of_ble_eq_true rfl⟩, ⟨Nat.le_of_ble_eq_true rfl, Nat.le_of_ble_eq_true rfl⟩⟩ hl.1 rfl (Nat.le_of_ble_eq_true rfl) dc_Chain_appendResampler_5) hP hD hS hc [2, 1] [0] rfl rfl (by decide) (by decide) (fun r1 w H locs hw1 hP hD hS => ?_)
    obtain ⟨mo21, qe1, rfl, rfl⟩ := hw1
    have hP : va_P D fq_cl ([(h, .inr (6, [.ref hL, .ref hR, .int rs])), (hL, .inr (11, [.ref qe1, .int (nI 1), .int mo21])), (q, .inr (ci, vs)), (qe1, .inl (cO, 10, .inr (.inr (.inr (.inr (va_up (fun _ => none) 0 (some q)))))))]) _ := hP
    have hD : va_D A ([(h, .inr (6, [.ref hL, .ref hR, .int rs])), (hL, .inr (11, [.ref qe1, .int (nI 1), .int mo21])), (q, .inr (ci, vs)), (qe1, .inl (cO, 10, .inr (.inr (.inr (.inr (va_up (fun _ => none) 0 (some q)))))))]) := hD
    refine lv_pop K.1 K.2.1 dc_Chain_appendResampler_8 rfl ?_
    refine lv_aload_n K.1 K.2.1 dc_Chain_appendResampler_9 rfl (lv_at hl 0 rfl) ?_
    refine lv_dup K.1 K.2.1 dc_Chain_appendResampler_10 rfl ?_
    refine fq_get K hK cl_Chain hP 0 2 rfl (by decide) wd_107 rfl dc_Chain_appendResampler_11 ?_
    refine lv_iconst (v := 1) K.1 K.2.1 dc_Chain_appendResampler_14 (by decide) ?_
    refine lv_iadd K.1 K.2.1 dc_Chain_appendResampler_15 ?_
    refine lv_topi (fun v1 e_v1 => ?_)
    refine fq_put K hK cl_Chain hP hD hS 0 2 rfl (by decide) wd_107 rfl rfl rfl (Nat.le_of_ble_eq_true rfl) dc_Chain_appendResampler_16 (fun H locs hP hD hS => ?_)
    have hP : va_P D fq_cl ([(h, .inr (6, [.ref hL, .ref hR, .int v1])), (hL, .inr (11, [.ref qe1, .int (nI 1), .int mo21])), (q, .inr (ci, vs)), (qe1, .inl (cO, 10, .inr (.inr (.inr (.inr (va_up (fun _ => none) 0 (some q)))))))]) _ := hP
    have hD : va_D A ([(h, .inr (6, [.ref hL, .ref hR, .int v1])), (hL, .inr (11, [.ref qe1, .int (nI 1), .int mo21])), (q, .inr (ci, vs)), (qe1, .inl (cO, 10, .inr (.inr (.inr (.inr (va_up (fun _ => none) 0 (some q)))))))]) := hD
    have hP := hP.sub (ws' := [(h, .inr (6, [.ref hL, .ref hR, .int v1])), (q, .inr (ci, vs)), (hL, .inr (11, [.ref qe1, .int (nI 1), .int mo21])), (qe1, .inl (cO, 10, .inr (.inr (.inr (.inr (va_up (fun _ => none) 0 (some q)))))))]) [0, 2, 1, 3] rfl
    have hD := hD.sub (ws' := [(h, .inr (6, [.ref hL, .ref hR, .int v1])), (q, .inr (ci, vs)), (hL, .inr (11, [.ref qe1, .int (nI 1), .int mo21])), (qe1, .inl (cO, 10, .inr (.inr (.inr (.inr (va_up (fun _ => none) 0 (some q)))))))]) [0, 2, 1, 3] (by decide) rfl
    have hP : va_P D fq_cl ([(h, .inr (6, [.ref hL, .ref hR, .int v1])), (q, .inr (ci, vs))] ++ [(hL, .inr (11, [.ref qe1, .int (nI 1), .int mo21])), (qe1, .inl (cO, 10, .inr (.inr (.inr (.inr (va_up (fun _ => none) 0 (some q)))))))]) _ := hP
    have hD : va_D A ([(h, .inr (6, [.ref hL, .ref hR, .int v1])), (q, .inr (ci, vs))] ++ [(hL, .inr (11, [.ref qe1, .int (nI 1), .int mo21])), (qe1, .inl (cO, 10, .inr (.inr (.inr (.inr (va_up (fun _ => none) 0 (some q)))))))]) := hD
    exact fq_retv K hret hlk hS hP hD ⟨_, by rw [e_v1], al_addA hnil hsq⟩ dc_Chain_appendResampler_19 (Nat.le_of_ble_eq_true rfl) (Nat.le_of_ble_eq_true rfl)
  · skip
    have hP : va_P D fq_cl ([(h, .inr (6, [.ref hL, .ref hR, .int rs])), (q, .inr (ci, vs)), (hL, .inr (11, [.ref eE, .int (nI sts.length), .int mo])), (eE, .inl (cO, 10, .inr (.inr (.inr (.inr fE)))))]) _ := hP
    have hD : va_D A ([(h, .inr (6, [.ref hL, .ref hR, .int rs])), (q, .inr (ci, vs)), (hL, .inr (11, [.ref eE, .int (nI sts.length), .int mo])), (eE, .inl (cO, 10, .inr (.inr (.inr (.inr fE)))))]) := hD
    refine lv_aload_n K.1 K.2.1 dc_Chain_appendResampler_0 rfl (lv_at hl 0 rfl) ?_
    refine fq_get K hK cl_Chain hP 0 0 rfl (by decide) wd_105 rfl dc_Chain_appendResampler_1 ?_
    refine lv_aload_n K.1 K.2.1 dc_Chain_appendResampler_4 rfl (lv_at hl 1 rfl) ?_
    have hc := fq_cut.of (wc := [(hL, .inr (11, [.ref eE, .int (nI sts.length), .int mo])), (q, .inr (ci, vs)), (eE, .inl (cO, 10, .inr (.inr (.inr (.inr fE)))))]) hP hD hS hA [2, 1, 3] (by decide) rfl
    refine fq_ci (wr := [(h, .inr (6, [.ref hL, .ref hR, .int rs]))]) (fq_rV K hK hZ hS hc (ct_AL_addB l D cI cO tE hL eE sts.length mo fE q ci vs rc hci hcs (by omega) _) yk_AL_add wd_277 wd_278 wd_276 0 rfl rfl rfl ⟨⟨rfl, rfl⟩, ⟨Nat.le_of_ble_eq_true rfl, Nat.le_of_ble_eq_true rfl⟩, ⟨Nat.le_of_ble_eq_true rfl, Nat.le_of_ble_eq_true rfl⟩⟩ hl.1 rfl (Nat.le_of_ble_eq_true rfl) dc_Chain_appendResampler_5) hP hD hS hc [2, 1, 3] [0] rfl rfl (by decide) (by decide) (fun r2 w H locs hw2 hP hD hS => ?_)
    obtain ⟨mo22, rfl, rfl⟩ := hw2
    have hP : va_P D fq_cl ([(h, .inr (6, [.ref hL, .ref hR, .int rs])), (hL, .inr (11, [.ref eE, .int (nI (sts.length + 1)), .int mo22])), (q, .inr (ci, vs)), (eE, .inl (cO, 10, .inr (.inr (.inr (.inr (va_up fE sts.length (some q)))))))]) _ := hP
    have hD : va_D A ([(h, .inr (6, [.ref hL, .ref hR, .int rs])), (hL, .inr (11, [.ref eE, .int (nI (sts.length + 1)), .int mo22])), (q, .inr (ci, vs)), (eE, .inl (cO, 10, .inr (.inr (.inr (.inr (va_up fE sts.length (some q)))))))]) := hD
    refine lv_pop K.1 K.2.1 dc_Chain_appendResampler_8 rfl ?_
    refine lv_aload_n K.1 K.2.1 dc_Chain_appendResampler_9 rfl (lv_at hl 0 rfl) ?_
    refine lv_dup K.1 K.2.1 dc_Chain_appendResampler_10 rfl ?_
    refine fq_get K hK cl_Chain hP 0 2 rfl (by decide) wd_107 rfl dc_Chain_appendResampler_11 ?_
    refine lv_iconst (v := 1) K.1 K.2.1 dc_Chain_appendResampler_14 (by decide) ?_
    refine lv_iadd K.1 K.2.1 dc_Chain_appendResampler_15 ?_
    refine lv_topi (fun v2 e_v2 => ?_)
    refine fq_put K hK cl_Chain hP hD hS 0 2 rfl (by decide) wd_107 rfl rfl rfl (Nat.le_of_ble_eq_true rfl) dc_Chain_appendResampler_16 (fun H locs hP hD hS => ?_)
    have hP : va_P D fq_cl ([(h, .inr (6, [.ref hL, .ref hR, .int v2])), (hL, .inr (11, [.ref eE, .int (nI (sts.length + 1)), .int mo22])), (q, .inr (ci, vs)), (eE, .inl (cO, 10, .inr (.inr (.inr (.inr (va_up fE sts.length (some q)))))))]) _ := hP
    have hD : va_D A ([(h, .inr (6, [.ref hL, .ref hR, .int v2])), (hL, .inr (11, [.ref eE, .int (nI (sts.length + 1)), .int mo22])), (q, .inr (ci, vs)), (eE, .inl (cO, 10, .inr (.inr (.inr (.inr (va_up fE sts.length (some q)))))))]) := hD
    have hP := hP.sub (ws' := [(h, .inr (6, [.ref hL, .ref hR, .int v2])), (q, .inr (ci, vs)), (hL, .inr (11, [.ref eE, .int (nI (sts.length + 1)), .int mo22])), (eE, .inl (cO, 10, .inr (.inr (.inr (.inr (va_up fE sts.length (some q)))))))]) [0, 2, 1, 3] rfl
    have hD := hD.sub (ws' := [(h, .inr (6, [.ref hL, .ref hR, .int v2])), (q, .inr (ci, vs)), (hL, .inr (11, [.ref eE, .int (nI (sts.length + 1)), .int mo22])), (eE, .inl (cO, 10, .inr (.inr (.inr (.inr (va_up fE sts.length (some q)))))))]) [0, 2, 1, 3] (by decide) rfl
    have hP : va_P D fq_cl ([(h, .inr (6, [.ref hL, .ref hR, .int v2])), (q, .inr (ci, vs))] ++ [(hL, .inr (11, [.ref eE, .int (nI (sts.length + 1)), .int mo22])), (eE, .inl (cO, 10, .inr (.inr (.inr (.inr (va_up fE sts.length (some q)))))))]) _ := hP
    have hD : va_D A ([(h, .inr (6, [.ref hL, .ref hR, .int v2])), (q, .inr (ci, vs))] ++ [(hL, .inr (11, [.ref eE, .int (nI (sts.length + 1)), .int mo22])), (eE, .inl (cO, 10, .inr (.inr (.inr (.inr (va_up fE sts.length (some q)))))))]) := hD
    exact fq_retv K hret hlk hS hP hD ⟨_, by rw [e_v2], al_addB hlt hsq hfE⟩ dc_Chain_appendResampler_19 (Nat.le_of_ble_eq_true rfl) (Nat.le_of_ble_eq_true rfl)
