theorem wd_566 : Cond.instanceMethod my_FP_produce ∈ fq_TB := fq_in 566 (by decide +kernel) rfl
theorem wd_567 : Cond.selects cn_FP my_FP_produce my_FP_produce ∈ fq_TB := fq_in 567 (by decide +kernel) rfl
theorem wd_568 : Cond.code my_FP_produce cb_FP_produce 3 (some .int) ∈ fq_TB := fq_in 568 (by decide +kernel) rfl
theorem wd_569 : Cond.methodLink cn_FP 153 my_FP_stepProducer ∈ fq_TB := fq_in 569 (by decide +kernel) rfl

def fs_P (S : fs_A) : Option fs_A := if S.ps = 1 then (if S.Lh = [] then (if S.Lb.length < S.iw then (if S.cl = true then (if S.fl = true then some ((S.sts, S.rs, S.fl, 2, S.cs, S.ca, S.cl, S.iw, S.ih, S.Lb, S.Lh, S.Lr, S.rm, S.ow, S.oh, S.Lk) : fs_A) else some (((fl_it S.sts S.sts.length).1, S.rs, true, S.ps, S.cs, S.ca, S.cl, S.iw, S.ih, [], (fl_it S.sts S.sts.length).2, S.Lr, S.rm, S.ow, S.oh, S.Lk) : fs_A)) else none) else some (((ch_it S.sts 0 [(ns_s S.iw (ns_v S.iw S.ih S.Lb S.iw))] S.sts.length).1, S.rs, S.fl, S.ps, S.cs, S.ca, S.cl, S.iw, S.ih, S.Lb.drop S.iw, (ch_it S.sts 0 [(ns_s S.iw (ns_v S.iw S.ih S.Lb S.iw))] S.sts.length).2, S.Lr, S.rm, S.ow, S.oh, S.Lk) : fs_A))
  else (if S.cs = 3 then some ((S.sts, S.rs, S.fl, 2, S.cs, S.ca, S.cl, S.iw, S.ih, S.Lb, [], S.Lr, S.rm, S.ow, S.oh, S.Lk) : fs_A) else if S.Lr.length < S.rm then some ((S.sts, S.rs, S.fl, S.ps, S.cs, S.ca, S.cl, S.iw, S.ih, S.Lb, S.Lh.tail, S.Lr ++ [S.Lh.headD 0], S.rm, S.ow, S.oh, S.Lk) : fs_A) else none)) else none
def fs_pre (S : fs_A) : Prop := (∀ x ∈ S.Lb, 0 ≤ x.toInt ∧ x.toInt < 256) ∧ (S.ps = 1 → S.Lh = [] → ¬ S.Lb.length < S.iw → ch_un S.sts 0 ∧ ch_fit S.sts 0 [(ns_s S.iw (ns_v S.iw S.ih S.Lb S.iw))] ∧ (ch_it S.sts 0 [(ns_s S.iw (ns_v S.iw S.ih S.Lb S.iw))] S.sts.length).2.length ≤ 366) ∧ (S.ps = 1 → S.Lh = [] → ¬ S.fl = true → fl_fit S.sts [] 366)
theorem fs_Pl {cI cO : ClassId} {tE h : Nat} {S : fs_A} {wv w : va_W} {r : Int32} {Lh0 Lr0 Lk0 : List Int32} (hX : fp_X cI cO tE h S wv) (eh : Lh0.map Int32.toInt = S.Lh) (er : Lr0.map Int32.toInt = S.Lr) (ek : Lk0.map Int32.toInt = S.Lk)
    (hw : if S.ps = 1 then (if Lh0 = [] then (if S.Lb.length < S.iw then (if S.cl = true then (if S.fl = true then r = 1 ∧ fp_W cI cO tE h S.sts S.rs S.fl 2 S.cs S.ca S.cl S.iw S.ih S.Lb Lh0 Lr0 S.rm S.ow S.oh Lk0 w else r = 1 ∧ ∃ Lh2 : List Int32, Lh2.map Int32.toInt = (fl_it S.sts S.sts.length).2 ∧ fp_W cI cO tE h ((fl_it S.sts S.sts.length).1) S.rs true S.ps S.cs S.ca S.cl S.iw S.ih ([]) Lh2 Lr0 S.rm S.ow S.oh Lk0 w) else r = 0 ∧ w = wv) else r = 1 ∧ ∃ Lb2 Lh2 : List Int32, Lb2 = S.Lb.drop S.iw ∧ Lh2.map Int32.toInt = (ch_it S.sts 0 [(ns_s S.iw (ns_v S.iw S.ih S.Lb S.iw))] S.sts.length).2 ∧ fp_W cI cO tE h ((ch_it S.sts 0 [(ns_s S.iw (ns_v S.iw S.ih S.Lb S.iw))] S.sts.length).1) S.rs S.fl S.ps S.cs S.ca S.cl S.iw S.ih Lb2 Lh2 Lr0 S.rm S.ow S.oh Lk0 w) else if S.cs = 3 then r = 1 ∧ fp_W cI cO tE h S.sts S.rs S.fl 2 S.cs S.ca S.cl S.iw S.ih S.Lb ([]) Lr0 S.rm S.ow S.oh Lk0 w else if Lr0.length < S.rm then r = 1 ∧ fp_W cI cO tE h S.sts S.rs S.fl S.ps S.cs S.ca S.cl S.iw S.ih S.Lb Lh0.tail (Lr0 ++ [Lh0.headD 0]) S.rm S.ow S.oh Lk0 w else r = 0 ∧ w = wv) else r = 0 ∧ w = wv) : fs_R cI cO tE h (fs_P S) S r w := by
  have hn : S.Lh = [] ↔ Lh0 = [] := by rw [← eh, List.map_eq_nil_iff]
  have hl : S.Lr.length = Lr0.length := by rw [← er, List.length_map]
  unfold fs_P
  by_cases c1 : S.ps = 1
  · rw [if_pos c1] at hw ⊢
    by_cases c2 : Lh0 = []
    · rw [if_pos c2] at hw
      rw [if_pos (hn.mpr c2)]
      by_cases c3 : S.Lb.length < S.iw
      · rw [if_pos c3] at hw ⊢
        by_cases c4 : S.cl = true
        · rw [if_pos c4] at hw ⊢
          by_cases c5 : S.fl = true
          · rw [if_pos c5] at hw ⊢
            exact Or.inl ⟨_, rfl, hw.1, Lh0, Lr0, Lk0, eh, er, ek, hw.2⟩
          · rw [if_neg c5] at hw ⊢
            obtain ⟨hr, Lh2, e2, hf⟩ := hw
            exact Or.inl ⟨_, rfl, hr, Lh2, Lr0, Lk0, e2, er, ek, hf⟩
        · rw [if_neg c4] at hw ⊢
          exact Or.inr ⟨rfl, hw.1, hw.2 ▸ hX⟩
      · rw [if_neg c3] at hw ⊢
        obtain ⟨hr, Lb2, Lh2, e1, e2, hf⟩ := hw
        subst e1
        exact Or.inl ⟨_, rfl, hr, Lh2, Lr0, Lk0, e2, er, ek, hf⟩
    · rw [if_neg c2] at hw
      rw [if_neg (fun z => c2 (hn.mp z))]
      by_cases c3 : S.cs = 3
      · rw [if_pos c3] at hw ⊢
        exact Or.inl ⟨_, rfl, hw.1, [], Lr0, Lk0, rfl, er, ek, hw.2⟩
      · rw [if_neg c3] at hw ⊢
        by_cases c4 : Lr0.length < S.rm
        · rw [if_pos c4] at hw
          rw [if_pos (by rw [hl]; exact c4)]
          exact Or.inl ⟨_, rfl, hw.1, _, _, Lk0, by rw [List.map_tail, eh], by rw [List.map_append, er, ← eh, fs_hd]; rfl, ek, hw.2⟩
        · rw [if_neg c4] at hw
          rw [if_neg (by rw [hl]; exact c4)]
          exact Or.inr ⟨rfl, hw.1, hw.2 ▸ hX⟩
  · rw [if_neg c1] at hw ⊢
    exact Or.inr ⟨rfl, hw.1, hw.2 ▸ hX⟩

theorem dc_FP_produce_0 : decode cb_FP_produce 0 = .ok (.iconst 0, 1) := by decide +kernel
theorem dc_FP_produce_1 : decode cb_FP_produce 1 = .ok (.istore_n 2, 1) := by decide +kernel
theorem dc_FP_produce_2 : decode cb_FP_produce 2 = .ok (.iload_n 2, 1) := by decide +kernel
theorem dc_FP_produce_3 : decode cb_FP_produce 3 = .ok (.iload_n 1, 1) := by decide +kernel
theorem dc_FP_produce_4 : decode cb_FP_produce 4 = .ok (.if_icmp .ge 16, 3) := by decide +kernel
theorem dc_FP_produce_7 : decode cb_FP_produce 7 = .ok (.aload_n 0, 1) := by decide +kernel
theorem dc_FP_produce_8 : decode cb_FP_produce 8 = .ok (.invokevirtual 153, 3) := by decide +kernel
theorem dc_FP_produce_11 : decode cb_FP_produce 11 = .ok (.ifCond .eq 9, 3) := by decide +kernel
theorem dc_FP_produce_14 : decode cb_FP_produce 14 = .ok (.iinc 2 1, 3) := by decide +kernel
theorem dc_FP_produce_17 : decode cb_FP_produce 17 = .ok (.goto (-15), 3) := by decide +kernel
theorem dc_FP_produce_20 : decode cb_FP_produce 20 = .ok (.iload_n 2, 1) := by decide +kernel
theorem dc_FP_produce_21 : decode cb_FP_produce 21 = .ok (.ireturn, 1) := by decide +kernel
theorem yk_FP_produce : fq_Y my_FP_produce cb_FP_produce 3 (some .int) 1 := ⟨wd_568, wd_26, by decide +kernel⟩
set_option maxHeartbeats 4000000 in
set_option maxRecDepth 100000 in
theorem ct_FP_produce (l : Launch) (D : va_G) (cI cO : ClassId) (tE : Nat) (h : Nat) (S : fs_A) (ws : va_W) (hfx : fp_X cI cO tE h S ws) (xn : Int32) (J : fs_A → Prop) (hJ : ∀ S, J S → fs_pre S) (hJs : ∀ S T, J S → fs_P S = some T → J T) (hJ0 : J S) (sz : Nat) : Met l my_FP_produce (fq_w my_FP_produce cb_FP_produce 3 (some .int)) ({ frames := 7, cells := 0, slots := 0, locals := 155 }) (va_Pc ([.ref h, .int xn]) (fq_Pre D cI cO tE sz (ws))) (va_Qi (S := va_W) (fun r w => ∃ (k : Nat) (T : fs_A), r = nI k ∧ k ≤ xn.toInt.toNat ∧ fs_go fs_P k S = some T ∧ fp_X cI cO tE h T w ∧ J T ∧ (k = xn.toInt.toNat ∨ fs_P T = none)) (fq_Bw D (va_A (ws) sz)) (va_A (ws) sz)) (0) (0) (va_A (ws) sz) := by
  refine fq_open (by decide +kernel) (Nat.le_of_ble_eq_true rfl) ?_
  intro pg ev s mt below meth cd ls K hret hlk hin hK hZ hP hD hA hS hl
  generalize va_A (ws) sz = A at hZ hD hA hS ⊢
  have K : fq_Ctx pg mt cd cb_FP_produce 3 s _ cn_FP := K
  have hl : lv_has ls 3 [(0, .ref h), (1, .int xn)] := hl
  refine lv_iconst (v := 0) K.1 K.2.1 dc_FP_produce_0 (by decide) ?_
  refine lv_istore_n K.1 K.2.1 dc_FP_produce_1 rfl hl (by decide) rfl (fun ls hl => ?_)
  have hl : lv_has ls 3 [(2, .int 0), (0, .ref h), (1, .int xn)] := hl
  refine fq_lp (σ := Nat × fs_A × va_W) (fun x => xn.toInt.toNat - x.1) (fun x H locs ls => (x.1 ≤ xn.toInt.toNat ∧ fs_go fs_P x.1 S = some x.2.1 ∧ fp_X cI cO tE h x.2.1 x.2.2 ∧ J x.2.1) ∧ lv_has ls 3 [(0, .ref h), (1, .int xn), (2, .int (nI x.1))] ∧ va_P D fq_cl (x.2.2) H ∧ va_D A (x.2.2) ∧ va_S A s.heap H locs) ?_ (0, S, ws) _ _ _ ⟨⟨Nat.zero_le _, rfl, hfx, hJ0⟩, lv_sub hl [1, 2, 0] rfl, hP, hD, hS⟩
  rintro ⟨k, T, wv⟩ H locs ls ⟨hI2, hl, hP, hD, hS⟩ ih2
  have hI2 : k ≤ xn.toInt.toNat ∧ fs_go fs_P k S = some T ∧ fp_X cI cO tE h T wv ∧ J T := hI2
  have hl : lv_has ls 3 [(0, .ref h), (1, .int xn), (2, .int (nI k))] := hl
  have hP : va_P D fq_cl (wv) _ := hP
  have hD : va_D A (wv) := hD
  refine lv_iload_n K.1 K.2.1 dc_FP_produce_2 rfl (lv_at hl 2 rfl) ?_
  refine lv_iload_n K.1 K.2.1 dc_FP_produce_3 rfl (lv_at hl 1 rfl) ?_
  refine lv_icmp_ge (tgt := 20) K.1 K.2.1 dc_FP_produce_4 rfl (fun b4 => ?_) (fun b4 => ?_)
  · skip
    have hk : k = xn.toInt.toNat := fz_ge (x := xn) hI2.1 b4
    refine lv_iload_n K.1 K.2.1 dc_FP_produce_20 rfl (lv_at hl 2 rfl) ?_
    exact fq_reti K hret hlk hS hP hD ⟨k, T, rfl, hI2.1, hI2.2.1, hI2.2.2.1, hI2.2.2.2, Or.inl hk⟩ dc_FP_produce_21 (Nat.le_of_ble_eq_true rfl) (Nat.le_of_ble_eq_true rfl)
  · skip
    have hk : k < xn.toInt.toNat := fz_lt (x := xn) hI2.1 b4
    refine lv_aload_n K.1 K.2.1 dc_FP_produce_7 rfl (lv_at hl 0 rfl) ?_
    obtain ⟨Lh0, Lr0, Lk0, eh0, er0, ek0, hfp⟩ := hI2.2.2.1
    obtain ⟨hp1, hp2, hp3⟩ := hJ T hI2.2.2.2
    have hn0 : Lh0 = [] → T.Lh = [] := fun z => by rw [← eh0, z]; rfl
    have hcw := fq_cutR (wr := []) fq_nil hP hD hS hA
    obtain ⟨fs0, hfs0⟩ := fp_rv hfp
    refine fq_ciR (fq_rV K hK hZ hS hcw (ct_FP_stepProducer l D cI cO tE h T.sts T.rs T.fl T.ps T.cs T.ca T.cl T.iw T.ih T.Lb Lh0 Lr0 T.rm T.ow T.oh Lk0 (wv) (hfp) hp1 (fun z1 z2 z3 => hp2 z1 (hn0 z2) z3) (fun z1 z2 z3 => hp3 z1 (hn0 z2) z3) _) yk_FP_stepProducer wd_571 wd_6 wd_569 0 hfs0 rfl rfl ⟨⟨rfl, rfl⟩, ⟨Nat.le_of_ble_eq_true rfl, Nat.le_of_ble_eq_true rfl⟩, ⟨Nat.le_of_ble_eq_true rfl, Nat.le_of_ble_eq_true rfl⟩⟩ hl.1 rfl (Nat.le_of_ble_eq_true rfl) dc_FP_produce_8) hP hD hS hcw fq_nil (fun r1 w H locs hw hP hD hS => ?_)
    rw [List.append_nil] at hP hD
    have hq := fs_Pl hI2.2.2.1 eh0 er0 ek0 hw
    refine lv_if_eq (tgt := 20) K.1 K.2.1 dc_FP_produce_11 rfl (fun b11 => ?_) (fun b11 => ?_)
    · skip
      have hq2 := fs_no hq b11
      refine lv_iload_n K.1 K.2.1 dc_FP_produce_20 rfl (lv_at hl 2 rfl) ?_
      exact fq_reti K hret hlk hS hP hD ⟨k, T, rfl, hI2.1, hI2.2.1, hq2.2, hI2.2.2.2, Or.inr hq2.1⟩ dc_FP_produce_21 (Nat.le_of_ble_eq_true rfl) (Nat.le_of_ble_eq_true rfl)
    · skip
      obtain ⟨T2, hT2, hX2⟩ := fs_ye hq b11
      refine lv_iinc (v := nI (k + 1)) K.1 K.2.1 dc_FP_produce_14 hl (k := 2) rfl (nI_1 k) (by decide) rfl (fun ls hl => ?_)
      have hl : lv_has ls 3 [(2, .int (nI (k + 1))), (0, .ref h), (1, .int xn)] := hl
      refine lv_goto (tgt := 2) K.1 K.2.1 dc_FP_produce_17 rfl ?_
      exact ih2 (k + 1, T2, w) _ _ _ (by show xn.toInt.toNat - (k + 1) < xn.toInt.toNat - k; omega) ⟨⟨hk, fs_s hI2.2.1 hT2, hX2, hJs T T2 hI2.2.2.2 hT2⟩, lv_sub hl [1, 2, 0] rfl, hP, hD, hS⟩
