theorem wd_708 : Cond.instanceMethod my_FP_consume ∈ fq_TB := fq_in 708 (by decide +kernel) rfl
theorem wd_709 : Cond.selects cn_FP my_FP_consume my_FP_consume ∈ fq_TB := fq_in 709 (by decide +kernel) rfl
theorem wd_710 : Cond.code my_FP_consume cb_FP_consume 3 (some .int) ∈ fq_TB := fq_in 710 (by decide +kernel) rfl
theorem wd_711 : Cond.methodLink cn_FP 156 my_FP_stepConsumer ∈ fq_TB := fq_in 711 (by decide +kernel) rfl

/-- the state of the class, in whole numbers -/
abbrev fs_A : Type := (List ch_T) × Nat × Bool × Nat × Nat × Nat × Bool × Nat × Bool × (List Int32) × (List Int) × (List Int) × Nat × Nat × Bool × (List Int)
abbrev fs_A.sts (S : fs_A) : List ch_T := Prod.fst (S)
abbrev fs_A.rs (S : fs_A) : Nat := Prod.fst (Prod.snd (S))
abbrev fs_A.fl (S : fs_A) : Bool := Prod.fst (Prod.snd (Prod.snd (S)))
abbrev fs_A.ps (S : fs_A) : Nat := Prod.fst (Prod.snd (Prod.snd (Prod.snd (S))))
abbrev fs_A.cs (S : fs_A) : Nat := Prod.fst (Prod.snd (Prod.snd (Prod.snd (Prod.snd (S)))))
abbrev fs_A.ca (S : fs_A) : Nat := Prod.fst (Prod.snd (Prod.snd (Prod.snd (Prod.snd (Prod.snd (S))))))
abbrev fs_A.cl (S : fs_A) : Bool := Prod.fst (Prod.snd (Prod.snd (Prod.snd (Prod.snd (Prod.snd (Prod.snd (S)))))))
abbrev fs_A.iw (S : fs_A) : Nat := Prod.fst (Prod.snd (Prod.snd (Prod.snd (Prod.snd (Prod.snd (Prod.snd (Prod.snd (S))))))))
abbrev fs_A.ih (S : fs_A) : Bool := Prod.fst (Prod.snd (Prod.snd (Prod.snd (Prod.snd (Prod.snd (Prod.snd (Prod.snd (Prod.snd (S)))))))))
abbrev fs_A.Lb (S : fs_A) : List Int32 := Prod.fst (Prod.snd (Prod.snd (Prod.snd (Prod.snd (Prod.snd (Prod.snd (Prod.snd (Prod.snd (Prod.snd (S))))))))))
abbrev fs_A.Lh (S : fs_A) : List Int := Prod.fst (Prod.snd (Prod.snd (Prod.snd (Prod.snd (Prod.snd (Prod.snd (Prod.snd (Prod.snd (Prod.snd (Prod.snd (S)))))))))))
abbrev fs_A.Lr (S : fs_A) : List Int := Prod.fst (Prod.snd (Prod.snd (Prod.snd (Prod.snd (Prod.snd (Prod.snd (Prod.snd (Prod.snd (Prod.snd (Prod.snd (Prod.snd (S))))))))))))
abbrev fs_A.rm (S : fs_A) : Nat := Prod.fst (Prod.snd (Prod.snd (Prod.snd (Prod.snd (Prod.snd (Prod.snd (Prod.snd (Prod.snd (Prod.snd (Prod.snd (Prod.snd (Prod.snd (S)))))))))))))
abbrev fs_A.ow (S : fs_A) : Nat := Prod.fst (Prod.snd (Prod.snd (Prod.snd (Prod.snd (Prod.snd (Prod.snd (Prod.snd (Prod.snd (Prod.snd (Prod.snd (Prod.snd (Prod.snd (Prod.snd (S))))))))))))))
abbrev fs_A.oh (S : fs_A) : Bool := Prod.fst (Prod.snd (Prod.snd (Prod.snd (Prod.snd (Prod.snd (Prod.snd (Prod.snd (Prod.snd (Prod.snd (Prod.snd (Prod.snd (Prod.snd (Prod.snd (Prod.snd (S)))))))))))))))
abbrev fs_A.Lk (S : fs_A) : List Int := Prod.snd (Prod.snd (Prod.snd (Prod.snd (Prod.snd (Prod.snd (Prod.snd (Prod.snd (Prod.snd (Prod.snd (Prod.snd (Prod.snd (Prod.snd (Prod.snd (Prod.snd (S)))))))))))))))

def fp_X (cI cO : ClassId) (tE h : Nat) (S : fs_A) (ws : va_W) : Prop := ∃ Lh0 Lr0 Lk0 : List Int32, Lh0.map Int32.toInt = S.Lh ∧ Lr0.map Int32.toInt = S.Lr ∧ Lk0.map Int32.toInt = S.Lk ∧ fp_W cI cO tE h S.sts S.rs S.fl S.ps S.cs S.ca S.cl S.iw S.ih S.Lb Lh0 Lr0 S.rm S.ow S.oh Lk0 ws
def fs_go (f : fs_A → Option fs_A) : Nat → fs_A → Option fs_A
  | 0, S => some S
  | k + 1, S => (fs_go f k S).bind f
theorem fs_s {f : fs_A → Option fs_A} {k : Nat} {S T T2 : fs_A} (h : fs_go f k S = some T) (h2 : f T = some T2) : fs_go f (k + 1) S = some T2 := by
  show (fs_go f k S).bind f = _
  rw [h]; exact h2
/-- what a step says -/
def fs_R (cI cO : ClassId) (tE h : Nat) (o : Option fs_A) (S : fs_A) (r : Int32) (w : va_W) : Prop := (∃ T, o = some T ∧ r = 1 ∧ fp_X cI cO tE h T w) ∨ (o = none ∧ r = 0 ∧ fp_X cI cO tE h S w)
theorem fs_no {cI cO : ClassId} {tE h : Nat} {o : Option fs_A} {S : fs_A} {r : Int32} {w : va_W} (hq : fs_R cI cO tE h o S r w) (hr : r = 0) : o = none ∧ fp_X cI cO tE h S w := by
  rcases hq with ⟨T, h1, h2, h3⟩ | ⟨h1, h2, h3⟩
  · rw [h2] at hr; exact absurd hr (by decide)
  · exact ⟨h1, h3⟩
theorem fs_ye {cI cO : ClassId} {tE h : Nat} {o : Option fs_A} {S : fs_A} {r : Int32} {w : va_W} (hq : fs_R cI cO tE h o S r w) (hr : ¬ r = 0) : ∃ T, o = some T ∧ fp_X cI cO tE h T w := by
  rcases hq with ⟨T, h1, h2, h3⟩ | ⟨h1, h2, h3⟩
  · exact ⟨T, h1, h3⟩
  · exact absurd h2 hr
theorem fz_ge {x : Int32} {k : Nat} (h : k ≤ x.toInt.toNat) (hb : x ≤ nI k) : k = x.toInt.toNat := by
  have := Int32.toInt_lt x
  rw [Int32.le_iff_toInt_le, nI_toInt (by omega)] at hb; omega
theorem fz_lt {x : Int32} {k : Nat} (h : k ≤ x.toInt.toNat) (hb : ¬ x ≤ nI k) : k < x.toInt.toNat := by
  have := Int32.toInt_lt x
  rw [Int32.le_iff_toInt_le, nI_toInt (by omega)] at hb; omega
def fs_put (n : Nat) (L : List Int) (x : Int) : List Int := if L.length < n then L ++ [x] else L
theorem fs_putE {n : Nat} {L : List Int32} {x : Int32} : (rw_put n L x).map Int32.toInt = fs_put n (L.map Int32.toInt) x.toInt := by
  unfold rw_put fs_put
  rw [List.length_map]
  split
  · rw [List.map_append]; rfl
  · rfl
theorem fs_hd {L : List Int32} : (L.map Int32.toInt).headD 0 = (L.headD 0).toInt := by cases L <;> rfl
def fs_C (S : fs_A) : Option fs_A := if S.cs = 1 then (if S.Lr = [] then (if S.ps = 1 then none else some ((S.sts, S.rs, S.fl, S.ps, 2, S.ca, S.cl, S.iw, S.ih, S.Lb, S.Lh, S.Lr, S.rm, S.ow, S.oh, S.Lk) : fs_A)) else some ((S.sts, S.rs, S.fl, S.ps, S.cs, S.ca, S.cl, S.iw, S.ih, S.Lb, S.Lh, S.Lr.tail, S.rm, S.ow, S.oh, fs_put 2286 S.Lk (S.Lr.headD 0)) : fs_A)) else none
theorem fs_Cl {cI cO : ClassId} {tE h : Nat} {S : fs_A} {wv w : va_W} {r : Int32} {Lh0 Lr0 Lk0 : List Int32} (hX : fp_X cI cO tE h S wv) (eh : Lh0.map Int32.toInt = S.Lh) (er : Lr0.map Int32.toInt = S.Lr) (ek : Lk0.map Int32.toInt = S.Lk)
    (hw : if S.cs = 1 then (if Lr0 = [] then (if S.ps = 1 then r = 0 ∧ w = wv else r = 1 ∧ fp_W cI cO tE h S.sts S.rs S.fl S.ps 2 S.ca S.cl S.iw S.ih S.Lb Lh0 Lr0 S.rm S.ow S.oh Lk0 w) else r = 1 ∧ fp_W cI cO tE h S.sts S.rs S.fl S.ps S.cs S.ca S.cl S.iw S.ih S.Lb Lh0 Lr0.tail S.rm S.ow S.oh (rw_put 2286 Lk0 (Lr0.headD 0)) w) else r = 0 ∧ w = wv) : fs_R cI cO tE h (fs_C S) S r w := by
  have hn : S.Lr = [] ↔ Lr0 = [] := by rw [← er, List.map_eq_nil_iff]
  unfold fs_C
  by_cases c1 : S.cs = 1
  · rw [if_pos c1] at hw ⊢
    by_cases c2 : Lr0 = []
    · rw [if_pos c2] at hw
      rw [if_pos (hn.mpr c2)]
      by_cases c3 : S.ps = 1
      · rw [if_pos c3] at hw ⊢
        exact Or.inr ⟨rfl, hw.1, hw.2 ▸ hX⟩
      · rw [if_neg c3] at hw ⊢
        exact Or.inl ⟨_, rfl, hw.1, Lh0, Lr0, Lk0, eh, er, ek, hw.2⟩
    · rw [if_neg c2] at hw
      rw [if_neg (fun z => c2 (hn.mp z))]
      exact Or.inl ⟨_, rfl, hw.1, Lh0, _, _, eh, by rw [List.map_tail, er], by rw [fs_putE, ek, ← fs_hd, er], hw.2⟩
  · rw [if_neg c1] at hw ⊢
    exact Or.inr ⟨rfl, hw.1, hw.2 ▸ hX⟩

theorem dc_FP_consume_0 : decode cb_FP_consume 0 = .ok (.iconst 0, 1) := by decide +kernel
theorem dc_FP_consume_1 : decode cb_FP_consume 1 = .ok (.istore_n 2, 1) := by decide +kernel
theorem dc_FP_consume_2 : decode cb_FP_consume 2 = .ok (.iload_n 2, 1) := by decide +kernel
theorem dc_FP_consume_3 : decode cb_FP_consume 3 = .ok (.iload_n 1, 1) := by decide +kernel
theorem dc_FP_consume_4 : decode cb_FP_consume 4 = .ok (.if_icmp .ge 16, 3) := by decide +kernel
theorem dc_FP_consume_7 : decode cb_FP_consume 7 = .ok (.aload_n 0, 1) := by decide +kernel
theorem dc_FP_consume_8 : decode cb_FP_consume 8 = .ok (.invokevirtual 156, 3) := by decide +kernel
theorem dc_FP_consume_11 : decode cb_FP_consume 11 = .ok (.ifCond .eq 9, 3) := by decide +kernel
theorem dc_FP_consume_14 : decode cb_FP_consume 14 = .ok (.iinc 2 1, 3) := by decide +kernel
theorem dc_FP_consume_17 : decode cb_FP_consume 17 = .ok (.goto (-15), 3) := by decide +kernel
theorem dc_FP_consume_20 : decode cb_FP_consume 20 = .ok (.iload_n 2, 1) := by decide +kernel
theorem dc_FP_consume_21 : decode cb_FP_consume 21 = .ok (.ireturn, 1) := by decide +kernel
theorem yk_FP_consume : fq_Y my_FP_consume cb_FP_consume 3 (some .int) 1 := ⟨wd_710, wd_26, by decide +kernel⟩
set_option maxHeartbeats 4000000 in
set_option maxRecDepth 100000 in
theorem ct_FP_consume (l : Launch) (D : va_G) (cI cO : ClassId) (tE : Nat) (h : Nat) (S : fs_A) (ws : va_W) (hfx : fp_X cI cO tE h S ws) (xn : Int32)  (sz : Nat) : Met l my_FP_consume (fq_w my_FP_consume cb_FP_consume 3 (some .int)) ({ frames := 3, cells := 0, slots := 0, locals := 61 }) (va_Pc ([.ref h, .int xn]) (fq_Pre D cI cO tE sz (ws))) (va_Qi (S := va_W) (fun r w => ∃ (k : Nat) (T : fs_A), r = nI k ∧ k ≤ xn.toInt.toNat ∧ fs_go fs_C k S = some T ∧ fp_X cI cO tE h T w ∧ (k = xn.toInt.toNat ∨ fs_C T = none)) (fq_Bw D (va_A (ws) sz)) (va_A (ws) sz)) (0) (0) (va_A (ws) sz) := by
  refine fq_open (by decide +kernel) (Nat.le_of_ble_eq_true rfl) ?_
  intro pg ev s mt below meth cd ls K hret hlk hin hK hZ hP hD hA hS hl
  generalize va_A (ws) sz = A at hZ hD hA hS ⊢
  have K : fq_Ctx pg mt cd cb_FP_consume 3 s _ cn_FP := K
  have hl : lv_has ls 3 [(0, .ref h), (1, .int xn)] := hl
  refine lv_iconst (v := 0) K.1 K.2.1 dc_FP_consume_0 (by decide) ?_
  refine lv_istore_n K.1 K.2.1 dc_FP_consume_1 rfl hl (by decide) rfl (fun ls hl => ?_)
  have hl : lv_has ls 3 [(2, .int 0), (0, .ref h), (1, .int xn)] := hl
  refine fq_lp (σ := Nat × fs_A × va_W) (fun x => xn.toInt.toNat - x.1) (fun x H locs ls => (x.1 ≤ xn.toInt.toNat ∧ fs_go fs_C x.1 S = some x.2.1 ∧ fp_X cI cO tE h x.2.1 x.2.2) ∧ lv_has ls 3 [(0, .ref h), (1, .int xn), (2, .int (nI x.1))] ∧ va_P D fq_cl (x.2.2) H ∧ va_D A (x.2.2) ∧ va_S A s.heap H locs) ?_ (0, S, ws) _ _ _ ⟨⟨Nat.zero_le _, rfl, hfx⟩, lv_sub hl [1, 2, 0] rfl, hP, hD, hS⟩
  rintro ⟨k, T, wv⟩ H locs ls ⟨hI2, hl, hP, hD, hS⟩ ih2
  have hI2 : k ≤ xn.toInt.toNat ∧ fs_go fs_C k S = some T ∧ fp_X cI cO tE h T wv := hI2
  have hl : lv_has ls 3 [(0, .ref h), (1, .int xn), (2, .int (nI k))] := hl
  have hP : va_P D fq_cl (wv) _ := hP
  have hD : va_D A (wv) := hD
  refine lv_iload_n K.1 K.2.1 dc_FP_consume_2 rfl (lv_at hl 2 rfl) ?_
  refine lv_iload_n K.1 K.2.1 dc_FP_consume_3 rfl (lv_at hl 1 rfl) ?_
  refine lv_icmp_ge (tgt := 20) K.1 K.2.1 dc_FP_consume_4 rfl (fun b4 => ?_) (fun b4 => ?_)
  · skip
    have hk : k = xn.toInt.toNat := fz_ge (x := xn) hI2.1 b4
    refine lv_iload_n K.1 K.2.1 dc_FP_consume_20 rfl (lv_at hl 2 rfl) ?_
    exact fq_reti K hret hlk hS hP hD ⟨k, T, rfl, hI2.1, hI2.2.1, hI2.2.2, Or.inl hk⟩ dc_FP_consume_21 (Nat.le_of_ble_eq_true rfl) (Nat.le_of_ble_eq_true rfl)
  · skip
    have hk : k < xn.toInt.toNat := fz_lt (x := xn) hI2.1 b4
    refine lv_aload_n K.1 K.2.1 dc_FP_consume_7 rfl (lv_at hl 0 rfl) ?_
    obtain ⟨Lh0, Lr0, Lk0, eh0, er0, ek0, hfp⟩ := hI2.2.2
    have hcw := fq_cutR (wr := []) fq_nil hP hD hS hA
    obtain ⟨fs0, hfs0⟩ := fp_rv hfp
    refine fq_ciR (fq_rV K hK hZ hS hcw (ct_FP_stepConsumer l D cI cO tE h T.sts T.rs T.fl T.ps T.cs T.ca T.cl T.iw T.ih T.Lb Lh0 Lr0 T.rm T.ow T.oh Lk0 (wv) (hfp)  _) yk_FP_stepConsumer wd_713 wd_11 wd_711 0 hfs0 rfl rfl ⟨⟨rfl, rfl⟩, ⟨Nat.le_of_ble_eq_true rfl, Nat.le_of_ble_eq_true rfl⟩, ⟨Nat.le_of_ble_eq_true rfl, Nat.le_of_ble_eq_true rfl⟩⟩ hl.1 rfl (Nat.le_of_ble_eq_true rfl) dc_FP_consume_8) hP hD hS hcw fq_nil (fun r1 w H locs hw hP hD hS => ?_)
    rw [List.append_nil] at hP hD
    have hq := fs_Cl hI2.2.2 eh0 er0 ek0 hw
    refine lv_if_eq (tgt := 20) K.1 K.2.1 dc_FP_consume_11 rfl (fun b11 => ?_) (fun b11 => ?_)
    · skip
      have hq2 := fs_no hq b11
      refine lv_iload_n K.1 K.2.1 dc_FP_consume_20 rfl (lv_at hl 2 rfl) ?_
      exact fq_reti K hret hlk hS hP hD ⟨k, T, rfl, hI2.1, hI2.2.1, hq2.2, Or.inr hq2.1⟩ dc_FP_consume_21 (Nat.le_of_ble_eq_true rfl) (Nat.le_of_ble_eq_true rfl)
    · skip
      obtain ⟨T2, hT2, hX2⟩ := fs_ye hq b11
      refine lv_iinc (v := nI (k + 1)) K.1 K.2.1 dc_FP_consume_14 hl (k := 2) rfl (nI_1 k) (by decide) rfl (fun ls hl => ?_)
      have hl : lv_has ls 3 [(2, .int (nI (k + 1))), (0, .ref h), (1, .int xn)] := hl
      refine lv_goto (tgt := 2) K.1 K.2.1 dc_FP_consume_17 rfl ?_
      exact ih2 (k + 1, T2, w) _ _ _ (by show xn.toInt.toNat - (k + 1) < xn.toInt.toNat - k; omega) ⟨⟨hk, fs_s hI2.2.1 hT2, hX2⟩, lv_sub hl [1, 2, 0] rfl, hP, hD, hS⟩
