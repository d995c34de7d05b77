theorem wd_32 : Cond.initialized cn_Source ∈ fq_TB := fq_in 32 (by decide +kernel) rfl
theorem wd_34 : Cond.initialized cn_Sink ∈ fq_TB := fq_in 34 (by decide +kernel) rfl
theorem wd_118 : Cond.instanceMethod my_Source_init ∈ fq_TB := fq_in 118 (by decide +kernel) rfl
theorem wd_119 : Cond.code my_Source_init cb_Source_init 1 none ∈ fq_TB := fq_in 119 (by decide +kernel) rfl
theorem wd_120 : Cond.methodLink cn_Source 3 my_Oj_init ∈ fq_TB := fq_in 120 (by decide +kernel) rfl
theorem wd_121 : Cond.classLink cn_Source 9 cn_Layout ∈ fq_TB := fq_in 121 (by decide +kernel) rfl
theorem wd_122 : Cond.instantiable cn_Layout 2 ∈ fq_TB := fq_in 122 (by decide +kernel) rfl
theorem wn_123 : Cond.methodLinkNest cn_Source 11 my_Layout_init cn_FP ∈ lw_tbl := List.mem_of_getElem? (i := 123) (by decide +kernel)
theorem wn_129 : Cond.fieldLinkNest cn_Source 45 cn_Layout "width" "I" cn_FP ∈ lw_tbl := List.mem_of_getElem? (i := 129) (by decide +kernel)
theorem wd_136 : Cond.classLink cn_Source 18 cn_Row ∈ fq_TB := fq_in 136 (by decide +kernel) rfl
theorem wd_137 : Cond.methodLink cn_Source 20 my_Row_init ∈ fq_TB := fq_in 137 (by decide +kernel) rfl
theorem wd_138 : Cond.fieldLink cn_Source 12 cn_Source "layout" "LFilterPipe$Layout;" ∈ fq_TB := fq_in 138 (by decide +kernel) rfl
theorem wd_140 : Cond.fieldLink cn_Source 23 cn_Source "waitingBytes" "LFilterPipe$Row;" ∈ fq_TB := fq_in 140 (by decide +kernel) rfl
theorem wd_142 : Cond.fieldLink cn_Source 30 cn_Source "came" "I" ∈ fq_TB := fq_in 142 (by decide +kernel) rfl
theorem wd_143 : Cond.fieldLink cn_Source 34 cn_Source "closed" "Z" ∈ fq_TB := fq_in 143 (by decide +kernel) rfl
theorem wd_159 : Cond.instanceMethod my_Sink_init ∈ fq_TB := fq_in 159 (by decide +kernel) rfl
theorem wd_160 : Cond.code my_Sink_init cb_Sink_init 1 none ∈ fq_TB := fq_in 160 (by decide +kernel) rfl
theorem wd_161 : Cond.methodLink cn_Sink 3 my_Oj_init ∈ fq_TB := fq_in 161 (by decide +kernel) rfl
theorem wd_162 : Cond.classLink cn_Sink 9 cn_Layout ∈ fq_TB := fq_in 162 (by decide +kernel) rfl
theorem wn_163 : Cond.methodLinkNest cn_Sink 11 my_Layout_init cn_FP ∈ lw_tbl := List.mem_of_getElem? (i := 163) (by decide +kernel)
theorem wd_164 : Cond.classLink cn_Sink 18 cn_Row ∈ fq_TB := fq_in 164 (by decide +kernel) rfl
theorem wd_165 : Cond.methodLink cn_Sink 20 my_Row_init ∈ fq_TB := fq_in 165 (by decide +kernel) rfl
theorem wd_166 : Cond.fieldLink cn_Sink 12 cn_Sink "layout" "LFilterPipe$Layout;" ∈ fq_TB := fq_in 166 (by decide +kernel) rfl
theorem wd_168 : Cond.fieldLink cn_Sink 23 cn_Sink "samples" "LFilterPipe$Row;" ∈ fq_TB := fq_in 168 (by decide +kernel) rfl
theorem wd_505 : Cond.instanceMethod my_Source_reopen ∈ fq_TB := fq_in 505 (by decide +kernel) rfl
theorem wd_506 : Cond.selects cn_Source my_Source_reopen my_Source_reopen ∈ fq_TB := fq_in 506 (by decide +kernel) rfl
theorem wd_507 : Cond.code my_Source_reopen cb_Source_reopen 1 none ∈ fq_TB := fq_in 507 (by decide +kernel) rfl
theorem wd_508 : Cond.methodLink cn_Source 27 my_Row_empty ∈ fq_TB := fq_in 508 (by decide +kernel) rfl
theorem wd_546 : Cond.instanceMethod my_Source_takes ∈ fq_TB := fq_in 546 (by decide +kernel) rfl
theorem wd_547 : Cond.selects cn_Source my_Source_takes my_Source_takes ∈ fq_TB := fq_in 547 (by decide +kernel) rfl
theorem wd_548 : Cond.code my_Source_takes cb_Source_takes 2 (some .boolean) ∈ fq_TB := fq_in 548 (by decide +kernel) rfl
theorem wd_550 : Cond.instanceMethod my_Source_addByte ∈ fq_TB := fq_in 550 (by decide +kernel) rfl
theorem wd_551 : Cond.selects cn_Source my_Source_addByte my_Source_addByte ∈ fq_TB := fq_in 551 (by decide +kernel) rfl
theorem wd_552 : Cond.code my_Source_addByte cb_Source_addByte 2 none ∈ fq_TB := fq_in 552 (by decide +kernel) rfl
theorem wd_553 : Cond.methodLink cn_Source 38 my_Row_add ∈ fq_TB := fq_in 553 (by decide +kernel) rfl
theorem wd_588 : Cond.instanceMethod my_Source_hasSample ∈ fq_TB := fq_in 588 (by decide +kernel) rfl
theorem wd_589 : Cond.selects cn_Source my_Source_hasSample my_Source_hasSample ∈ fq_TB := fq_in 589 (by decide +kernel) rfl
theorem wd_590 : Cond.code my_Source_hasSample cb_Source_hasSample 1 (some .boolean) ∈ fq_TB := fq_in 590 (by decide +kernel) rfl
theorem wd_591 : Cond.methodLink cn_Source 41 my_Row_size ∈ fq_TB := fq_in 591 (by decide +kernel) rfl
theorem wd_593 : Cond.instanceMethod my_Source_nextSample ∈ fq_TB := fq_in 593 (by decide +kernel) rfl
theorem wd_594 : Cond.selects cn_Source my_Source_nextSample my_Source_nextSample ∈ fq_TB := fq_in 594 (by decide +kernel) rfl
theorem wd_595 : Cond.code my_Source_nextSample cb_Source_nextSample 3 (some .int) ∈ fq_TB := fq_in 595 (by decide +kernel) rfl
theorem wd_596 : Cond.methodLink cn_Source 48 my_Row_takeOldest ∈ fq_TB := fq_in 596 (by decide +kernel) rfl
theorem wd_597 : Cond.methodLink cn_Source 51 my_Layout_shiftOf ∈ fq_TB := fq_in 597 (by decide +kernel) rfl
theorem wd_601 : Cond.constant cn_Source 55 65536 ∈ fq_TB := fq_in 601 (by decide +kernel) rfl

/-- the bytes as one number -/
def ns_v (w : Nat) (b : Bool) (L : List Int32) : Nat → Nat
  | 0 => 0
  | k + 1 => ns_v w b L k + (L.getD k 0).toInt.toNat * 2 ^ ly_sh w b k
/-- the sample that the number stands for -/
def ns_s (w v : Nat) : Int := if w = 1 then ((v : Int) - 128) * 65536 else if w = 2 then 256 * (v : Int).bmod 65536 else if w = 3 then (v : Int).bmod 16777216 else (v : Int).bmod 4294967296 / 256
theorem nx_or (a b : Nat) : nI a ||| nI b = nI (a ||| b) := by
  apply Int32.toBitVec.inj
  show BitVec.ofNat 32 a ||| BitVec.ofNat 32 b = BitVec.ofNat 32 (a ||| b)
  exact BitVec.ofNat_or.symm

theorem ns_sm : ∀ n, n < 32 → ((nI n &&& 31).toBitVec.smod 32).toNat = n := by decide +kernel
/-- where the bytes that came lie: below 2^hi, and no lower than 2^lo -/
theorem ns_lo {w : Nat} {L : List Int32} (hw : w ≤ 4) (hb : ∀ k, k < w → (L.getD k 0).toInt.toNat < 256) : ∀ k, k ≤ w → ns_v w false L k < 2 ^ (8 * k)
  | 0, _ => (by decide : 0 < 2 ^ 0)
  | k + 1, h => by
    have ih := ns_lo hw hb k (by omega)
    have h1 := hb k (by omega)
    show ns_v w false L k + (L.getD k 0).toInt.toNat * 2 ^ (8 * (if false then w - 1 - k else k)) < _
    rw [if_neg (by decide), show 8 * (k + 1) = 8 * k + 8 by omega, Nat.pow_add]
    have h2 : (L.getD k 0).toInt.toNat * 2 ^ (8 * k) ≤ 255 * 2 ^ (8 * k) := Nat.mul_le_mul_right _ (by omega)
    omega
theorem ns_hi {w : Nat} {L : List Int32} (hw : w ≤ 4) (hb : ∀ k, k < w → (L.getD k 0).toInt.toNat < 256) : ∀ k, k ≤ w → ∃ c, ns_v w true L k = 2 ^ (8 * (w - k)) * c ∧ c < 2 ^ (8 * k)
  | 0, _ => ⟨0, rfl, by decide⟩
  | k + 1, h => by
    obtain ⟨c, hc, hl⟩ := ns_hi hw hb k (by omega)
    have h1 := hb k (by omega)
    refine ⟨2 ^ 8 * c + (L.getD k 0).toInt.toNat, ?_, ?_⟩
    · show ns_v w true L k + (L.getD k 0).toInt.toNat * 2 ^ (8 * (if true then w - 1 - k else k)) = _
      rw [if_pos rfl, hc, Nat.mul_add, ← Nat.mul_assoc, ← Nat.pow_add, show 8 * (w - (k + 1)) + 8 = 8 * (w - k) by omega, show 8 * (w - 1 - k) = 8 * (w - (k + 1)) by omega, Nat.mul_comm (L.getD k 0).toInt.toNat]
    · rw [show 8 * (k + 1) = 8 + 8 * k by omega, Nat.pow_add]
      have : 2 ^ 8 * (c + 1) ≤ 2 ^ 8 * 2 ^ (8 * k) := Nat.mul_le_mul_left _ hl
      omega
theorem ns_lt {w : Nat} {b : Bool} {L : List Int32} (hw : w ≤ 4) (hb : ∀ k, k < w → (L.getD k 0).toInt.toNat < 256) {k : Nat} (hk : k ≤ w) : ns_v w b L k < 2 ^ (8 * w) := by
  cases b with
  | false => exact Nat.lt_of_lt_of_le (ns_lo hw hb k hk) (Nat.pow_le_pow_right (by decide) (by omega))
  | true =>
    obtain ⟨c, hc, hl⟩ := ns_hi hw hb k hk
    rw [hc, show 8 * w = 8 * (w - k) + 8 * k by omega, Nat.pow_add]
    exact Nat.mul_lt_mul_of_pos_left hl (Nat.pow_pos (by decide))
theorem ns_or {w : Nat} {b : Bool} {L : List Int32} (hw : w ≤ 4) (hb : ∀ k, k < w → (L.getD k 0).toInt.toNat < 256) {k : Nat} (hk : k < w) : ns_v w b L k ||| (L.getD k 0).toInt.toNat * 2 ^ ly_sh w b k = ns_v w b L (k + 1) := by
  have h1 := hb k hk
  show _ = ns_v w b L k + (L.getD k 0).toInt.toNat * 2 ^ ly_sh w b k
  cases b with
  | false =>
    have h := ns_lo hw hb k (by omega)
    have e : ly_sh w false k = 8 * k := by unfold ly_sh; rw [if_neg (by decide)]
    rw [e, Nat.mul_comm, Nat.add_comm, Nat.two_pow_add_eq_or_of_lt h, Nat.or_comm]
  | true =>
    obtain ⟨c, hc, hl⟩ := ns_hi hw hb k (by omega)
    have e : ly_sh w true k = 8 * (w - 1 - k) := by unfold ly_sh; rw [if_pos rfl]
    have h2 : (L.getD k 0).toInt.toNat * 2 ^ (8 * (w - 1 - k)) < 2 ^ (8 * (w - k)) := by
      rw [show 8 * (w - k) = 8 + 8 * (w - 1 - k) by omega, Nat.pow_add]
      exact Nat.mul_lt_mul_of_pos_right h1 (Nat.pow_pos (by decide))
    rw [e, hc, Nat.two_pow_add_eq_or_of_lt h2]
theorem ns_sh {w : Nat} {b : Bool} {k : Nat} (hw : w ≤ 4) (hk : k < w) : ly_sh w b k ≤ 24 := by
  unfold ly_sh; split <;> omega
theorem ns_step {w : Nat} {b : Bool} {L L2 : List Int32} {f : Nat → Int32} {k i2 i3 : Nat} {bt v : Int32} (h : k ≤ w ∧ rw_ok 120 f i2 L2 ∧ L2 = L.drop k ∧ bt = nI (ns_v w b L k)) (hk : k < w) (hw : w ≤ 4) (hl : w ≤ L.length) (hby : ∀ x ∈ L, 0 ≤ x.toInt ∧ x.toInt < 256) (hr : rw_ok 120 f i3 L2.tail)
    (hv : v = bt ||| L2.headD 0 <<< (nI (ly_sh w b k) &&& 31)) : k + 1 ≤ w ∧ rw_ok 120 f i3 L2.tail ∧ L2.tail = L.drop (k + 1) ∧ v = nI (ns_v w b L (k + 1)) := by
  obtain ⟨h1, h2, h3, h4⟩ := h
  have hkl : k < L.length := by omega
  have hhd : L2.headD 0 = L.getD k 0 := by
    rw [h3, List.drop_eq_getElem_cons hkl, List.getD_eq_getElem?_getD, List.getElem?_eq_getElem hkl]; rfl
  have hbs : ∀ j, j < w → (L.getD j 0).toInt.toNat < 256 := fun j hj => by
    have hj' : j < L.length := by omega
    have := hby (L[j]) (List.getElem_mem hj')
    rw [List.getD_eq_getElem?_getD, List.getElem?_eq_getElem hj']
    show (L[j]).toInt.toNat < 256
    omega
  have hx : L.getD k 0 = nI (L.getD k 0).toInt.toNat := by
    have := hby (L[k]) (List.getElem_mem hkl)
    have e : L.getD k 0 = L[k] := by rw [List.getD_eq_getElem?_getD, List.getElem?_eq_getElem hkl]; rfl
    rw [e]
    apply Int32.toInt.inj
    rw [nI_toInt (by omega)]
    omega
  have hs := ns_sh (b := b) hw hk
  have hlt : (L.getD k 0).toInt.toNat * 2 ^ ly_sh w b k < 2 ^ 32 := by
    have h5 : (L.getD k 0).toInt.toNat * 2 ^ ly_sh w b k ≤ 255 * 2 ^ 24 := Nat.mul_le_mul (by have := hbs k hk; omega) (Nat.pow_le_pow_right (by decide) hs)
    omega
  refine ⟨hk, hr, by rw [h3, List.tail_drop], ?_⟩
  rw [hv, hhd, hx, pk_shlN _ (ly_sh w b k) (ns_sm _ (by omega)) hlt, h4, nx_or]
  congr 1
  exact ns_or hw hbs hk
theorem ns_out {w : Nat} (hw : 1 ≤ w) (h1 : ¬ nI w = 1) (h2 : ¬ nI w = 2) (h3 : ¬ nI w = 3) : (3 : Int) < (w : Int) := by
  have e1 : w ≠ 1 := fun z => h1 (by rw [z]; rfl)
  have e2 : w ≠ 2 := fun z => h2 (by rw [z]; rfl)
  have e3 : w ≠ 3 := fun z => h3 (by rw [z]; rfl)
  omega
theorem ns_bm (v : Nat) : (nI v).toInt = (v : Int).bmod 4294967296 := Int32.toInt_ofNat'
theorem ns_bs {w : Nat} {L : List Int32} (hby : ∀ x ∈ L, 0 ≤ x.toInt ∧ x.toInt < 256) (hl : w ≤ L.length) : ∀ j, j < w → (L.getD j 0).toInt.toNat < 256 := fun j hj => by
  have hj' : j < L.length := by omega
  have := hby (L[j]) (List.getElem_mem hj')
  rw [List.getD_eq_getElem?_getD, List.getElem?_eq_getElem hj']
  show (L[j]).toInt.toNat < 256
  omega
theorem ns_w {w n : Nat} (hw : w ≤ 4) (hn : n < 2 ^ 31) (h : nI w = nI n) : w = n := (nI_eq (by omega) hn).mp h
theorem ns_1 {w k : Nat} {b : Bool} {L : List Int32} {bt : Int32} (hw : w ≤ 4) (hby : ∀ x ∈ L, 0 ≤ x.toInt ∧ x.toInt < 256) (hl : w ≤ L.length) (h : bt = nI (ns_v w b L k)) (hk : k = w) (hc : nI w = 1) : ((bt - 128) * 65536).toInt = ns_s w (ns_v w b L w) := by
  have e : w = 1 := ns_w hw (by decide) hc
  subst hk
  have hv := ns_lt (b := b) hw (ns_bs hby hl) (Nat.le_refl k)
  generalize ns_v k b L k = V at h hv ⊢
  subst e
  have e1 : (128 : Int32).toInt = 128 := by decide
  have e2 : (65536 : Int32).toInt = 65536 := by decide
  have hb : bt.toInt = V := by rw [h, nI_toInt (by omega)]
  have e3 : (bt - 128).toInt = (V : Int) - 128 := by rw [Kit.i32_sub (by rw [hb, e1]; omega) (by rw [hb, e1]; omega), hb, e1]
  rw [Kit.i32_mul (by rw [e3, e2]; omega) (by rw [e3, e2]; omega), e3, e2]
  rfl
theorem ns_2 {w k : Nat} {b : Bool} {L : List Int32} {bt : Int32} (hw : w ≤ 4) (hby : ∀ x ∈ L, 0 ≤ x.toInt ∧ x.toInt < 256) (hl : w ≤ L.length) (h : bt = nI (ns_v w b L k)) (hk : k = w) (hc : nI w = 2) : (bt.toInt16.toInt32 * 256).toInt = ns_s w (ns_v w b L w) := by
  have e : w = 2 := ns_w hw (by decide) hc
  subst hk
  have hv := ns_lt (b := b) hw (ns_bs hby hl) (Nat.le_refl k)
  generalize ns_v k b L k = V at h hv ⊢
  subst e
  have e2 : (256 : Int32).toInt = 256 := by decide
  have hb : bt.toInt = V := by rw [h, nI_toInt (by omega)]
  have e5 : (2 : Nat) ^ 16 = 65536 := by decide
  have e3 := lg_i2s_toInt bt
  rw [hb, e5] at e3
  have h1 := lg_i2s_range bt
  rw [Kit.i32_mul (by rw [e2]; omega) (by rw [e2]; omega), e3, e2]
  unfold ns_s
  rw [if_neg (by decide), if_pos rfl, Int.mul_comm]
theorem ns_3 {w k : Nat} {b : Bool} {L : List Int32} {bt : Int32} (hw : w ≤ 4) (hby : ∀ x ∈ L, 0 ≤ x.toInt ∧ x.toInt < 256) (hl : w ≤ L.length) (h : bt = nI (ns_v w b L k)) (hk : k = w) (hc : nI w = 3) : (bt <<< ((8 : Int32) &&& 31) >>> ((8 : Int32) &&& 31)).toInt = ns_s w (ns_v w b L w) := by
  have e : w = 3 := ns_w hw (by decide) hc
  subst hk
  have hv := ns_lt (b := b) hw (ns_bs hby hl) (Nat.le_refl k)
  generalize ns_v k b L k = V at h hv ⊢
  subst e
  rw [h, pk_shlN _ 8 (by decide) (by omega), pk_shr _ _ 8 (by decide), ns_bm, Int.shiftRight_eq_div_pow]
  unfold ns_s
  rw [if_neg (by decide), if_neg (by decide), if_pos rfl, Int.bmod_def, Int.bmod_def]
  omega
theorem ns_4 {w k : Nat} {b : Bool} {L : List Int32} {bt : Int32} (hw : w ≤ 4) (hw1 : 1 ≤ w) (h : bt = nI (ns_v w b L k)) (hk : k = w) (h1 : ¬ nI w = 1) (h2 : ¬ nI w = 2) (h3 : ¬ nI w = 3) : (bt >>> ((8 : Int32) &&& 31)).toInt = ns_s w (ns_v w b L w) := by
  have e := ns_out hw1 h1 h2 h3
  subst hk
  rw [h, pk_shr _ _ 8 (by decide), ns_bm, Int.shiftRight_eq_div_pow]
  unfold ns_s
  rw [if_neg (by omega), if_neg (by omega), if_neg (by omega)]
  rfl

theorem dc_Source_init_0 : decode cb_Source_init 0 = .ok (.aload_n 0, 1) := by decide +kernel
theorem dc_Source_init_1 : decode cb_Source_init 1 = .ok (.invokespecial 3, 3) := by decide +kernel
theorem dc_Source_init_4 : decode cb_Source_init 4 = .ok (.aload_n 0, 1) := by decide +kernel
theorem dc_Source_init_5 : decode cb_Source_init 5 = .ok (.new 9, 3) := by decide +kernel
theorem dc_Source_init_8 : decode cb_Source_init 8 = .ok (.dup, 1) := by decide +kernel
theorem dc_Source_init_9 : decode cb_Source_init 9 = .ok (.invokespecial 11, 3) := by decide +kernel
theorem dc_Source_init_12 : decode cb_Source_init 12 = .ok (.putfield 12, 3) := by decide +kernel
theorem dc_Source_init_15 : decode cb_Source_init 15 = .ok (.aload_n 0, 1) := by decide +kernel
theorem dc_Source_init_16 : decode cb_Source_init 16 = .ok (.new 18, 3) := by decide +kernel
theorem dc_Source_init_19 : decode cb_Source_init 19 = .ok (.dup, 1) := by decide +kernel
theorem dc_Source_init_20 : decode cb_Source_init 20 = .ok (.bipush 120, 2) := by decide +kernel
theorem dc_Source_init_22 : decode cb_Source_init 22 = .ok (.invokespecial 20, 3) := by decide +kernel
theorem dc_Source_init_25 : decode cb_Source_init 25 = .ok (.putfield 23, 3) := by decide +kernel
theorem dc_Source_init_28 : decode cb_Source_init 28 = .ok (.return_, 1) := by decide +kernel
theorem yk_Source_init : fq_Y my_Source_init cb_Source_init 1 none 0 := ⟨wd_119, wd_32, by decide +kernel⟩
theorem dc_Source_reopen_0 : decode cb_Source_reopen 0 = .ok (.aload_n 0, 1) := by decide +kernel
theorem dc_Source_reopen_1 : decode cb_Source_reopen 1 = .ok (.getfield 23, 3) := by decide +kernel
theorem dc_Source_reopen_4 : decode cb_Source_reopen 4 = .ok (.invokevirtual 27, 3) := by decide +kernel
theorem dc_Source_reopen_7 : decode cb_Source_reopen 7 = .ok (.aload_n 0, 1) := by decide +kernel
theorem dc_Source_reopen_8 : decode cb_Source_reopen 8 = .ok (.iconst 0, 1) := by decide +kernel
theorem dc_Source_reopen_9 : decode cb_Source_reopen 9 = .ok (.putfield 30, 3) := by decide +kernel
theorem dc_Source_reopen_12 : decode cb_Source_reopen 12 = .ok (.aload_n 0, 1) := by decide +kernel
theorem dc_Source_reopen_13 : decode cb_Source_reopen 13 = .ok (.iconst 0, 1) := by decide +kernel
theorem dc_Source_reopen_14 : decode cb_Source_reopen 14 = .ok (.putfield 34, 3) := by decide +kernel
theorem dc_Source_reopen_17 : decode cb_Source_reopen 17 = .ok (.return_, 1) := by decide +kernel
theorem yk_Source_reopen : fq_Y my_Source_reopen cb_Source_reopen 1 none 0 := ⟨wd_507, wd_32, by decide +kernel⟩
theorem dc_Source_takes_0 : decode cb_Source_takes 0 = .ok (.aload_n 0, 1) := by decide +kernel
theorem dc_Source_takes_1 : decode cb_Source_takes 1 = .ok (.getfield 34, 3) := by decide +kernel
theorem dc_Source_takes_4 : decode cb_Source_takes 4 = .ok (.ifCond .ne 18, 3) := by decide +kernel
theorem dc_Source_takes_7 : decode cb_Source_takes 7 = .ok (.aload_n 0, 1) := by decide +kernel
theorem dc_Source_takes_8 : decode cb_Source_takes 8 = .ok (.getfield 30, 3) := by decide +kernel
theorem dc_Source_takes_11 : decode cb_Source_takes 11 = .ok (.iload_n 1, 1) := by decide +kernel
theorem dc_Source_takes_12 : decode cb_Source_takes 12 = .ok (.iadd, 1) := by decide +kernel
theorem dc_Source_takes_13 : decode cb_Source_takes 13 = .ok (.bipush 120, 2) := by decide +kernel
theorem dc_Source_takes_15 : decode cb_Source_takes 15 = .ok (.if_icmp .gt 7, 3) := by decide +kernel
theorem dc_Source_takes_18 : decode cb_Source_takes 18 = .ok (.iconst 1, 1) := by decide +kernel
theorem dc_Source_takes_19 : decode cb_Source_takes 19 = .ok (.goto 4, 3) := by decide +kernel
theorem dc_Source_takes_22 : decode cb_Source_takes 22 = .ok (.iconst 0, 1) := by decide +kernel
theorem dc_Source_takes_23 : decode cb_Source_takes 23 = .ok (.ireturn, 1) := by decide +kernel
theorem yk_Source_takes : fq_Y my_Source_takes cb_Source_takes 2 (some .boolean) 1 := ⟨wd_548, wd_32, by decide +kernel⟩
theorem dc_Source_addByte_0 : decode cb_Source_addByte 0 = .ok (.aload_n 0, 1) := by decide +kernel
theorem dc_Source_addByte_1 : decode cb_Source_addByte 1 = .ok (.getfield 23, 3) := by decide +kernel
theorem dc_Source_addByte_4 : decode cb_Source_addByte 4 = .ok (.iload_n 1, 1) := by decide +kernel
theorem dc_Source_addByte_5 : decode cb_Source_addByte 5 = .ok (.invokevirtual 38, 3) := by decide +kernel
theorem dc_Source_addByte_8 : decode cb_Source_addByte 8 = .ok (.aload_n 0, 1) := by decide +kernel
theorem dc_Source_addByte_9 : decode cb_Source_addByte 9 = .ok (.dup, 1) := by decide +kernel
theorem dc_Source_addByte_10 : decode cb_Source_addByte 10 = .ok (.getfield 30, 3) := by decide +kernel
theorem dc_Source_addByte_13 : decode cb_Source_addByte 13 = .ok (.iconst 1, 1) := by decide +kernel
theorem dc_Source_addByte_14 : decode cb_Source_addByte 14 = .ok (.iadd, 1) := by decide +kernel
theorem dc_Source_addByte_15 : decode cb_Source_addByte 15 = .ok (.putfield 30, 3) := by decide +kernel
theorem dc_Source_addByte_18 : decode cb_Source_addByte 18 = .ok (.return_, 1) := by decide +kernel
theorem yk_Source_addByte : fq_Y my_Source_addByte cb_Source_addByte 2 none 1 := ⟨wd_552, wd_32, by decide +kernel⟩
theorem dc_Source_hasSample_0 : decode cb_Source_hasSample 0 = .ok (.aload_n 0, 1) := by decide +kernel
theorem dc_Source_hasSample_1 : decode cb_Source_hasSample 1 = .ok (.getfield 23, 3) := by decide +kernel
theorem dc_Source_hasSample_4 : decode cb_Source_hasSample 4 = .ok (.invokevirtual 41, 3) := by decide +kernel
theorem dc_Source_hasSample_7 : decode cb_Source_hasSample 7 = .ok (.aload_n 0, 1) := by decide +kernel
theorem dc_Source_hasSample_8 : decode cb_Source_hasSample 8 = .ok (.getfield 12, 3) := by decide +kernel
theorem dc_Source_hasSample_11 : decode cb_Source_hasSample 11 = .ok (.getfield 45, 3) := by decide +kernel
theorem dc_Source_hasSample_14 : decode cb_Source_hasSample 14 = .ok (.if_icmp .lt 7, 3) := by decide +kernel
theorem dc_Source_hasSample_17 : decode cb_Source_hasSample 17 = .ok (.iconst 1, 1) := by decide +kernel
theorem dc_Source_hasSample_18 : decode cb_Source_hasSample 18 = .ok (.goto 4, 3) := by decide +kernel
theorem dc_Source_hasSample_21 : decode cb_Source_hasSample 21 = .ok (.iconst 0, 1) := by decide +kernel
theorem dc_Source_hasSample_22 : decode cb_Source_hasSample 22 = .ok (.ireturn, 1) := by decide +kernel
theorem yk_Source_hasSample : fq_Y my_Source_hasSample cb_Source_hasSample 1 (some .boolean) 0 := ⟨wd_590, wd_32, by decide +kernel⟩
theorem dc_Source_nextSample_0 : decode cb_Source_nextSample 0 = .ok (.iconst 0, 1) := by decide +kernel
theorem dc_Source_nextSample_1 : decode cb_Source_nextSample 1 = .ok (.istore_n 1, 1) := by decide +kernel
theorem dc_Source_nextSample_2 : decode cb_Source_nextSample 2 = .ok (.iconst 0, 1) := by decide +kernel
theorem dc_Source_nextSample_3 : decode cb_Source_nextSample 3 = .ok (.istore_n 2, 1) := by decide +kernel
theorem dc_Source_nextSample_4 : decode cb_Source_nextSample 4 = .ok (.iload_n 2, 1) := by decide +kernel
theorem dc_Source_nextSample_5 : decode cb_Source_nextSample 5 = .ok (.aload_n 0, 1) := by decide +kernel
theorem dc_Source_nextSample_6 : decode cb_Source_nextSample 6 = .ok (.getfield 12, 3) := by decide +kernel
theorem dc_Source_nextSample_9 : decode cb_Source_nextSample 9 = .ok (.getfield 45, 3) := by decide +kernel
theorem dc_Source_nextSample_12 : decode cb_Source_nextSample 12 = .ok (.if_icmp .ge 28, 3) := by decide +kernel
theorem dc_Source_nextSample_15 : decode cb_Source_nextSample 15 = .ok (.iload_n 1, 1) := by decide +kernel
theorem dc_Source_nextSample_16 : decode cb_Source_nextSample 16 = .ok (.aload_n 0, 1) := by decide +kernel
theorem dc_Source_nextSample_17 : decode cb_Source_nextSample 17 = .ok (.getfield 23, 3) := by decide +kernel
theorem dc_Source_nextSample_20 : decode cb_Source_nextSample 20 = .ok (.invokevirtual 48, 3) := by decide +kernel
theorem dc_Source_nextSample_23 : decode cb_Source_nextSample 23 = .ok (.aload_n 0, 1) := by decide +kernel
theorem dc_Source_nextSample_24 : decode cb_Source_nextSample 24 = .ok (.getfield 12, 3) := by decide +kernel
theorem dc_Source_nextSample_27 : decode cb_Source_nextSample 27 = .ok (.iload_n 2, 1) := by decide +kernel
theorem dc_Source_nextSample_28 : decode cb_Source_nextSample 28 = .ok (.invokevirtual 51, 3) := by decide +kernel
theorem dc_Source_nextSample_31 : decode cb_Source_nextSample 31 = .ok (.ishl, 1) := by decide +kernel
theorem dc_Source_nextSample_32 : decode cb_Source_nextSample 32 = .ok (.ior, 1) := by decide +kernel
theorem dc_Source_nextSample_33 : decode cb_Source_nextSample 33 = .ok (.istore_n 1, 1) := by decide +kernel
theorem dc_Source_nextSample_34 : decode cb_Source_nextSample 34 = .ok (.iinc 2 1, 3) := by decide +kernel
theorem dc_Source_nextSample_37 : decode cb_Source_nextSample 37 = .ok (.goto (-33), 3) := by decide +kernel
theorem dc_Source_nextSample_40 : decode cb_Source_nextSample 40 = .ok (.aload_n 0, 1) := by decide +kernel
theorem dc_Source_nextSample_41 : decode cb_Source_nextSample 41 = .ok (.getfield 12, 3) := by decide +kernel
theorem dc_Source_nextSample_44 : decode cb_Source_nextSample 44 = .ok (.getfield 45, 3) := by decide +kernel
theorem dc_Source_nextSample_47 : decode cb_Source_nextSample 47 = .ok (.tableswitch 49 1 3 #[25, 34, 41], 25) := by decide +kernel
theorem dc_Source_nextSample_72 : decode cb_Source_nextSample 72 = .ok (.iload_n 1, 1) := by decide +kernel
theorem dc_Source_nextSample_73 : decode cb_Source_nextSample 73 = .ok (.sipush 128, 3) := by decide +kernel
theorem dc_Source_nextSample_76 : decode cb_Source_nextSample 76 = .ok (.isub, 1) := by decide +kernel
theorem dc_Source_nextSample_77 : decode cb_Source_nextSample 77 = .ok (.ldc 55, 2) := by decide +kernel
theorem dc_Source_nextSample_79 : decode cb_Source_nextSample 79 = .ok (.imul, 1) := by decide +kernel
theorem dc_Source_nextSample_80 : decode cb_Source_nextSample 80 = .ok (.ireturn, 1) := by decide +kernel
theorem dc_Source_nextSample_81 : decode cb_Source_nextSample 81 = .ok (.iload_n 1, 1) := by decide +kernel
theorem dc_Source_nextSample_82 : decode cb_Source_nextSample 82 = .ok (.i2s, 1) := by decide +kernel
theorem dc_Source_nextSample_83 : decode cb_Source_nextSample 83 = .ok (.sipush 256, 3) := by decide +kernel
theorem dc_Source_nextSample_86 : decode cb_Source_nextSample 86 = .ok (.imul, 1) := by decide +kernel
theorem dc_Source_nextSample_87 : decode cb_Source_nextSample 87 = .ok (.ireturn, 1) := by decide +kernel
theorem dc_Source_nextSample_88 : decode cb_Source_nextSample 88 = .ok (.iload_n 1, 1) := by decide +kernel
theorem dc_Source_nextSample_89 : decode cb_Source_nextSample 89 = .ok (.bipush 8, 2) := by decide +kernel
theorem dc_Source_nextSample_91 : decode cb_Source_nextSample 91 = .ok (.ishl, 1) := by decide +kernel
theorem dc_Source_nextSample_92 : decode cb_Source_nextSample 92 = .ok (.bipush 8, 2) := by decide +kernel
theorem dc_Source_nextSample_94 : decode cb_Source_nextSample 94 = .ok (.ishr, 1) := by decide +kernel
theorem dc_Source_nextSample_95 : decode cb_Source_nextSample 95 = .ok (.ireturn, 1) := by decide +kernel
theorem dc_Source_nextSample_96 : decode cb_Source_nextSample 96 = .ok (.iload_n 1, 1) := by decide +kernel
theorem dc_Source_nextSample_97 : decode cb_Source_nextSample 97 = .ok (.bipush 8, 2) := by decide +kernel
theorem dc_Source_nextSample_99 : decode cb_Source_nextSample 99 = .ok (.ishr, 1) := by decide +kernel
theorem dc_Source_nextSample_100 : decode cb_Source_nextSample 100 = .ok (.ireturn, 1) := by decide +kernel
theorem yk_Source_nextSample : fq_Y my_Source_nextSample cb_Source_nextSample 3 (some .int) 0 := ⟨wd_595, wd_32, by decide +kernel⟩
theorem dc_Sink_init_0 : decode cb_Sink_init 0 = .ok (.aload_n 0, 1) := by decide +kernel
theorem dc_Sink_init_1 : decode cb_Sink_init 1 = .ok (.invokespecial 3, 3) := by decide +kernel
theorem dc_Sink_init_4 : decode cb_Sink_init 4 = .ok (.aload_n 0, 1) := by decide +kernel
theorem dc_Sink_init_5 : decode cb_Sink_init 5 = .ok (.new 9, 3) := by decide +kernel
theorem dc_Sink_init_8 : decode cb_Sink_init 8 = .ok (.dup, 1) := by decide +kernel
theorem dc_Sink_init_9 : decode cb_Sink_init 9 = .ok (.invokespecial 11, 3) := by decide +kernel
theorem dc_Sink_init_12 : decode cb_Sink_init 12 = .ok (.putfield 12, 3) := by decide +kernel
theorem dc_Sink_init_15 : decode cb_Sink_init 15 = .ok (.aload_n 0, 1) := by decide +kernel
theorem dc_Sink_init_16 : decode cb_Sink_init 16 = .ok (.new 18, 3) := by decide +kernel
theorem dc_Sink_init_19 : decode cb_Sink_init 19 = .ok (.dup, 1) := by decide +kernel
theorem dc_Sink_init_20 : decode cb_Sink_init 20 = .ok (.sipush 2286, 3) := by decide +kernel
theorem dc_Sink_init_23 : decode cb_Sink_init 23 = .ok (.invokespecial 20, 3) := by decide +kernel
theorem dc_Sink_init_26 : decode cb_Sink_init 26 = .ok (.putfield 23, 3) := by decide +kernel
theorem dc_Sink_init_29 : decode cb_Sink_init 29 = .ok (.return_, 1) := by decide +kernel
theorem yk_Sink_init : fq_Y my_Sink_init cb_Sink_init 1 none 0 := ⟨wd_160, wd_34, by decide +kernel⟩
set_option maxHeartbeats 4000000 in
set_option maxRecDepth 100000 in
theorem ct_Source_init (l : Launch) (D : va_G) (cI cO : ClassId) (tE : Nat) (h : Nat) (sz : Nat) : Met l my_Source_init (fq_w my_Source_init cb_Source_init 1 none) ({ frames := 2, cells := 3, slots := 125, locals := 33 }) (va_Pc ([.ref h]) (fq_Pre D cI cO tE sz ([(h, .inr (8, [.null, .null, .int 0, .int 0]))]))) (va_Qv (S := va_W) (fun w => ∃ qy qw qa : Nat, w = [(h, .inr (8, [.ref qy, .ref qw, .int 0, .int 0])), (qy, .inr (7, [.int 2, .int 0])), (qw, .inr (0, [.ref qa, .int 0, .int 0])), (qa, .inl (cI, 120, .inl (fun _ => 0)))]) (fq_Bw D (va_A ([(h, .inr (8, [.null, .null, .int 0, .int 0]))]) sz)) (va_A ([(h, .inr (8, [.null, .null, .int 0, .int 0]))]) sz)) (3) (125) (va_A ([(h, .inr (8, [.null, .null, .int 0, .int 0]))]) sz) := by
  refine fq_open (by decide +kernel) (Nat.le_of_ble_eq_true rfl) ?_
  intro pg ev s mt below meth cd ls K hret hlk hin hK hZ hP hD hA hS hl
  generalize va_A ([(h, .inr (8, [.null, .null, .int 0, .int 0]))]) sz = A at hZ hD hA hS ⊢
  have K : fq_Ctx pg mt cd cb_Source_init 1 s _ cn_Source := K
  have hin : meth.name = "<init>" := hin
  have hl : lv_has ls 1 [(0, .ref h)] := hl
  refine lv_aload_n K.1 K.2.1 dc_Source_init_0 rfl (lv_at hl 0 rfl) ?_
  refine W.objInit K.1 K.2.1 K.2.2.2.1 (K.2.2.2.2 _ wd_120) (K.2.2.2.2 _ wd_54) (K.2.2.2.2 _ wd_55) rfl (by rw [K.2.2.1]; exact hl.1) rfl dc_Source_init_1 (Nat.le_of_ble_eq_true rfl) (Nat.le_of_ble_eq_true rfl) ?_
  refine W.eq (g2 := F0 mt 4 ls []) rfl ?_
  refine lv_aload_n K.1 K.2.1 dc_Source_init_4 rfl (lv_at hl 0 rfl) ?_
  refine fq_new (fs := [.int 0, .int 0]) K hK cl_Layout wd_121 wd_122 wd_33 hP hD hS hA (by decide) (Nat.le_of_ble_eq_true rfl) (Nat.le_of_ble_eq_true rfl) dc_Source_init_5 (fun q1 H hP hD hS => ?_)
  have hP : va_P D fq_cl ([(h, .inr (8, [.null, .null, .int 0, .int 0])), (q1, .inr (7, [.int 0, .int 0]))]) _ := hP
  have hD : va_D A ([(h, .inr (8, [.null, .null, .int 0, .int 0])), (q1, .inr (7, [.int 0, .int 0]))]) := hD
  refine lv_dup K.1 K.2.1 dc_Source_init_8 rfl ?_
  have hc := fq_cut.of (wc := [(q1, .inr (7, [.int 0, .int 0]))]) hP hD hS hA [1] (by decide) rfl
  refine fq_cv (wr := [(h, .inr (8, [.null, .null, .int 0, .int 0]))]) (fq_rIN K hK hZ hS hc (ct_Layout_init l D cI cO tE q1 _) yk_Layout_init wd_124 rfl wn_123 ⟨⟨rfl, rfl⟩, ⟨Nat.le_of_ble_eq_true rfl, Nat.le_of_ble_eq_true rfl⟩, ⟨Nat.le_of_ble_eq_true rfl, Nat.le_of_ble_eq_true rfl⟩⟩ hl.1 rfl (Nat.le_of_ble_eq_true rfl) dc_Source_init_9) hP hD hS hc [1] [0] rfl rfl (by decide) (by decide) (fun  w H locs hw1 hP hD hS => ?_)
  subst hw1
  have hP : va_P D fq_cl ([(h, .inr (8, [.null, .null, .int 0, .int 0])), (q1, .inr (7, [.int 2, .int 0]))]) _ := hP
  have hD : va_D A ([(h, .inr (8, [.null, .null, .int 0, .int 0])), (q1, .inr (7, [.int 2, .int 0]))]) := hD
  refine fq_putF K hK cl_Source hP hD hS hin 0 0 rfl (by decide) wd_138 rfl rfl rfl rfl (Nat.le_of_ble_eq_true rfl) dc_Source_init_12 (fun H locs hP hD hS => ?_)
  have hP : va_P D fq_cl ([(h, .inr (8, [.ref q1, .null, .int 0, .int 0])), (q1, .inr (7, [.int 2, .int 0]))]) _ := hP
  have hD : va_D A ([(h, .inr (8, [.ref q1, .null, .int 0, .int 0])), (q1, .inr (7, [.int 2, .int 0]))]) := hD
  refine lv_aload_n K.1 K.2.1 dc_Source_init_15 rfl (lv_at hl 0 rfl) ?_
  refine fq_new (fs := [.null, .int 0, .int 0]) K hK cl_Row wd_136 wd_89 wd_31 hP hD hS hA (by decide) (Nat.le_of_ble_eq_true rfl) (Nat.le_of_ble_eq_true rfl) dc_Source_init_16 (fun q2 H hP hD hS => ?_)
  have hP : va_P D fq_cl ([(h, .inr (8, [.ref q1, .null, .int 0, .int 0])), (q1, .inr (7, [.int 2, .int 0])), (q2, .inr (0, [.null, .int 0, .int 0]))]) _ := hP
  have hD : va_D A ([(h, .inr (8, [.ref q1, .null, .int 0, .int 0])), (q1, .inr (7, [.int 2, .int 0])), (q2, .inr (0, [.null, .int 0, .int 0]))]) := hD
  refine lv_dup K.1 K.2.1 dc_Source_init_19 rfl ?_
  refine lv_bipush (v := 120) K.1 K.2.1 dc_Source_init_20 (by decide) ?_
  refine fq_asi (y := nI 120) (by decide) ?_
  have hc := fq_cut.of (wc := [(q2, .inr (0, [.null, .int 0, .int 0]))]) hP hD hS hA [2] (by decide) rfl
  refine fq_cv (wr := [(h, .inr (8, [.ref q1, .null, .int 0, .int 0])), (q1, .inr (7, [.int 2, .int 0]))]) (fq_rI K hK hZ hS hc (ct_Row_init l D cI cO tE q2 120 (by decide) _) yk_Row_init wd_91 rfl wd_137 ⟨⟨rfl, rfl⟩, ⟨Nat.le_of_ble_eq_true rfl, Nat.le_of_ble_eq_true rfl⟩, ⟨Nat.le_of_ble_eq_true rfl, Nat.le_of_ble_eq_true rfl⟩⟩ hl.1 rfl (Nat.le_of_ble_eq_true rfl) dc_Source_init_22) hP hD hS hc [2] [0, 1] rfl rfl (by decide) (by decide) (fun  w H locs hw2 hP hD hS => ?_)
  obtain ⟨q3, rfl⟩ := hw2
  have hP : va_P D fq_cl ([(h, .inr (8, [.ref q1, .null, .int 0, .int 0])), (q1, .inr (7, [.int 2, .int 0])), (q2, .inr (0, [.ref q3, .int 0, .int 0])), (q3, .inl (cI, 120, .inl (fun _ => 0)))]) _ := hP
  have hD : va_D A ([(h, .inr (8, [.ref q1, .null, .int 0, .int 0])), (q1, .inr (7, [.int 2, .int 0])), (q2, .inr (0, [.ref q3, .int 0, .int 0])), (q3, .inl (cI, 120, .inl (fun _ => 0)))]) := hD
  refine fq_putF K hK cl_Source hP hD hS hin 0 1 rfl (by decide) wd_140 rfl rfl rfl rfl (Nat.le_of_ble_eq_true rfl) dc_Source_init_25 (fun H locs hP hD hS => ?_)
  have hP : va_P D fq_cl ([(h, .inr (8, [.ref q1, .ref q2, .int 0, .int 0])), (q1, .inr (7, [.int 2, .int 0])), (q2, .inr (0, [.ref q3, .int 0, .int 0])), (q3, .inl (cI, 120, .inl (fun _ => 0)))]) _ := hP
  have hD : va_D A ([(h, .inr (8, [.ref q1, .ref q2, .int 0, .int 0])), (q1, .inr (7, [.int 2, .int 0])), (q2, .inr (0, [.ref q3, .int 0, .int 0])), (q3, .inl (cI, 120, .inl (fun _ => 0)))]) := hD
  exact fq_retv K hret hlk hS hP hD ⟨_, _, _, rfl⟩ dc_Source_init_28 (Nat.le_of_ble_eq_true rfl) (Nat.le_of_ble_eq_true rfl)
set_option maxHeartbeats 4000000 in
set_option maxRecDepth 100000 in
theorem ct_Sink_init (l : Launch) (D : va_G) (cI cO : ClassId) (tE : Nat) (h : Nat) (sz : Nat) : Met l my_Sink_init (fq_w my_Sink_init cb_Sink_init 1 none) ({ frames := 2, cells := 3, slots := 2291, locals := 33 }) (va_Pc ([.ref h]) (fq_Pre D cI cO tE sz ([(h, .inr (9, [.null, .null]))]))) (va_Qv (S := va_W) (fun w => ∃ qy qw qa : Nat, w = [(h, .inr (9, [.ref qy, .ref qw])), (qy, .inr (7, [.int 2, .int 0])), (qw, .inr (0, [.ref qa, .int 0, .int 0])), (qa, .inl (cI, 2286, .inl (fun _ => 0)))]) (fq_Bw D (va_A ([(h, .inr (9, [.null, .null]))]) sz)) (va_A ([(h, .inr (9, [.null, .null]))]) sz)) (3) (2291) (va_A ([(h, .inr (9, [.null, .null]))]) sz) := by
  refine fq_open (by decide +kernel) (Nat.le_of_ble_eq_true rfl) ?_
  intro pg ev s mt below meth cd ls K hret hlk hin hK hZ hP hD hA hS hl
  generalize va_A ([(h, .inr (9, [.null, .null]))]) sz = A at hZ hD hA hS ⊢
  have K : fq_Ctx pg mt cd cb_Sink_init 1 s _ cn_Sink := K
  have hin : meth.name = "<init>" := hin
  have hl : lv_has ls 1 [(0, .ref h)] := hl
  refine lv_aload_n K.1 K.2.1 dc_Sink_init_0 rfl (lv_at hl 0 rfl) ?_
  refine W.objInit K.1 K.2.1 K.2.2.2.1 (K.2.2.2.2 _ wd_161) (K.2.2.2.2 _ wd_54) (K.2.2.2.2 _ wd_55) rfl (by rw [K.2.2.1]; exact hl.1) rfl dc_Sink_init_1 (Nat.le_of_ble_eq_true rfl) (Nat.le_of_ble_eq_true rfl) ?_
  refine W.eq (g2 := F0 mt 4 ls []) rfl ?_
  refine lv_aload_n K.1 K.2.1 dc_Sink_init_4 rfl (lv_at hl 0 rfl) ?_
  refine fq_new (fs := [.int 0, .int 0]) K hK cl_Layout wd_162 wd_122 wd_33 hP hD hS hA (by decide) (Nat.le_of_ble_eq_true rfl) (Nat.le_of_ble_eq_true rfl) dc_Sink_init_5 (fun q1 H hP hD hS => ?_)
  have hP : va_P D fq_cl ([(h, .inr (9, [.null, .null])), (q1, .inr (7, [.int 0, .int 0]))]) _ := hP
  have hD : va_D A ([(h, .inr (9, [.null, .null])), (q1, .inr (7, [.int 0, .int 0]))]) := hD
  refine lv_dup K.1 K.2.1 dc_Sink_init_8 rfl ?_
  have hc := fq_cut.of (wc := [(q1, .inr (7, [.int 0, .int 0]))]) hP hD hS hA [1] (by decide) rfl
  refine fq_cv (wr := [(h, .inr (9, [.null, .null]))]) (fq_rIN K hK hZ hS hc (ct_Layout_init l D cI cO tE q1 _) yk_Layout_init wd_124 rfl wn_163 ⟨⟨rfl, rfl⟩, ⟨Nat.le_of_ble_eq_true rfl, Nat.le_of_ble_eq_true rfl⟩, ⟨Nat.le_of_ble_eq_true rfl, Nat.le_of_ble_eq_true rfl⟩⟩ hl.1 rfl (Nat.le_of_ble_eq_true rfl) dc_Sink_init_9) hP hD hS hc [1] [0] rfl rfl (by decide) (by decide) (fun  w H locs hw1 hP hD hS => ?_)
  subst hw1
  have hP : va_P D fq_cl ([(h, .inr (9, [.null, .null])), (q1, .inr (7, [.int 2, .int 0]))]) _ := hP
  have hD : va_D A ([(h, .inr (9, [.null, .null])), (q1, .inr (7, [.int 2, .int 0]))]) := hD
  refine fq_putF K hK cl_Sink hP hD hS hin 0 0 rfl (by decide) wd_166 rfl rfl rfl rfl (Nat.le_of_ble_eq_true rfl) dc_Sink_init_12 (fun H locs hP hD hS => ?_)
  have hP : va_P D fq_cl ([(h, .inr (9, [.ref q1, .null])), (q1, .inr (7, [.int 2, .int 0]))]) _ := hP
  have hD : va_D A ([(h, .inr (9, [.ref q1, .null])), (q1, .inr (7, [.int 2, .int 0]))]) := hD
  refine lv_aload_n K.1 K.2.1 dc_Sink_init_15 rfl (lv_at hl 0 rfl) ?_
  refine fq_new (fs := [.null, .int 0, .int 0]) K hK cl_Row wd_164 wd_89 wd_31 hP hD hS hA (by decide) (Nat.le_of_ble_eq_true rfl) (Nat.le_of_ble_eq_true rfl) dc_Sink_init_16 (fun q2 H hP hD hS => ?_)
  have hP : va_P D fq_cl ([(h, .inr (9, [.ref q1, .null])), (q1, .inr (7, [.int 2, .int 0])), (q2, .inr (0, [.null, .int 0, .int 0]))]) _ := hP
  have hD : va_D A ([(h, .inr (9, [.ref q1, .null])), (q1, .inr (7, [.int 2, .int 0])), (q2, .inr (0, [.null, .int 0, .int 0]))]) := hD
  refine lv_dup K.1 K.2.1 dc_Sink_init_19 rfl ?_
  refine lv_sipush (v := 2286) K.1 K.2.1 dc_Sink_init_20 (by decide) ?_
  refine fq_asi (y := nI 2286) (by decide) ?_
  have hc := fq_cut.of (wc := [(q2, .inr (0, [.null, .int 0, .int 0]))]) hP hD hS hA [2] (by decide) rfl
  refine fq_cv (wr := [(h, .inr (9, [.ref q1, .null])), (q1, .inr (7, [.int 2, .int 0]))]) (fq_rI K hK hZ hS hc (ct_Row_init l D cI cO tE q2 2286 (by decide) _) yk_Row_init wd_91 rfl wd_165 ⟨⟨rfl, rfl⟩, ⟨Nat.le_of_ble_eq_true rfl, Nat.le_of_ble_eq_true rfl⟩, ⟨Nat.le_of_ble_eq_true rfl, Nat.le_of_ble_eq_true rfl⟩⟩ hl.1 rfl (Nat.le_of_ble_eq_true rfl) dc_Sink_init_23) hP hD hS hc [2] [0, 1] rfl rfl (by decide) (by decide) (fun  w H locs hw2 hP hD hS => ?_)
  obtain ⟨q3, rfl⟩ := hw2
  have hP : va_P D fq_cl ([(h, .inr (9, [.ref q1, .null])), (q1, .inr (7, [.int 2, .int 0])), (q2, .inr (0, [.ref q3, .int 0, .int 0])), (q3, .inl (cI, 2286, .inl (fun _ => 0)))]) _ := hP
  have hD : va_D A ([(h, .inr (9, [.ref q1, .null])), (q1, .inr (7, [.int 2, .int 0])), (q2, .inr (0, [.ref q3, .int 0, .int 0])), (q3, .inl (cI, 2286, .inl (fun _ => 0)))]) := hD
  refine fq_putF K hK cl_Sink hP hD hS hin 0 1 rfl (by decide) wd_168 rfl rfl rfl rfl (Nat.le_of_ble_eq_true rfl) dc_Sink_init_26 (fun H locs hP hD hS => ?_)
  have hP : va_P D fq_cl ([(h, .inr (9, [.ref q1, .ref q2])), (q1, .inr (7, [.int 2, .int 0])), (q2, .inr (0, [.ref q3, .int 0, .int 0])), (q3, .inl (cI, 2286, .inl (fun _ => 0)))]) _ := hP
  have hD : va_D A ([(h, .inr (9, [.ref q1, .ref q2])), (q1, .inr (7, [.int 2, .int 0])), (q2, .inr (0, [.ref q3, .int 0, .int 0])), (q3, .inl (cI, 2286, .inl (fun _ => 0)))]) := hD
  exact fq_retv K hret hlk hS hP hD ⟨_, _, _, rfl⟩ dc_Sink_init_29 (Nat.le_of_ble_eq_true rfl) (Nat.le_of_ble_eq_true rfl)
set_option maxHeartbeats 4000000 in
set_option maxRecDepth 100000 in
theorem ct_Source_reopen (l : Launch) (D : va_G) (cI cO : ClassId) (tE : Nat) (h hy hw aw w : Nat) (b : Bool) (f : Nat → Int32) (i : Nat) (L : List Int32) (ca : Nat) (cl : Bool) (sz : Nat) : Met l my_Source_reopen (fq_w my_Source_reopen cb_Source_reopen 1 none) ({ frames := 1, cells := 0, slots := 0, locals := 20 }) (va_Pc ([.ref h]) (fq_Pre D cI cO tE sz ([(h, .inr (8, [.ref hy, .ref hw, .int (nI ca), .int (fq_b cl)])), (hy, .inr (7, [.int (nI w), .int (fq_b b)])), (hw, .inr (0, [.ref aw, .int (nI i), .int (nI L.length)])), (aw, .inl (cI, 120, .inl f))]))) (va_Qv (S := va_W) (fun w' => w' = [(h, .inr (8, [.ref hy, .ref hw, .int (nI 0), .int (fq_b false)])), (hy, .inr (7, [.int (nI w), .int (fq_b b)])), (hw, .inr (0, [.ref aw, .int (nI 0), .int (nI ([] : List Int32).length)])), (aw, .inl (cI, 120, .inl f))]) (fq_Bw D (va_A ([(h, .inr (8, [.ref hy, .ref hw, .int (nI ca), .int (fq_b cl)])), (hy, .inr (7, [.int (nI w), .int (fq_b b)])), (hw, .inr (0, [.ref aw, .int (nI i), .int (nI L.length)])), (aw, .inl (cI, 120, .inl f))]) sz)) (va_A ([(h, .inr (8, [.ref hy, .ref hw, .int (nI ca), .int (fq_b cl)])), (hy, .inr (7, [.int (nI w), .int (fq_b b)])), (hw, .inr (0, [.ref aw, .int (nI i), .int (nI L.length)])), (aw, .inl (cI, 120, .inl f))]) sz)) (0) (0) (va_A ([(h, .inr (8, [.ref hy, .ref hw, .int (nI ca), .int (fq_b cl)])), (hy, .inr (7, [.int (nI w), .int (fq_b b)])), (hw, .inr (0, [.ref aw, .int (nI i), .int (nI L.length)])), (aw, .inl (cI, 120, .inl f))]) sz) := by
  refine fq_open (by decide +kernel) (Nat.le_of_ble_eq_true rfl) ?_
  intro pg ev s mt below meth cd ls K hret hlk hin hK hZ hP hD hA hS hl
  generalize va_A ([(h, .inr (8, [.ref hy, .ref hw, .int (nI ca), .int (fq_b cl)])), (hy, .inr (7, [.int (nI w), .int (fq_b b)])), (hw, .inr (0, [.ref aw, .int (nI i), .int (nI L.length)])), (aw, .inl (cI, 120, .inl f))]) sz = A at hZ hD hA hS ⊢
  have K : fq_Ctx pg mt cd cb_Source_reopen 1 s _ cn_Source := K
  have hl : lv_has ls 1 [(0, .ref h)] := hl
  refine lv_aload_n K.1 K.2.1 dc_Source_reopen_0 rfl (lv_at hl 0 rfl) ?_
  refine fq_get K hK cl_Source hP 0 1 rfl (by decide) wd_140 rfl dc_Source_reopen_1 ?_
  have hc := fq_cut.of (wc := [(hw, .inr (0, [.ref aw, .int (nI i), .int (nI L.length)])), (aw, .inl (cI, 120, .inl f))]) hP hD hS hA [2, 3] (by decide) rfl
  refine fq_cv (wr := [(h, .inr (8, [.ref hy, .ref hw, .int (nI ca), .int (fq_b cl)])), (hy, .inr (7, [.int (nI w), .int (fq_b b)]))]) (fq_rV K hK hZ hS hc (ct_Row_empty l D cI cO tE hw aw 120 f i L _) yk_Row_empty wd_509 wd_510 wd_508 0 rfl rfl rfl ⟨⟨rfl, rfl⟩, ⟨Nat.le_of_ble_eq_true rfl, Nat.le_of_ble_eq_true rfl⟩, ⟨Nat.le_of_ble_eq_true rfl, Nat.le_of_ble_eq_true rfl⟩⟩ hl.1 rfl (Nat.le_of_ble_eq_true rfl) dc_Source_reopen_4) hP hD hS hc [2, 3] [0, 1] rfl rfl (by decide) (by decide) (fun  w H locs hw1 hP hD hS => ?_)
  subst hw1
  have hP : va_P D fq_cl ([(h, .inr (8, [.ref hy, .ref hw, .int (nI ca), .int (fq_b cl)])), (hy, .inr (7, [.int (nI w), .int (fq_b b)])), (hw, .inr (0, [.ref aw, .int 0, .int 0])), (aw, .inl (cI, 120, .inl f))]) _ := hP
  have hD : va_D A ([(h, .inr (8, [.ref hy, .ref hw, .int (nI ca), .int (fq_b cl)])), (hy, .inr (7, [.int (nI w), .int (fq_b b)])), (hw, .inr (0, [.ref aw, .int 0, .int 0])), (aw, .inl (cI, 120, .inl f))]) := hD
  refine lv_aload_n K.1 K.2.1 dc_Source_reopen_7 rfl (lv_at hl 0 rfl) ?_
  refine lv_iconst (v := 0) K.1 K.2.1 dc_Source_reopen_8 (by decide) ?_
  refine fq_put K hK cl_Source hP hD hS 0 2 rfl (by decide) wd_142 rfl rfl rfl (Nat.le_of_ble_eq_true rfl) dc_Source_reopen_9 (fun H locs hP hD hS => ?_)
  have hP : va_P D fq_cl ([(h, .inr (8, [.ref hy, .ref hw, .int 0, .int (fq_b cl)])), (hy, .inr (7, [.int (nI w), .int (fq_b b)])), (hw, .inr (0, [.ref aw, .int 0, .int 0])), (aw, .inl (cI, 120, .inl f))]) _ := hP
  have hD : va_D A ([(h, .inr (8, [.ref hy, .ref hw, .int 0, .int (fq_b cl)])), (hy, .inr (7, [.int (nI w), .int (fq_b b)])), (hw, .inr (0, [.ref aw, .int 0, .int 0])), (aw, .inl (cI, 120, .inl f))]) := hD
  refine lv_aload_n K.1 K.2.1 dc_Source_reopen_12 rfl (lv_at hl 0 rfl) ?_
  refine lv_iconst (v := 0) K.1 K.2.1 dc_Source_reopen_13 (by decide) ?_
  refine fq_put K hK cl_Source hP hD hS 0 3 rfl (by decide) wd_143 rfl rfl rfl (Nat.le_of_ble_eq_true rfl) dc_Source_reopen_14 (fun H locs hP hD hS => ?_)
  have hP : va_P D fq_cl ([(h, .inr (8, [.ref hy, .ref hw, .int 0, .int 0])), (hy, .inr (7, [.int (nI w), .int (fq_b b)])), (hw, .inr (0, [.ref aw, .int 0, .int 0])), (aw, .inl (cI, 120, .inl f))]) _ := hP
  have hD : va_D A ([(h, .inr (8, [.ref hy, .ref hw, .int 0, .int 0])), (hy, .inr (7, [.int (nI w), .int (fq_b b)])), (hw, .inr (0, [.ref aw, .int 0, .int 0])), (aw, .inl (cI, 120, .inl f))]) := hD
  exact fq_retv K hret hlk hS hP hD rfl dc_Source_reopen_17 (Nat.le_of_ble_eq_true rfl) (Nat.le_of_ble_eq_true rfl)
set_option maxHeartbeats 4000000 in
set_option maxRecDepth 100000 in
theorem ct_Source_takes (l : Launch) (D : va_G) (cI cO : ClassId) (tE : Nat) (h hy hw ca : Nat) (cl : Bool) (n : Nat) (hca : ca ≤ 120) (hn : n ≤ 1000) (sz : Nat) : Met l my_Source_takes (fq_w my_Source_takes cb_Source_takes 2 (some .boolean)) ({ frames := 0, cells := 0, slots := 0, locals := 0 }) (va_Pc ([.ref h, .int (nI n)]) (fq_Pre D cI cO tE sz ([(h, .inr (8, [.ref hy, .ref hw, .int (nI ca), .int (fq_b cl)]))]))) (va_Qi (S := va_W) (fun r w => w = [(h, .inr (8, [.ref hy, .ref hw, .int (nI ca), .int (fq_b cl)]))] ∧ r = if cl = false ∧ ca + n ≤ 120 then 1 else 0) (fq_Bw D (va_A ([(h, .inr (8, [.ref hy, .ref hw, .int (nI ca), .int (fq_b cl)]))]) sz)) (va_A ([(h, .inr (8, [.ref hy, .ref hw, .int (nI ca), .int (fq_b cl)]))]) sz)) (0) (0) (va_A ([(h, .inr (8, [.ref hy, .ref hw, .int (nI ca), .int (fq_b cl)]))]) sz) := by
  refine fq_open (by decide +kernel) (Nat.le_of_ble_eq_true rfl) ?_
  intro pg ev s mt below meth cd ls K hret hlk hin hK hZ hP hD hA hS hl
  generalize va_A ([(h, .inr (8, [.ref hy, .ref hw, .int (nI ca), .int (fq_b cl)]))]) sz = A at hZ hD hA hS ⊢
  have K : fq_Ctx pg mt cd cb_Source_takes 2 s _ cn_Source := K
  have hl : lv_has ls 2 [(0, .ref h), (1, .int (nI n))] := hl
  refine lv_aload_n K.1 K.2.1 dc_Source_takes_0 rfl (lv_at hl 0 rfl) ?_
  refine fq_get K hK cl_Source hP 0 3 rfl (by decide) wd_143 rfl dc_Source_takes_1 ?_
  refine lv_if_ne (tgt := 22) K.1 K.2.1 dc_Source_takes_4 rfl (fun b4 => ?_) (fun b4 => ?_)
  · skip
    have hx : ¬ (cl = false ∧ ca + n ≤ 120) := fun z => by rw [fq_b1 b4] at z; exact absurd z.1 (by decide)
    refine lv_iconst (v := 0) K.1 K.2.1 dc_Source_takes_22 (by decide) ?_
    exact fq_retz K hret hlk hS hP hD (by first | exact Or.inl rfl | exact Or.inr rfl) ⟨rfl, by rw [if_neg hx]⟩ dc_Source_takes_23 (Nat.le_of_ble_eq_true rfl) (Nat.le_of_ble_eq_true rfl)
  · skip
    have hc := fq_b0 b4
    refine lv_aload_n K.1 K.2.1 dc_Source_takes_7 rfl (lv_at hl 0 rfl) ?_
    refine fq_get K hK cl_Source hP 0 2 rfl (by decide) wd_142 rfl dc_Source_takes_8 ?_
    refine lv_iload_n K.1 K.2.1 dc_Source_takes_11 rfl (lv_at hl 1 rfl) ?_
    refine lv_iadd K.1 K.2.1 dc_Source_takes_12 ?_
    refine fq_asi (y := nI (ca + n)) (nI_add _ _) ?_
    refine lv_bipush (v := 120) K.1 K.2.1 dc_Source_takes_13 (by decide) ?_
    refine fq_asi (y := nI 120) (by decide) ?_
    refine lv_icmp_gt (tgt := 22) K.1 K.2.1 dc_Source_takes_15 rfl (fun b15 => ?_) (fun b15 => ?_)
    · skip
      rw [nI_ltI (by omega) (by omega)] at b15
      have hx : ¬ (cl = false ∧ ca + n ≤ 120) := fun z => absurd z.2 (by omega)
      refine lv_iconst (v := 0) K.1 K.2.1 dc_Source_takes_22 (by decide) ?_
      exact fq_retz K hret hlk hS hP hD (by first | exact Or.inl rfl | exact Or.inr rfl) ⟨rfl, by rw [if_neg hx]⟩ dc_Source_takes_23 (Nat.le_of_ble_eq_true rfl) (Nat.le_of_ble_eq_true rfl)
    · skip
      rw [nI_ltI (by omega) (by omega)] at b15
      have hx : cl = false ∧ ca + n ≤ 120 := ⟨hc, by omega⟩
      refine lv_iconst (v := 1) K.1 K.2.1 dc_Source_takes_18 (by decide) ?_
      refine lv_goto (tgt := 23) K.1 K.2.1 dc_Source_takes_19 rfl ?_
      exact fq_retz K hret hlk hS hP hD (by first | exact Or.inl rfl | exact Or.inr rfl) ⟨rfl, by rw [if_pos hx]⟩ dc_Source_takes_23 (Nat.le_of_ble_eq_true rfl) (Nat.le_of_ble_eq_true rfl)
set_option maxHeartbeats 4000000 in
set_option maxRecDepth 100000 in
theorem ct_Source_addByte (l : Launch) (D : va_G) (cI cO : ClassId) (tE : Nat) (h hy hw aw w : Nat) (b : Bool) (f : Nat → Int32) (i : Nat) (L : List Int32) (ca : Nat) (cl : Bool) (x : Int32) (hrow : rw_ok 120 f i L) (sz : Nat) : Met l my_Source_addByte (fq_w my_Source_addByte cb_Source_addByte 2 none) ({ frames := 2, cells := 0, slots := 0, locals := 41 }) (va_Pc ([.ref h, .int x]) (fq_Pre D cI cO tE sz ([(h, .inr (8, [.ref hy, .ref hw, .int (nI ca), .int (fq_b cl)])), (hy, .inr (7, [.int (nI w), .int (fq_b b)])), (hw, .inr (0, [.ref aw, .int (nI i), .int (nI L.length)])), (aw, .inl (cI, 120, .inl f))]))) (va_Qv (S := va_W) (fun w' => ∃ g : Nat → Int32, w' = [(h, .inr (8, [.ref hy, .ref hw, .int (nI (ca + 1)), .int (fq_b cl)])), (hy, .inr (7, [.int (nI w), .int (fq_b b)])), (hw, .inr (0, [.ref aw, .int (nI i), .int (nI (rw_put 120 L x).length)])), (aw, .inl (cI, 120, .inl g))] ∧ rw_ok 120 g i (rw_put 120 L x)) (fq_Bw D (va_A ([(h, .inr (8, [.ref hy, .ref hw, .int (nI ca), .int (fq_b cl)])), (hy, .inr (7, [.int (nI w), .int (fq_b b)])), (hw, .inr (0, [.ref aw, .int (nI i), .int (nI L.length)])), (aw, .inl (cI, 120, .inl f))]) sz)) (va_A ([(h, .inr (8, [.ref hy, .ref hw, .int (nI ca), .int (fq_b cl)])), (hy, .inr (7, [.int (nI w), .int (fq_b b)])), (hw, .inr (0, [.ref aw, .int (nI i), .int (nI L.length)])), (aw, .inl (cI, 120, .inl f))]) sz)) (0) (0) (va_A ([(h, .inr (8, [.ref hy, .ref hw, .int (nI ca), .int (fq_b cl)])), (hy, .inr (7, [.int (nI w), .int (fq_b b)])), (hw, .inr (0, [.ref aw, .int (nI i), .int (nI L.length)])), (aw, .inl (cI, 120, .inl f))]) sz) := by
  refine fq_open (by decide +kernel) (Nat.le_of_ble_eq_true rfl) ?_
  intro pg ev s mt below meth cd ls K hret hlk hin hK hZ hP hD hA hS hl
  generalize va_A ([(h, .inr (8, [.ref hy, .ref hw, .int (nI ca), .int (fq_b cl)])), (hy, .inr (7, [.int (nI w), .int (fq_b b)])), (hw, .inr (0, [.ref aw, .int (nI i), .int (nI L.length)])), (aw, .inl (cI, 120, .inl f))]) sz = A at hZ hD hA hS ⊢
  have K : fq_Ctx pg mt cd cb_Source_addByte 2 s _ cn_Source := K
  have hl : lv_has ls 2 [(0, .ref h), (1, .int x)] := hl
  refine lv_aload_n K.1 K.2.1 dc_Source_addByte_0 rfl (lv_at hl 0 rfl) ?_
  refine fq_get K hK cl_Source hP 0 1 rfl (by decide) wd_140 rfl dc_Source_addByte_1 ?_
  refine lv_iload_n K.1 K.2.1 dc_Source_addByte_4 rfl (lv_at hl 1 rfl) ?_
  have hc := fq_cut.of (wc := [(hw, .inr (0, [.ref aw, .int (nI i), .int (nI L.length)])), (aw, .inl (cI, 120, .inl f))]) hP hD hS hA [2, 3] (by decide) rfl
  refine fq_cv (wr := [(h, .inr (8, [.ref hy, .ref hw, .int (nI ca), .int (fq_b cl)])), (hy, .inr (7, [.int (nI w), .int (fq_b b)]))]) (fq_rV K hK hZ hS hc (ct_Row_add l D cI cO tE hw aw 120 f i L x hrow _) yk_Row_add wd_554 wd_555 wd_553 0 rfl rfl rfl ⟨⟨rfl, rfl⟩, ⟨Nat.le_of_ble_eq_true rfl, Nat.le_of_ble_eq_true rfl⟩, ⟨Nat.le_of_ble_eq_true rfl, Nat.le_of_ble_eq_true rfl⟩⟩ hl.1 rfl (Nat.le_of_ble_eq_true rfl) dc_Source_addByte_5) hP hD hS hc [2, 3] [0, 1] rfl rfl (by decide) (by decide) (fun  w H locs hw1 hP hD hS => ?_)
  obtain ⟨g1, rfl, hrow1⟩ := hw1
  have hP : va_P D fq_cl ([(h, .inr (8, [.ref hy, .ref hw, .int (nI ca), .int (fq_b cl)])), (hy, .inr (7, [.int (nI w), .int (fq_b b)])), (hw, .inr (0, [.ref aw, .int (nI i), .int (nI (rw_put 120 L x).length)])), (aw, .inl (cI, 120, .inl g1))]) _ := hP
  have hD : va_D A ([(h, .inr (8, [.ref hy, .ref hw, .int (nI ca), .int (fq_b cl)])), (hy, .inr (7, [.int (nI w), .int (fq_b b)])), (hw, .inr (0, [.ref aw, .int (nI i), .int (nI (rw_put 120 L x).length)])), (aw, .inl (cI, 120, .inl g1))]) := hD
  refine lv_aload_n K.1 K.2.1 dc_Source_addByte_8 rfl (lv_at hl 0 rfl) ?_
  refine lv_dup K.1 K.2.1 dc_Source_addByte_9 rfl ?_
  refine fq_get K hK cl_Source hP 0 2 rfl (by decide) wd_142 rfl dc_Source_addByte_10 ?_
  refine lv_iconst (v := 1) K.1 K.2.1 dc_Source_addByte_13 (by decide) ?_
  refine lv_iadd K.1 K.2.1 dc_Source_addByte_14 ?_
  refine fq_asi (y := nI (ca + 1)) (nI_1 ca) ?_
  refine fq_put K hK cl_Source hP hD hS 0 2 rfl (by decide) wd_142 rfl rfl rfl (Nat.le_of_ble_eq_true rfl) dc_Source_addByte_15 (fun H locs hP hD hS => ?_)
  have hP : va_P D fq_cl ([(h, .inr (8, [.ref hy, .ref hw, .int (nI (ca + 1)), .int (fq_b cl)])), (hy, .inr (7, [.int (nI w), .int (fq_b b)])), (hw, .inr (0, [.ref aw, .int (nI i), .int (nI (rw_put 120 L x).length)])), (aw, .inl (cI, 120, .inl g1))]) _ := hP
  have hD : va_D A ([(h, .inr (8, [.ref hy, .ref hw, .int (nI (ca + 1)), .int (fq_b cl)])), (hy, .inr (7, [.int (nI w), .int (fq_b b)])), (hw, .inr (0, [.ref aw, .int (nI i), .int (nI (rw_put 120 L x).length)])), (aw, .inl (cI, 120, .inl g1))]) := hD
  exact fq_retv K hret hlk hS hP hD ⟨_, rfl, hrow1⟩ dc_Source_addByte_18 (Nat.le_of_ble_eq_true rfl) (Nat.le_of_ble_eq_true rfl)
set_option maxHeartbeats 4000000 in
set_option maxRecDepth 100000 in
theorem ct_Source_hasSample (l : Launch) (D : va_G) (cI cO : ClassId) (tE : Nat) (h hy hw aw w : Nat) (b : Bool) (f : Nat → Int32) (i : Nat) (L : List Int32) (ca : Nat) (cl : Bool) (hrow : rw_ok 120 f i L) (hw4 : w ≤ 4) (sz : Nat) : Met l my_Source_hasSample (fq_w my_Source_hasSample cb_Source_hasSample 1 (some .boolean)) ({ frames := 1, cells := 0, slots := 0, locals := 20 }) (va_Pc ([.ref h]) (fq_Pre D cI cO tE sz ([(h, .inr (8, [.ref hy, .ref hw, .int (nI ca), .int (fq_b cl)])), (hy, .inr (7, [.int (nI w), .int (fq_b b)])), (hw, .inr (0, [.ref aw, .int (nI i), .int (nI L.length)])), (aw, .inl (cI, 120, .inl f))]))) (va_Qi (S := va_W) (fun r w' => w' = [(h, .inr (8, [.ref hy, .ref hw, .int (nI ca), .int (fq_b cl)])), (hy, .inr (7, [.int (nI w), .int (fq_b b)])), (hw, .inr (0, [.ref aw, .int (nI i), .int (nI L.length)])), (aw, .inl (cI, 120, .inl f))] ∧ r = if L.length < w then 0 else 1) (fq_Bw D (va_A ([(h, .inr (8, [.ref hy, .ref hw, .int (nI ca), .int (fq_b cl)])), (hy, .inr (7, [.int (nI w), .int (fq_b b)])), (hw, .inr (0, [.ref aw, .int (nI i), .int (nI L.length)])), (aw, .inl (cI, 120, .inl f))]) sz)) (va_A ([(h, .inr (8, [.ref hy, .ref hw, .int (nI ca), .int (fq_b cl)])), (hy, .inr (7, [.int (nI w), .int (fq_b b)])), (hw, .inr (0, [.ref aw, .int (nI i), .int (nI L.length)])), (aw, .inl (cI, 120, .inl f))]) sz)) (0) (0) (va_A ([(h, .inr (8, [.ref hy, .ref hw, .int (nI ca), .int (fq_b cl)])), (hy, .inr (7, [.int (nI w), .int (fq_b b)])), (hw, .inr (0, [.ref aw, .int (nI i), .int (nI L.length)])), (aw, .inl (cI, 120, .inl f))]) sz) := by
  refine fq_open (by decide +kernel) (Nat.le_of_ble_eq_true rfl) ?_
  intro pg ev s mt below meth cd ls K hret hlk hin hK hZ hP hD hA hS hl
  generalize va_A ([(h, .inr (8, [.ref hy, .ref hw, .int (nI ca), .int (fq_b cl)])), (hy, .inr (7, [.int (nI w), .int (fq_b b)])), (hw, .inr (0, [.ref aw, .int (nI i), .int (nI L.length)])), (aw, .inl (cI, 120, .inl f))]) sz = A at hZ hD hA hS ⊢
  have K : fq_Ctx pg mt cd cb_Source_hasSample 1 s _ cn_Source := K
  have hl : lv_has ls 1 [(0, .ref h)] := hl
  have hLn := hrow.2.2.2.1
  refine lv_aload_n K.1 K.2.1 dc_Source_hasSample_0 rfl (lv_at hl 0 rfl) ?_
  refine fq_get K hK cl_Source hP 0 1 rfl (by decide) wd_140 rfl dc_Source_hasSample_1 ?_
  have hc := fq_cut.of (wc := [(hw, .inr (0, [.ref aw, .int (nI i), .int (nI L.length)])), (aw, .inl (cI, 120, .inl f))]) hP hD hS hA [2, 3] (by decide) rfl
  refine fq_ci (wr := [(h, .inr (8, [.ref hy, .ref hw, .int (nI ca), .int (fq_b cl)])), (hy, .inr (7, [.int (nI w), .int (fq_b b)]))]) (fq_rV K hK hZ hS hc (ct_Row_size l D cI cO tE hw aw 120 f i L hrow _) yk_Row_size wd_574 wd_575 wd_591 0 rfl rfl rfl ⟨⟨rfl, rfl⟩, ⟨Nat.le_of_ble_eq_true rfl, Nat.le_of_ble_eq_true rfl⟩, ⟨Nat.le_of_ble_eq_true rfl, Nat.le_of_ble_eq_true rfl⟩⟩ hl.1 rfl (Nat.le_of_ble_eq_true rfl) dc_Source_hasSample_4) hP hD hS hc [2, 3] [0, 1] rfl rfl (by decide) (by decide) (fun r1 w H locs hw1 hP hD hS => ?_)
  obtain ⟨rfl, rfl⟩ := hw1
  have hP : va_P D fq_cl ([(h, .inr (8, [.ref hy, .ref hw, .int (nI ca), .int (fq_b cl)])), (hy, .inr (7, [.int (nI w), .int (fq_b b)])), (hw, .inr (0, [.ref aw, .int (nI i), .int (nI L.length)])), (aw, .inl (cI, 120, .inl f))]) _ := hP
  have hD : va_D A ([(h, .inr (8, [.ref hy, .ref hw, .int (nI ca), .int (fq_b cl)])), (hy, .inr (7, [.int (nI w), .int (fq_b b)])), (hw, .inr (0, [.ref aw, .int (nI i), .int (nI L.length)])), (aw, .inl (cI, 120, .inl f))]) := hD
  refine lv_aload_n K.1 K.2.1 dc_Source_hasSample_7 rfl (lv_at hl 0 rfl) ?_
  refine fq_get K hK cl_Source hP 0 0 rfl (by decide) wd_138 rfl dc_Source_hasSample_8 ?_
  refine fq_getN K hK cl_Layout hP 1 0 rfl (by decide) wn_129 rfl dc_Source_hasSample_11 ?_
  refine lv_icmp_lt (tgt := 21) K.1 K.2.1 dc_Source_hasSample_14 rfl (fun b14 => ?_) (fun b14 => ?_)
  · skip
    rw [nI_ltI (by omega) (by omega)] at b14
    refine lv_iconst (v := 0) K.1 K.2.1 dc_Source_hasSample_21 (by decide) ?_
    exact fq_retz K hret hlk hS hP hD (by first | exact Or.inl rfl | exact Or.inr rfl) ⟨rfl, by first | rw [if_pos b14] | rw [if_neg b14]⟩ dc_Source_hasSample_22 (Nat.le_of_ble_eq_true rfl) (Nat.le_of_ble_eq_true rfl)
  · skip
    rw [nI_ltI (by omega) (by omega)] at b14
    refine lv_iconst (v := 1) K.1 K.2.1 dc_Source_hasSample_17 (by decide) ?_
    refine lv_goto (tgt := 22) K.1 K.2.1 dc_Source_hasSample_18 rfl ?_
    exact fq_retz K hret hlk hS hP hD (by first | exact Or.inl rfl | exact Or.inr rfl) ⟨rfl, by first | rw [if_pos b14] | rw [if_neg b14]⟩ dc_Source_hasSample_22 (Nat.le_of_ble_eq_true rfl) (Nat.le_of_ble_eq_true rfl)
set_option maxHeartbeats 4000000 in
set_option maxRecDepth 100000 in
theorem ct_Source_nextSample (l : Launch) (D : va_G) (cI cO : ClassId) (tE : Nat) (h hy hw aw w : Nat) (b : Bool) (f : Nat → Int32) (i : Nat) (L : List Int32) (ca : Nat) (cl : Bool) (hrow : rw_ok 120 f i L) (hw1 : 1 ≤ w) (hw4 : w ≤ 4) (hwl : w ≤ L.length) (hby : ∀ x ∈ L, 0 ≤ x.toInt ∧ x.toInt < 256) (sz : Nat) : Met l my_Source_nextSample (fq_w my_Source_nextSample cb_Source_nextSample 3 (some .int)) ({ frames := 1, cells := 0, slots := 0, locals := 21 }) (va_Pc ([.ref h]) (fq_Pre D cI cO tE sz ([(h, .inr (8, [.ref hy, .ref hw, .int (nI ca), .int (fq_b cl)])), (hy, .inr (7, [.int (nI w), .int (fq_b b)])), (hw, .inr (0, [.ref aw, .int (nI i), .int (nI L.length)])), (aw, .inl (cI, 120, .inl f))]))) (va_Qi (S := va_W) (fun r w' => ∃ (j : Nat) (L3 : List Int32), w' = [(h, .inr (8, [.ref hy, .ref hw, .int (nI ca), .int (fq_b cl)])), (hy, .inr (7, [.int (nI w), .int (fq_b b)])), (hw, .inr (0, [.ref aw, .int (nI j), .int (nI L3.length)])), (aw, .inl (cI, 120, .inl f))] ∧ L3 = L.drop w ∧ rw_ok 120 f j L3 ∧ r.toInt = ns_s w (ns_v w b L w)) (fq_Bw D (va_A ([(h, .inr (8, [.ref hy, .ref hw, .int (nI ca), .int (fq_b cl)])), (hy, .inr (7, [.int (nI w), .int (fq_b b)])), (hw, .inr (0, [.ref aw, .int (nI i), .int (nI L.length)])), (aw, .inl (cI, 120, .inl f))]) sz)) (va_A ([(h, .inr (8, [.ref hy, .ref hw, .int (nI ca), .int (fq_b cl)])), (hy, .inr (7, [.int (nI w), .int (fq_b b)])), (hw, .inr (0, [.ref aw, .int (nI i), .int (nI L.length)])), (aw, .inl (cI, 120, .inl f))]) sz)) (0) (0) (va_A ([(h, .inr (8, [.ref hy, .ref hw, .int (nI ca), .int (fq_b cl)])), (hy, .inr (7, [.int (nI w), .int (fq_b b)])), (hw, .inr (0, [.ref aw, .int (nI i), .int (nI L.length)])), (aw, .inl (cI, 120, .inl f))]) sz) := by
  refine fq_open (by decide +kernel) (Nat.le_of_ble_eq_true rfl) ?_
  intro pg ev s mt below meth cd ls K hret hlk hin hK hZ hP hD hA hS hl
  generalize va_A ([(h, .inr (8, [.ref hy, .ref hw, .int (nI ca), .int (fq_b cl)])), (hy, .inr (7, [.int (nI w), .int (fq_b b)])), (hw, .inr (0, [.ref aw, .int (nI i), .int (nI L.length)])), (aw, .inl (cI, 120, .inl f))]) sz = A at hZ hD hA hS ⊢
  have K : fq_Ctx pg mt cd cb_Source_nextSample 3 s _ cn_Source := K
  have hl : lv_has ls 3 [(0, .ref h)] := hl
  refine lv_iconst (v := 0) K.1 K.2.1 dc_Source_nextSample_0 (by decide) ?_
  refine lv_istore_n K.1 K.2.1 dc_Source_nextSample_1 rfl hl (by decide) rfl (fun ls hl => ?_)
  have hl : lv_has ls 3 [(1, .int 0), (0, .ref h)] := hl
  refine lv_iconst (v := 0) K.1 K.2.1 dc_Source_nextSample_2 (by decide) ?_
  refine lv_istore_n K.1 K.2.1 dc_Source_nextSample_3 rfl hl (by decide) rfl (fun ls hl => ?_)
  have hl : lv_has ls 3 [(2, .int 0), (1, .int 0), (0, .ref h)] := hl
  refine fq_lp (σ := Nat × Nat × List Int32 × Int32) (fun x => w - x.1) (fun x H locs ls => (x.1 ≤ w ∧ rw_ok 120 f x.2.1 x.2.2.1 ∧ x.2.2.1 = L.drop x.1 ∧ x.2.2.2 = nI (ns_v w b L x.1)) ∧ lv_has ls 3 [(0, .ref h), (1, .int x.2.2.2), (2, .int (nI x.1))] ∧ va_P D fq_cl ([(h, .inr (8, [.ref hy, .ref hw, .int (nI ca), .int (fq_b cl)])), (hy, .inr (7, [.int (nI w), .int (fq_b b)])), (hw, .inr (0, [.ref aw, .int (nI x.2.1), .int (nI x.2.2.1.length)])), (aw, .inl (cI, 120, .inl f))]) H ∧ va_D A ([(h, .inr (8, [.ref hy, .ref hw, .int (nI ca), .int (fq_b cl)])), (hy, .inr (7, [.int (nI w), .int (fq_b b)])), (hw, .inr (0, [.ref aw, .int (nI x.2.1), .int (nI x.2.2.1.length)])), (aw, .inl (cI, 120, .inl f))]) ∧ va_S A s.heap H locs) ?_ (0, i, L, 0) _ _ _ ⟨⟨Nat.zero_le _, hrow, rfl, rfl⟩, lv_sub hl [2, 1, 0] rfl, hP, hD, hS⟩
  rintro ⟨k, i2, L2, bt⟩ H locs ls ⟨hI4, hl, hP, hD, hS⟩ ih4
  have hI4 : k ≤ w ∧ rw_ok 120 f i2 L2 ∧ L2 = L.drop k ∧ bt = nI (ns_v w b L k) := hI4
  have hl : lv_has ls 3 [(0, .ref h), (1, .int bt), (2, .int (nI k))] := hl
  have hP : va_P D fq_cl ([(h, .inr (8, [.ref hy, .ref hw, .int (nI ca), .int (fq_b cl)])), (hy, .inr (7, [.int (nI w), .int (fq_b b)])), (hw, .inr (0, [.ref aw, .int (nI i2), .int (nI L2.length)])), (aw, .inl (cI, 120, .inl f))]) _ := hP
  have hD : va_D A ([(h, .inr (8, [.ref hy, .ref hw, .int (nI ca), .int (fq_b cl)])), (hy, .inr (7, [.int (nI w), .int (fq_b b)])), (hw, .inr (0, [.ref aw, .int (nI i2), .int (nI L2.length)])), (aw, .inl (cI, 120, .inl f))]) := hD
  refine lv_iload_n K.1 K.2.1 dc_Source_nextSample_4 rfl (lv_at hl 2 rfl) ?_
  refine lv_aload_n K.1 K.2.1 dc_Source_nextSample_5 rfl (lv_at hl 0 rfl) ?_
  refine fq_get K hK cl_Source hP 0 0 rfl (by decide) wd_138 rfl dc_Source_nextSample_6 ?_
  refine fq_getN K hK cl_Layout hP 1 0 rfl (by decide) wn_129 rfl dc_Source_nextSample_9 ?_
  refine lv_icmp_ge (tgt := 40) K.1 K.2.1 dc_Source_nextSample_12 rfl (fun b12 => ?_) (fun b12 => ?_)
  · skip
    have hk : k = w := by rw [nI_leI (by omega) (by omega)] at b12; omega
    refine lv_aload_n K.1 K.2.1 dc_Source_nextSample_40 rfl (lv_at hl 0 rfl) ?_
    refine fq_get K hK cl_Source hP 0 0 rfl (by decide) wd_138 rfl dc_Source_nextSample_41 ?_
    refine fq_getN K hK cl_Layout hP 1 0 rfl (by decide) wn_129 rfl dc_Source_nextSample_44 ?_
    by_cases c47_1 : nI w = 1
    · skip
      refine lv_tableIn (off := 25) (tgt := 72) K.1 K.2.1 dc_Source_nextSample_47 (by rw [c47_1]; decide) (by rw [c47_1]; decide) (by rw [c47_1]; decide) rfl ?_
      refine lv_iload_n K.1 K.2.1 dc_Source_nextSample_72 rfl (lv_at hl 1 rfl) ?_
      refine lv_sipush (v := 128) K.1 K.2.1 dc_Source_nextSample_73 (by decide) ?_
      refine lv_isub K.1 K.2.1 dc_Source_nextSample_76 ?_
      refine lv_ldc (v := 65536) K.1 K.2.1 K.2.2.2.1 (K.2.2.2.2 _ wd_601) dc_Source_nextSample_77 ?_
      refine lv_imul K.1 K.2.1 dc_Source_nextSample_79 ?_
      exact fq_reti K hret hlk hS hP hD ⟨_, _, rfl, hk ▸ hI4.2.2.1, hI4.2.1, ns_1 hw4 hby hwl hI4.2.2.2 hk c47_1⟩ dc_Source_nextSample_80 (Nat.le_of_ble_eq_true rfl) (Nat.le_of_ble_eq_true rfl)
    by_cases c47_2 : nI w = 2
    · skip
      refine lv_tableIn (off := 34) (tgt := 81) K.1 K.2.1 dc_Source_nextSample_47 (by rw [c47_2]; decide) (by rw [c47_2]; decide) (by rw [c47_2]; decide) rfl ?_
      refine lv_iload_n K.1 K.2.1 dc_Source_nextSample_81 rfl (lv_at hl 1 rfl) ?_
      refine lv_i2s K.1 K.2.1 dc_Source_nextSample_82 rfl ?_
      refine lv_sipush (v := 256) K.1 K.2.1 dc_Source_nextSample_83 (by decide) ?_
      refine lv_imul K.1 K.2.1 dc_Source_nextSample_86 ?_
      exact fq_reti K hret hlk hS hP hD ⟨_, _, rfl, hk ▸ hI4.2.2.1, hI4.2.1, ns_2 hw4 hby hwl hI4.2.2.2 hk c47_2⟩ dc_Source_nextSample_87 (Nat.le_of_ble_eq_true rfl) (Nat.le_of_ble_eq_true rfl)
    by_cases c47_3 : nI w = 3
    · skip
      refine lv_tableIn (off := 41) (tgt := 88) K.1 K.2.1 dc_Source_nextSample_47 (by rw [c47_3]; decide) (by rw [c47_3]; decide) (by rw [c47_3]; decide) rfl ?_
      refine lv_iload_n K.1 K.2.1 dc_Source_nextSample_88 rfl (lv_at hl 1 rfl) ?_
      refine lv_bipush (v := 8) K.1 K.2.1 dc_Source_nextSample_89 (by decide) ?_
      refine lv_ishl K.1 K.2.1 dc_Source_nextSample_91 ?_
      refine lv_bipush (v := 8) K.1 K.2.1 dc_Source_nextSample_92 (by decide) ?_
      refine lv_ishr K.1 K.2.1 dc_Source_nextSample_94 ?_
      exact fq_reti K hret hlk hS hP hD ⟨_, _, rfl, hk ▸ hI4.2.2.1, hI4.2.1, ns_3 hw4 hby hwl hI4.2.2.2 hk c47_3⟩ dc_Source_nextSample_95 (Nat.le_of_ble_eq_true rfl) (Nat.le_of_ble_eq_true rfl)
    refine lv_tableOut (tgt := 96) K.1 K.2.1 dc_Source_nextSample_47 ((by have e1 := nI_toInt (n := w) (by omega); have h1 : ¬ nI w = 1 := c47_1; have h2 : ¬ nI w = 2 := c47_2; have h3 : ¬ nI w = 3 := c47_3; right; rw [e1]; exact ns_out hw1 c47_1 c47_2 c47_3)) rfl ?_
    refine lv_iload_n K.1 K.2.1 dc_Source_nextSample_96 rfl (lv_at hl 1 rfl) ?_
    refine lv_bipush (v := 8) K.1 K.2.1 dc_Source_nextSample_97 (by decide) ?_
    refine lv_ishr K.1 K.2.1 dc_Source_nextSample_99 ?_
    exact fq_reti K hret hlk hS hP hD ⟨_, _, rfl, hk ▸ hI4.2.2.1, hI4.2.1, ns_4 hw4 hw1 hI4.2.2.2 hk c47_1 c47_2 c47_3⟩ dc_Source_nextSample_100 (Nat.le_of_ble_eq_true rfl) (Nat.le_of_ble_eq_true rfl)
  · skip
    have hk : k < w := by rw [nI_leI (by omega) (by omega)] at b12; omega
    refine lv_iload_n K.1 K.2.1 dc_Source_nextSample_15 rfl (lv_at hl 1 rfl) ?_
    refine lv_aload_n K.1 K.2.1 dc_Source_nextSample_16 rfl (lv_at hl 0 rfl) ?_
    refine fq_get K hK cl_Source hP 0 1 rfl (by decide) wd_140 rfl dc_Source_nextSample_17 ?_
    have hc := fq_cut.of (wc := [(hw, .inr (0, [.ref aw, .int (nI i2), .int (nI L2.length)])), (aw, .inl (cI, 120, .inl f))]) hP hD hS hA [2, 3] (by decide) rfl
    refine fq_ci (wr := [(h, .inr (8, [.ref hy, .ref hw, .int (nI ca), .int (fq_b cl)])), (hy, .inr (7, [.int (nI w), .int (fq_b b)]))]) (fq_rV K hK hZ hS hc (ct_Row_takeOldest l D cI cO tE hw aw 120 f i2 L2 hI4.2.1 _) yk_Row_takeOldest wd_583 wd_584 wd_596 0 rfl rfl rfl ⟨⟨rfl, rfl⟩, ⟨Nat.le_of_ble_eq_true rfl, Nat.le_of_ble_eq_true rfl⟩, ⟨Nat.le_of_ble_eq_true rfl, Nat.le_of_ble_eq_true rfl⟩⟩ hl.1 rfl (Nat.le_of_ble_eq_true rfl) dc_Source_nextSample_20) hP hD hS hc [2, 3] [0, 1] rfl rfl (by decide) (by decide) (fun r1 w H locs hw1 hP hD hS => ?_)
    obtain ⟨j1, rfl, rfl, hrow1⟩ := hw1
    have hP : va_P D fq_cl ([(h, .inr (8, [.ref hy, .ref hw, .int (nI ca), .int (fq_b cl)])), (hy, .inr (7, [.int (nI w), .int (fq_b b)])), (hw, .inr (0, [.ref aw, .int (nI j1), .int (nI L2.tail.length)])), (aw, .inl (cI, 120, .inl f))]) _ := hP
    have hD : va_D A ([(h, .inr (8, [.ref hy, .ref hw, .int (nI ca), .int (fq_b cl)])), (hy, .inr (7, [.int (nI w), .int (fq_b b)])), (hw, .inr (0, [.ref aw, .int (nI j1), .int (nI L2.tail.length)])), (aw, .inl (cI, 120, .inl f))]) := hD
    refine lv_aload_n K.1 K.2.1 dc_Source_nextSample_23 rfl (lv_at hl 0 rfl) ?_
    refine fq_get K hK cl_Source hP 0 0 rfl (by decide) wd_138 rfl dc_Source_nextSample_24 ?_
    refine lv_iload_n K.1 K.2.1 dc_Source_nextSample_27 rfl (lv_at hl 2 rfl) ?_
    have hc := fq_cut.of (wc := [(hy, .inr (7, [.int (nI w), .int (fq_b b)]))]) hP hD hS hA [1] (by decide) rfl
    refine fq_ci (wr := [(h, .inr (8, [.ref hy, .ref hw, .int (nI ca), .int (fq_b cl)])), (hw, .inr (0, [.ref aw, .int (nI j1), .int (nI L2.tail.length)])), (aw, .inl (cI, 120, .inl f))]) (fq_rV K hK hZ hS hc (ct_Layout_shiftOf l D cI cO tE hy w b k hk (by omega) _) yk_Layout_shiftOf wd_598 wd_599 wd_597 0 rfl rfl rfl ⟨⟨rfl, rfl⟩, ⟨Nat.le_of_ble_eq_true rfl, Nat.le_of_ble_eq_true rfl⟩, ⟨Nat.le_of_ble_eq_true rfl, Nat.le_of_ble_eq_true rfl⟩⟩ hl.1 rfl (Nat.le_of_ble_eq_true rfl) dc_Source_nextSample_28) hP hD hS hc [1] [0, 2, 3] rfl rfl (by decide) (by decide) (fun r2 w H locs hw2 hP hD hS => ?_)
    obtain ⟨rfl, rfl⟩ := hw2
    have hP : va_P D fq_cl ([(h, .inr (8, [.ref hy, .ref hw, .int (nI ca), .int (fq_b cl)])), (hw, .inr (0, [.ref aw, .int (nI j1), .int (nI L2.tail.length)])), (aw, .inl (cI, 120, .inl f)), (hy, .inr (7, [.int (nI w), .int (fq_b b)]))]) _ := hP
    have hD : va_D A ([(h, .inr (8, [.ref hy, .ref hw, .int (nI ca), .int (fq_b cl)])), (hw, .inr (0, [.ref aw, .int (nI j1), .int (nI L2.tail.length)])), (aw, .inl (cI, 120, .inl f)), (hy, .inr (7, [.int (nI w), .int (fq_b b)]))]) := hD
    refine lv_ishl K.1 K.2.1 dc_Source_nextSample_31 ?_
    refine lv_ior K.1 K.2.1 dc_Source_nextSample_32 ?_
    refine lv_topi (fun v1 e_v1 => ?_)
    refine lv_istore_n K.1 K.2.1 dc_Source_nextSample_33 rfl hl (by decide) rfl (fun ls hl => ?_)
    have hl : lv_has ls 3 [(1, .int v1), (0, .ref h), (2, .int (nI k))] := hl
    refine lv_iinc (v := nI (k + 1)) K.1 K.2.1 dc_Source_nextSample_34 hl (k := 2) rfl (nI_1 k) (by decide) rfl (fun ls hl => ?_)
    have hl : lv_has ls 3 [(2, .int (nI (k + 1))), (1, .int v1), (0, .ref h)] := hl
    refine lv_goto (tgt := 4) K.1 K.2.1 dc_Source_nextSample_37 rfl ?_
    have hP := hP.sub (ws' := [(h, .inr (8, [.ref hy, .ref hw, .int (nI ca), .int (fq_b cl)])), (hy, .inr (7, [.int (nI w), .int (fq_b b)])), (hw, .inr (0, [.ref aw, .int (nI j1), .int (nI L2.tail.length)])), (aw, .inl (cI, 120, .inl f))]) [0, 3, 1, 2] rfl
    have hD := hD.sub (ws' := [(h, .inr (8, [.ref hy, .ref hw, .int (nI ca), .int (fq_b cl)])), (hy, .inr (7, [.int (nI w), .int (fq_b b)])), (hw, .inr (0, [.ref aw, .int (nI j1), .int (nI L2.tail.length)])), (aw, .inl (cI, 120, .inl f))]) [0, 3, 1, 2] (by decide) rfl
    exact ih4 (k + 1, j1, L2.tail, v1) _ _ _ (by show w - (k + 1) < w - k; omega) ⟨ns_step hI4 hk hw4 hwl hby hrow1 e_v1, lv_sub hl [2, 1, 0] rfl, hP, hD, hS⟩
