theorem wd_12 : Cond.selects cn_Sink my_Sink_bitsOf my_Sink_bitsOf ∈ fq_TB := fq_in 12 (by decide +kernel) rfl
theorem wn_128 : Cond.fieldLinkNest cn_Sink 27 cn_Layout "width" "I" cn_FP ∈ lw_tbl := List.mem_of_getElem? (i := 128) (by decide +kernel)
theorem wd_732 : Cond.instanceMethod my_Sink_byteAt ∈ fq_TB := fq_in 732 (by decide +kernel) rfl
theorem wd_733 : Cond.selects cn_Sink my_Sink_byteAt my_Sink_byteAt ∈ fq_TB := fq_in 733 (by decide +kernel) rfl
theorem wd_734 : Cond.code my_Sink_byteAt cb_Sink_byteAt 3 (some .int) ∈ fq_TB := fq_in 734 (by decide +kernel) rfl
theorem wd_735 : Cond.methodLink cn_Sink 31 my_Row_size ∈ fq_TB := fq_in 735 (by decide +kernel) rfl
theorem wd_736 : Cond.methodLink cn_Sink 35 my_Row_get ∈ fq_TB := fq_in 736 (by decide +kernel) rfl
theorem wd_740 : Cond.methodLink cn_Sink 39 my_Sink_bitsOf ∈ fq_TB := fq_in 740 (by decide +kernel) rfl
theorem wd_742 : Cond.instanceMethod my_Sink_bitsOf ∈ fq_TB := fq_in 742 (by decide +kernel) rfl
theorem wd_743 : Cond.code my_Sink_bitsOf cb_Sink_bitsOf 2 (some .int) ∈ fq_TB := fq_in 743 (by decide +kernel) rfl
theorem wd_744 : Cond.constant cn_Sink 45 32768 ∈ fq_TB := fq_in 744 (by decide +kernel) rfl
theorem wd_745 : Cond.constant cn_Sink 46 65536 ∈ fq_TB := fq_in 745 (by decide +kernel) rfl
theorem wd_746 : Cond.methodLink cn_Sink 47 my_Ma_floorDiv2 ∈ fq_TB := fq_in 746 (by decide +kernel) rfl
theorem wd_749 : Cond.methodLink cn_Sink 53 my_Ma_min ∈ fq_TB := fq_in 749 (by decide +kernel) rfl
theorem wd_750 : Cond.methodLink cn_Sink 42 my_Layout_shiftOf ∈ fq_TB := fq_in 750 (by decide +kernel) rfl
theorem wd_757 : Cond.instanceMethod my_Sink_tone ∈ fq_TB := fq_in 757 (by decide +kernel) rfl
theorem wd_758 : Cond.selects cn_Sink my_Sink_tone my_Sink_tone ∈ fq_TB := fq_in 758 (by decide +kernel) rfl
theorem wd_759 : Cond.code my_Sink_tone cb_Sink_tone 12 (some .long) ∈ fq_TB := fq_in 759 (by decide +kernel) rfl
theorem wd_760 : Cond.constantLong cn_Sink 56 (-1) ∈ fq_TB := fq_in 760 (by decide +kernel) rfl

/-- what is cut into bytes -/
def sk_v (w : Nat) (s : Int) : Int := if w = 1 then 128 + (if (s + 32768) / 65536 < 127 then (s + 32768) / 65536 else 127) else if w = 2 then (if (s + 128) / 256 < 32767 then (s + 128) / 256 else 32767) else if w = 3 then s else 256 * s
def sk_b (w : Nat) (b : Bool) (L : List Int) (x : Int32) : Int := if x < 0 then -1 else if L.length ≤ x.toNatClampNeg / w then -1 else sk_v w (L.getD (x.toNatClampNeg / w) 0) / 2 ^ ly_sh w b (x.toNatClampNeg % w) % 256
theorem sk_vb {w : Nat} {s : Int} (h : fm_in s) : -2147483648 ≤ sk_v w s ∧ sk_v w s ≤ 2147483647 := by
  unfold fm_in at h
  unfold sk_v
  split
  · split <;> omega
  · split
    · split <;> omega
    · split <;> omega
theorem sk_1 {w : Nat} {x r : Int32} (hw : w ≤ 4) (hx : fm_in x.toInt) (hc : nI w = 1) (hr : r.toInt = (x + 32768).toInt / (65536 : Int32).toInt) : (128 + (if r < 127 then r else 127)).toInt = sk_v w x.toInt := by
  have e : w = 1 := ns_w hw (by decide) hc
  subst e
  unfold fm_in at hx
  have e1 : (32768 : Int32).toInt = 32768 := by decide
  have e2 : (65536 : Int32).toInt = 65536 := by decide
  have e3 : (128 : Int32).toInt = 128 := by decide
  have e4 : (127 : Int32).toInt = 127 := by decide
  rw [Kit.i32_add (by rw [e1]; omega) (by rw [e1]; omega), e1, e2] at hr
  unfold sk_v
  rw [if_pos rfl]
  by_cases c : r < 127
  · rw [if_pos c]
    rw [Int32.lt_iff_toInt_lt, e4, hr] at c
    rw [Kit.i32_add (by rw [e3, hr]; omega) (by rw [e3, hr]; omega), e3, hr, if_pos c]
  · rw [if_neg c]
    rw [Int32.lt_iff_toInt_lt, e4, hr] at c
    rw [if_neg c]
    decide
theorem sk_2 {w : Nat} {x r : Int32} (hw : w ≤ 4) (hx : fm_in x.toInt) (hc : nI w = 2) (hr : r.toInt = (x + 128).toInt / (256 : Int32).toInt) : (if r < 32767 then r else 32767).toInt = sk_v w x.toInt := by
  have e : w = 2 := ns_w hw (by decide) hc
  subst e
  unfold fm_in at hx
  have e1 : (128 : Int32).toInt = 128 := by decide
  have e2 : (256 : Int32).toInt = 256 := by decide
  have e4 : (32767 : Int32).toInt = 32767 := by decide
  rw [Kit.i32_add (by rw [e1]; omega) (by rw [e1]; omega), e1, e2] at hr
  rw [show sk_v 2 x.toInt = (if (x.toInt + 128) / 256 < 32767 then (x.toInt + 128) / 256 else 32767) from rfl]
  by_cases c : r < 32767
  · rw [if_pos c]
    rw [Int32.lt_iff_toInt_lt, e4, hr] at c
    rw [hr, if_pos c]
  · rw [if_neg c]
    rw [Int32.lt_iff_toInt_lt, e4, hr] at c
    rw [if_neg c, e4]
theorem sk_3 {w : Nat} {x : Int32} (hw : w ≤ 4) (hc : nI w = 3) : x.toInt = sk_v w x.toInt := by
  have e : w = 3 := ns_w hw (by decide) hc
  subst e
  unfold sk_v
  rw [if_neg (by decide), if_neg (by decide), if_pos rfl]
theorem sk_4 {w : Nat} {x : Int32} (hw1 : 1 ≤ w) (hx : fm_in x.toInt) (h1 : ¬ nI w = 1) (h2 : ¬ nI w = 2) (h3 : ¬ nI w = 3) : (256 * x).toInt = sk_v w x.toInt := by
  have e := ns_out hw1 h1 h2 h3
  unfold fm_in at hx
  have e2 : (256 : Int32).toInt = 256 := by decide
  unfold sk_v
  rw [if_neg (by omega), if_neg (by omega), if_neg (by omega), Kit.i32_mul (by rw [e2]; omega) (by rw [e2]; omega), e2]
theorem sk_in {L : List Int32} {j : Nat} (h : ∀ v ∈ L, fm_in v.toInt) : fm_in (L.getD j 0).toInt := by
  rw [List.getD_eq_getElem?_getD]
  cases hq : L[j]? with
  | none => show fm_in (0 : Int32).toInt; unfold fm_in; decide
  | some v => exact h v (List.mem_of_getElem? hq)
theorem sk_bn {w : Nat} {b : Bool} {L : List Int} {x : Int32} (h : x < 0) : (-1 : Int32).toInt = sk_b w b L x := by
  unfold sk_b; rw [if_pos h]; decide
theorem sk_bh {w k : Nat} {b : Bool} {L : List Int32} {x : Int32} (hk : k < 2 ^ 31) (hx : x = nI k) (h : ¬ k / w < L.length) : (-1 : Int32).toInt = sk_b w b (L.map Int32.toInt) x := by
  unfold sk_b
  rw [hx, if_neg (nI_pos hk), nI_clamp hk, List.length_map, if_pos (by omega)]; decide
theorem fm_map {L : List Int32} {j : Nat} : (L.map Int32.toInt).getD j 0 = (L.getD j 0).toInt := by
  rw [List.getD_eq_getElem?_getD, List.getD_eq_getElem?_getD, List.getElem?_map]
  cases L[j]? <;> rfl
theorem sk_bv {w k : Nat} {b : Bool} {L : List Int32} {x r : Int32} (hw : w ≤ 4) (hm : k % w < w) (hk : k < 2 ^ 31) (hx : x = nI k) (h : k / w < L.length) (hr : r.toInt = sk_v w (L.getD (k / w) 0).toInt) : (r >>> (nI (ly_sh w b (k % w)) &&& 31) &&& 255).toInt = sk_b w b (L.map Int32.toInt) x := by
  have hs := ns_sh (b := b) hw hm
  rw [Kit.i32_mask _ _ (k := 8) (by decide) (by decide), Kit.i32_shr _ _ (ns_sm _ (by omega)), hr]
  unfold sk_b
  rw [hx, if_neg (nI_pos hk), nI_clamp hk, List.length_map, if_neg (by omega), fm_map, show (2 : Int) ^ 8 = 256 by decide]
/-- one and other, from the block's end on -/
def tn_h (t : Int64) (L : List Int32) (en : Nat) : Nat → Int64 × Int64
  | 0 => (0, 0)
  | n + 1 => ((L.getD (en - 1 - n) 0).toInt64 - (tn_h t L en n).2, (tn_h t L en n).1 + t * (tn_h t L en n).2)
def tn_v (t : Int64) (p : Int64 × Int64) : Int64 := p.1 * p.1 + t * p.1 * p.2 + p.2 * p.2
def tn_r (t : Int64) (L : List Int32) : Int64 := if L.length - L.length % 12 = 0 then -1 else tn_v t (tn_h t L (L.length - L.length % 12) 12)
theorem tn_en {n : Nat} (h : ¬ n - n % 12 = 0) : 12 ≤ n - n % 12 := by omega
theorem tn_no {t : Int64} {L : List Int32} (h : L.length - L.length % 12 = 0) : (-1 : Int64) = tn_r t L := by unfold tn_r; rw [if_pos h]
theorem tn_ti {a : Nat} (h : a < 2 ^ 30) (c : Nat) (hc : c < 2 ^ 30) {k : Int32} (hk : k = nI c) : (nI a - k).toInt = (a : Int) - c := by rw [hk]; exact pk_sub_toInt h hc
theorem tn_c1 {en n : Nat} (he : en < 2 ^ 30) (hn : n ≤ 12) (h12 : n ≤ en) (h : nI (en - n) - 1 < nI en - 12) : n = 12 := by
  rw [Int32.lt_iff_toInt_lt, tn_ti (k := 1) (by omega) 1 (by decide) rfl, tn_ti (k := 12) he 12 (by decide) rfl] at h
  omega
theorem tn_c2 {en n : Nat} (he : en < 2 ^ 30) (hn : n ≤ 12) (h12 : n ≤ en) (h : ¬ nI (en - n) - 1 < nI en - 12) : n < 12 := by
  rw [Int32.lt_iff_toInt_lt, tn_ti (k := 1) (by omega) 1 (by decide) rfl, tn_ti (k := 12) he 12 (by decide) rfl] at h
  omega
theorem tn_get {L : List Int32} {en n : Nat} (he : en < 2 ^ 30) (hn : n < 12) (h : 12 ≤ en) : rw_get L (nI (en - n) - 1) = L.getD (en - 1 - n) 0 := by
  rw [show nI (en - n) - 1 = nI (en - n - 1) from pk_sub (b := 1) (by omega), rw_getN (by omega), show en - n - 1 = en - 1 - n by omega]
theorem tn_dec {en n : Nat} (hn : n < 12) (h : 12 ≤ en) : nI (en - n) - 1 + Int32.ofInt (-1) = nI (en - (n + 1)) - 1 := by
  have e1 : nI (en - n) - 1 = nI (en - n - 1) := pk_sub (b := 1) (by omega)
  rw [e1, show Int32.ofInt (-1) = (-1 : Int32) by decide, show nI (en - n - 1) + (-1) = nI (en - n - 1) - 1 from (Int32.sub_eq_add_neg _ _).symm, show en - (n + 1) = en - n - 1 by omega]
theorem tn_step {t on ot v2 v3 : Int64} {L : List Int32} {en n : Nat} (h : n ≤ 12 ∧ (on, ot) = tn_h t L en n) (hn : n < 12) (he : 12 ≤ en) (h2 : v2 = (L.getD (en - 1 - n) 0).toInt64 - ot) (h3 : v3 = on + t * ot) : n + 1 ≤ 12 ∧ (v2, v3) = tn_h t L en (n + 1) := by
  refine ⟨hn, ?_⟩
  have e1 := congrArg Prod.fst h.2
  have e2 := congrArg Prod.snd h.2
  have e1 : on = (tn_h t L en n).1 := e1
  have e2 : ot = (tn_h t L en n).2 := e2
  rw [h2, h3, e1, e2]
  rfl
theorem tn_fin {t on ot : Int64} {L : List Int32} {n : Nat} (h : n ≤ 12 ∧ (on, ot) = tn_h t L (L.length - L.length % 12) n) (hn : n = 12) (he : 12 ≤ L.length - L.length % 12) : on * on + t * on * ot + ot * ot = tn_r t L := by
  subst hn
  unfold tn_r
  rw [if_neg (by omega), ← h.2]
  rfl

theorem dc_Sink_bitsOf_0 : decode cb_Sink_bitsOf 0 = .ok (.aload_n 0, 1) := by decide +kernel
theorem dc_Sink_bitsOf_1 : decode cb_Sink_bitsOf 1 = .ok (.getfield 12, 3) := by decide +kernel
theorem dc_Sink_bitsOf_4 : decode cb_Sink_bitsOf 4 = .ok (.getfield 27, 3) := by decide +kernel
theorem dc_Sink_bitsOf_7 : decode cb_Sink_bitsOf 7 = .ok (.tableswitch 64 1 3 #[25, 44, 62], 25) := by decide +kernel
theorem dc_Sink_bitsOf_32 : decode cb_Sink_bitsOf 32 = .ok (.sipush 128, 3) := by decide +kernel
theorem dc_Sink_bitsOf_35 : decode cb_Sink_bitsOf 35 = .ok (.bipush 127, 2) := by decide +kernel
theorem dc_Sink_bitsOf_37 : decode cb_Sink_bitsOf 37 = .ok (.iload_n 1, 1) := by decide +kernel
theorem dc_Sink_bitsOf_38 : decode cb_Sink_bitsOf 38 = .ok (.ldc 45, 2) := by decide +kernel
theorem dc_Sink_bitsOf_40 : decode cb_Sink_bitsOf 40 = .ok (.iadd, 1) := by decide +kernel
theorem dc_Sink_bitsOf_41 : decode cb_Sink_bitsOf 41 = .ok (.ldc 46, 2) := by decide +kernel
theorem dc_Sink_bitsOf_43 : decode cb_Sink_bitsOf 43 = .ok (.invokestatic 47, 3) := by decide +kernel
theorem dc_Sink_bitsOf_46 : decode cb_Sink_bitsOf 46 = .ok (.invokestatic 53, 3) := by decide +kernel
theorem dc_Sink_bitsOf_49 : decode cb_Sink_bitsOf 49 = .ok (.iadd, 1) := by decide +kernel
theorem dc_Sink_bitsOf_50 : decode cb_Sink_bitsOf 50 = .ok (.ireturn, 1) := by decide +kernel
theorem dc_Sink_bitsOf_51 : decode cb_Sink_bitsOf 51 = .ok (.sipush 32767, 3) := by decide +kernel
theorem dc_Sink_bitsOf_54 : decode cb_Sink_bitsOf 54 = .ok (.iload_n 1, 1) := by decide +kernel
theorem dc_Sink_bitsOf_55 : decode cb_Sink_bitsOf 55 = .ok (.sipush 128, 3) := by decide +kernel
theorem dc_Sink_bitsOf_58 : decode cb_Sink_bitsOf 58 = .ok (.iadd, 1) := by decide +kernel
theorem dc_Sink_bitsOf_59 : decode cb_Sink_bitsOf 59 = .ok (.sipush 256, 3) := by decide +kernel
theorem dc_Sink_bitsOf_62 : decode cb_Sink_bitsOf 62 = .ok (.invokestatic 47, 3) := by decide +kernel
theorem dc_Sink_bitsOf_65 : decode cb_Sink_bitsOf 65 = .ok (.invokestatic 53, 3) := by decide +kernel
theorem dc_Sink_bitsOf_68 : decode cb_Sink_bitsOf 68 = .ok (.ireturn, 1) := by decide +kernel
theorem dc_Sink_bitsOf_69 : decode cb_Sink_bitsOf 69 = .ok (.iload_n 1, 1) := by decide +kernel
theorem dc_Sink_bitsOf_70 : decode cb_Sink_bitsOf 70 = .ok (.ireturn, 1) := by decide +kernel
theorem dc_Sink_bitsOf_71 : decode cb_Sink_bitsOf 71 = .ok (.sipush 256, 3) := by decide +kernel
theorem dc_Sink_bitsOf_74 : decode cb_Sink_bitsOf 74 = .ok (.iload_n 1, 1) := by decide +kernel
theorem dc_Sink_bitsOf_75 : decode cb_Sink_bitsOf 75 = .ok (.imul, 1) := by decide +kernel
theorem dc_Sink_bitsOf_76 : decode cb_Sink_bitsOf 76 = .ok (.ireturn, 1) := by decide +kernel
theorem yk_Sink_bitsOf : fq_Y my_Sink_bitsOf cb_Sink_bitsOf 2 (some .int) 1 := ⟨wd_743, wd_34, by decide +kernel⟩
theorem dc_Sink_byteAt_0 : decode cb_Sink_byteAt 0 = .ok (.aload_n 0, 1) := by decide +kernel
theorem dc_Sink_byteAt_1 : decode cb_Sink_byteAt 1 = .ok (.getfield 12, 3) := by decide +kernel
theorem dc_Sink_byteAt_4 : decode cb_Sink_byteAt 4 = .ok (.getfield 27, 3) := by decide +kernel
theorem dc_Sink_byteAt_7 : decode cb_Sink_byteAt 7 = .ok (.istore_n 2, 1) := by decide +kernel
theorem dc_Sink_byteAt_8 : decode cb_Sink_byteAt 8 = .ok (.iload_n 1, 1) := by decide +kernel
theorem dc_Sink_byteAt_9 : decode cb_Sink_byteAt 9 = .ok (.ifCond .lt 16, 3) := by decide +kernel
theorem dc_Sink_byteAt_12 : decode cb_Sink_byteAt 12 = .ok (.iload_n 1, 1) := by decide +kernel
theorem dc_Sink_byteAt_13 : decode cb_Sink_byteAt 13 = .ok (.iload_n 2, 1) := by decide +kernel
theorem dc_Sink_byteAt_14 : decode cb_Sink_byteAt 14 = .ok (.idiv, 1) := by decide +kernel
theorem dc_Sink_byteAt_15 : decode cb_Sink_byteAt 15 = .ok (.aload_n 0, 1) := by decide +kernel
theorem dc_Sink_byteAt_16 : decode cb_Sink_byteAt 16 = .ok (.getfield 23, 3) := by decide +kernel
theorem dc_Sink_byteAt_19 : decode cb_Sink_byteAt 19 = .ok (.invokevirtual 31, 3) := by decide +kernel
theorem dc_Sink_byteAt_22 : decode cb_Sink_byteAt 22 = .ok (.if_icmp .lt 5, 3) := by decide +kernel
theorem dc_Sink_byteAt_25 : decode cb_Sink_byteAt 25 = .ok (.iconst (-1), 1) := by decide +kernel
theorem dc_Sink_byteAt_26 : decode cb_Sink_byteAt 26 = .ok (.ireturn, 1) := by decide +kernel
theorem dc_Sink_byteAt_27 : decode cb_Sink_byteAt 27 = .ok (.aload_n 0, 1) := by decide +kernel
theorem dc_Sink_byteAt_28 : decode cb_Sink_byteAt 28 = .ok (.aload_n 0, 1) := by decide +kernel
theorem dc_Sink_byteAt_29 : decode cb_Sink_byteAt 29 = .ok (.getfield 23, 3) := by decide +kernel
theorem dc_Sink_byteAt_32 : decode cb_Sink_byteAt 32 = .ok (.iload_n 1, 1) := by decide +kernel
theorem dc_Sink_byteAt_33 : decode cb_Sink_byteAt 33 = .ok (.iload_n 2, 1) := by decide +kernel
theorem dc_Sink_byteAt_34 : decode cb_Sink_byteAt 34 = .ok (.idiv, 1) := by decide +kernel
theorem dc_Sink_byteAt_35 : decode cb_Sink_byteAt 35 = .ok (.invokevirtual 35, 3) := by decide +kernel
theorem dc_Sink_byteAt_38 : decode cb_Sink_byteAt 38 = .ok (.invokevirtual 39, 3) := by decide +kernel
theorem dc_Sink_byteAt_41 : decode cb_Sink_byteAt 41 = .ok (.aload_n 0, 1) := by decide +kernel
theorem dc_Sink_byteAt_42 : decode cb_Sink_byteAt 42 = .ok (.getfield 12, 3) := by decide +kernel
theorem dc_Sink_byteAt_45 : decode cb_Sink_byteAt 45 = .ok (.iload_n 1, 1) := by decide +kernel
theorem dc_Sink_byteAt_46 : decode cb_Sink_byteAt 46 = .ok (.iload_n 2, 1) := by decide +kernel
theorem dc_Sink_byteAt_47 : decode cb_Sink_byteAt 47 = .ok (.irem, 1) := by decide +kernel
theorem dc_Sink_byteAt_48 : decode cb_Sink_byteAt 48 = .ok (.invokevirtual 42, 3) := by decide +kernel
theorem dc_Sink_byteAt_51 : decode cb_Sink_byteAt 51 = .ok (.ishr, 1) := by decide +kernel
theorem dc_Sink_byteAt_52 : decode cb_Sink_byteAt 52 = .ok (.sipush 255, 3) := by decide +kernel
theorem dc_Sink_byteAt_55 : decode cb_Sink_byteAt 55 = .ok (.iand, 1) := by decide +kernel
theorem dc_Sink_byteAt_56 : decode cb_Sink_byteAt 56 = .ok (.ireturn, 1) := by decide +kernel
theorem yk_Sink_byteAt : fq_Y my_Sink_byteAt cb_Sink_byteAt 3 (some .int) 1 := ⟨wd_734, wd_34, by decide +kernel⟩
theorem dc_Sink_tone_0 : decode cb_Sink_tone 0 = .ok (.aload_n 0, 1) := by decide +kernel
theorem dc_Sink_tone_1 : decode cb_Sink_tone 1 = .ok (.getfield 23, 3) := by decide +kernel
theorem dc_Sink_tone_4 : decode cb_Sink_tone 4 = .ok (.invokevirtual 31, 3) := by decide +kernel
theorem dc_Sink_tone_7 : decode cb_Sink_tone 7 = .ok (.aload_n 0, 1) := by decide +kernel
theorem dc_Sink_tone_8 : decode cb_Sink_tone 8 = .ok (.getfield 23, 3) := by decide +kernel
theorem dc_Sink_tone_11 : decode cb_Sink_tone 11 = .ok (.invokevirtual 31, 3) := by decide +kernel
theorem dc_Sink_tone_14 : decode cb_Sink_tone 14 = .ok (.bipush 12, 2) := by decide +kernel
theorem dc_Sink_tone_16 : decode cb_Sink_tone 16 = .ok (.irem, 1) := by decide +kernel
theorem dc_Sink_tone_17 : decode cb_Sink_tone 17 = .ok (.isub, 1) := by decide +kernel
theorem dc_Sink_tone_18 : decode cb_Sink_tone 18 = .ok (.istore_n 2, 1) := by decide +kernel
theorem dc_Sink_tone_19 : decode cb_Sink_tone 19 = .ok (.iload_n 2, 1) := by decide +kernel
theorem dc_Sink_tone_20 : decode cb_Sink_tone 20 = .ok (.ifCond .ne 7, 3) := by decide +kernel
theorem dc_Sink_tone_23 : decode cb_Sink_tone 23 = .ok (.ldc2_w 56, 3) := by decide +kernel
theorem dc_Sink_tone_26 : decode cb_Sink_tone 26 = .ok (.lreturn, 1) := by decide +kernel
theorem dc_Sink_tone_27 : decode cb_Sink_tone 27 = .ok (.iconst 2, 1) := by decide +kernel
theorem dc_Sink_tone_28 : decode cb_Sink_tone 28 = .ok (.iload_n 1, 1) := by decide +kernel
theorem dc_Sink_tone_29 : decode cb_Sink_tone 29 = .ok (.isub, 1) := by decide +kernel
theorem dc_Sink_tone_30 : decode cb_Sink_tone 30 = .ok (.i2l, 1) := by decide +kernel
theorem dc_Sink_tone_31 : decode cb_Sink_tone 31 = .ok (.lstore_n 3, 1) := by decide +kernel
theorem dc_Sink_tone_32 : decode cb_Sink_tone 32 = .ok (.lconst 0, 1) := by decide +kernel
theorem dc_Sink_tone_33 : decode cb_Sink_tone 33 = .ok (.lstore 5, 2) := by decide +kernel
theorem dc_Sink_tone_35 : decode cb_Sink_tone 35 = .ok (.lconst 0, 1) := by decide +kernel
theorem dc_Sink_tone_36 : decode cb_Sink_tone 36 = .ok (.lstore 7, 2) := by decide +kernel
theorem dc_Sink_tone_38 : decode cb_Sink_tone 38 = .ok (.iload_n 2, 1) := by decide +kernel
theorem dc_Sink_tone_39 : decode cb_Sink_tone 39 = .ok (.iconst 1, 1) := by decide +kernel
theorem dc_Sink_tone_40 : decode cb_Sink_tone 40 = .ok (.isub, 1) := by decide +kernel
theorem dc_Sink_tone_41 : decode cb_Sink_tone 41 = .ok (.istore 9, 2) := by decide +kernel
theorem dc_Sink_tone_43 : decode cb_Sink_tone 43 = .ok (.iload 9, 2) := by decide +kernel
theorem dc_Sink_tone_45 : decode cb_Sink_tone 45 = .ok (.iload_n 2, 1) := by decide +kernel
theorem dc_Sink_tone_46 : decode cb_Sink_tone 46 = .ok (.bipush 12, 2) := by decide +kernel
theorem dc_Sink_tone_48 : decode cb_Sink_tone 48 = .ok (.isub, 1) := by decide +kernel
theorem dc_Sink_tone_49 : decode cb_Sink_tone 49 = .ok (.if_icmp .lt 37, 3) := by decide +kernel
theorem dc_Sink_tone_52 : decode cb_Sink_tone 52 = .ok (.lload 5, 2) := by decide +kernel
theorem dc_Sink_tone_54 : decode cb_Sink_tone 54 = .ok (.lload_n 3, 1) := by decide +kernel
theorem dc_Sink_tone_55 : decode cb_Sink_tone 55 = .ok (.lload 7, 2) := by decide +kernel
theorem dc_Sink_tone_57 : decode cb_Sink_tone 57 = .ok (.lmul, 1) := by decide +kernel
theorem dc_Sink_tone_58 : decode cb_Sink_tone 58 = .ok (.ladd, 1) := by decide +kernel
theorem dc_Sink_tone_59 : decode cb_Sink_tone 59 = .ok (.lstore 10, 2) := by decide +kernel
theorem dc_Sink_tone_61 : decode cb_Sink_tone 61 = .ok (.aload_n 0, 1) := by decide +kernel
theorem dc_Sink_tone_62 : decode cb_Sink_tone 62 = .ok (.getfield 23, 3) := by decide +kernel
theorem dc_Sink_tone_65 : decode cb_Sink_tone 65 = .ok (.iload 9, 2) := by decide +kernel
theorem dc_Sink_tone_67 : decode cb_Sink_tone 67 = .ok (.invokevirtual 35, 3) := by decide +kernel
theorem dc_Sink_tone_70 : decode cb_Sink_tone 70 = .ok (.i2l, 1) := by decide +kernel
theorem dc_Sink_tone_71 : decode cb_Sink_tone 71 = .ok (.lload 7, 2) := by decide +kernel
theorem dc_Sink_tone_73 : decode cb_Sink_tone 73 = .ok (.lsub, 1) := by decide +kernel
theorem dc_Sink_tone_74 : decode cb_Sink_tone 74 = .ok (.lstore 5, 2) := by decide +kernel
theorem dc_Sink_tone_76 : decode cb_Sink_tone 76 = .ok (.lload 10, 2) := by decide +kernel
theorem dc_Sink_tone_78 : decode cb_Sink_tone 78 = .ok (.lstore 7, 2) := by decide +kernel
theorem dc_Sink_tone_80 : decode cb_Sink_tone 80 = .ok (.iinc 9 (-1), 3) := by decide +kernel
theorem dc_Sink_tone_83 : decode cb_Sink_tone 83 = .ok (.goto (-40), 3) := by decide +kernel
theorem dc_Sink_tone_86 : decode cb_Sink_tone 86 = .ok (.lload 5, 2) := by decide +kernel
theorem dc_Sink_tone_88 : decode cb_Sink_tone 88 = .ok (.lload 5, 2) := by decide +kernel
theorem dc_Sink_tone_90 : decode cb_Sink_tone 90 = .ok (.lmul, 1) := by decide +kernel
theorem dc_Sink_tone_91 : decode cb_Sink_tone 91 = .ok (.lload_n 3, 1) := by decide +kernel
theorem dc_Sink_tone_92 : decode cb_Sink_tone 92 = .ok (.lload 5, 2) := by decide +kernel
theorem dc_Sink_tone_94 : decode cb_Sink_tone 94 = .ok (.lmul, 1) := by decide +kernel
theorem dc_Sink_tone_95 : decode cb_Sink_tone 95 = .ok (.lload 7, 2) := by decide +kernel
theorem dc_Sink_tone_97 : decode cb_Sink_tone 97 = .ok (.lmul, 1) := by decide +kernel
theorem dc_Sink_tone_98 : decode cb_Sink_tone 98 = .ok (.ladd, 1) := by decide +kernel
theorem dc_Sink_tone_99 : decode cb_Sink_tone 99 = .ok (.lload 7, 2) := by decide +kernel
theorem dc_Sink_tone_101 : decode cb_Sink_tone 101 = .ok (.lload 7, 2) := by decide +kernel
theorem dc_Sink_tone_103 : decode cb_Sink_tone 103 = .ok (.lmul, 1) := by decide +kernel
theorem dc_Sink_tone_104 : decode cb_Sink_tone 104 = .ok (.ladd, 1) := by decide +kernel
theorem dc_Sink_tone_105 : decode cb_Sink_tone 105 = .ok (.lreturn, 1) := by decide +kernel
theorem yk_Sink_tone : fq_Y my_Sink_tone cb_Sink_tone 12 (some .long) 1 := ⟨wd_759, wd_34, by decide +kernel⟩
set_option maxHeartbeats 4000000 in
set_option maxRecDepth 100000 in
theorem ct_Sink_bitsOf (l : Launch) (D : va_G) (cI cO : ClassId) (tE : Nat) (h hy hw w : Nat) (b : Bool) (x : Int32) (hw1 : 1 ≤ w) (hw4 : w ≤ 4) (hx : fm_in x.toInt) (sz : Nat) : Met l my_Sink_bitsOf (fq_w my_Sink_bitsOf cb_Sink_bitsOf 2 (some .int)) ({ frames := 1, cells := 0, slots := 0, locals := 22 }) (va_Pc ([.ref h, .int x]) (fq_Pre D cI cO tE sz ([(h, .inr (9, [.ref hy, .ref hw])), (hy, .inr (7, [.int (nI w), .int (fq_b b)]))]))) (va_Qi (S := va_W) (fun r w' => w' = [(h, .inr (9, [.ref hy, .ref hw])), (hy, .inr (7, [.int (nI w), .int (fq_b b)]))] ∧ r.toInt = sk_v w x.toInt) (fq_Bw D (va_A ([(h, .inr (9, [.ref hy, .ref hw])), (hy, .inr (7, [.int (nI w), .int (fq_b b)]))]) sz)) (va_A ([(h, .inr (9, [.ref hy, .ref hw])), (hy, .inr (7, [.int (nI w), .int (fq_b b)]))]) sz)) (0) (0) (va_A ([(h, .inr (9, [.ref hy, .ref hw])), (hy, .inr (7, [.int (nI w), .int (fq_b b)]))]) sz) := by
  refine fq_open (by decide +kernel) (Nat.le_of_ble_eq_true rfl) ?_
  intro pg ev s mt below meth cd ls K hret hlk hin hK hZ hP hD hA hS hl
  generalize va_A ([(h, .inr (9, [.ref hy, .ref hw])), (hy, .inr (7, [.int (nI w), .int (fq_b b)]))]) sz = A at hZ hD hA hS ⊢
  have K : fq_Ctx pg mt cd cb_Sink_bitsOf 2 s _ cn_Sink := K
  have hl : lv_has ls 2 [(0, .ref h), (1, .int x)] := hl
  refine lv_aload_n K.1 K.2.1 dc_Sink_bitsOf_0 rfl (lv_at hl 0 rfl) ?_
  refine fq_get K hK cl_Sink hP 0 0 rfl (by decide) wd_166 rfl dc_Sink_bitsOf_1 ?_
  refine fq_getN K hK cl_Layout hP 1 0 rfl (by decide) wn_128 rfl dc_Sink_bitsOf_4 ?_
  by_cases c7_1 : nI w = 1
  · skip
    refine lv_tableIn (off := 25) (tgt := 32) K.1 K.2.1 dc_Sink_bitsOf_7 (by rw [c7_1]; decide) (by rw [c7_1]; decide) (by rw [c7_1]; decide) rfl ?_
    refine lv_sipush (v := 128) K.1 K.2.1 dc_Sink_bitsOf_32 (by decide) ?_
    refine lv_bipush (v := 127) K.1 K.2.1 dc_Sink_bitsOf_35 (by decide) ?_
    refine lv_iload_n K.1 K.2.1 dc_Sink_bitsOf_37 rfl (lv_at hl 1 rfl) ?_
    refine lv_ldc (v := 32768) K.1 K.2.1 K.2.2.2.1 (K.2.2.2.2 _ wd_744) dc_Sink_bitsOf_38 ?_
    refine lv_iadd K.1 K.2.1 dc_Sink_bitsOf_40 ?_
    refine lv_ldc (v := 65536) K.1 K.2.1 K.2.2.2.1 (K.2.2.2.2 _ wd_745) dc_Sink_bitsOf_41 ?_
    have hc := fq_cut.of (wc := []) hP hD hS hA [] (by decide) rfl
    refine fq_ci (wr := [(h, .inr (9, [.ref hy, .ref hw])), (hy, .inr (7, [.int (nI w), .int (fq_b b)]))]) (fq_rS K hK hZ hS hc (ct_Ma_floorDiv2 l D cI cO tE (x + 32768) 65536 (by decide) _) yk_Ma_floorDiv2 wd_747 wd_746 ⟨⟨rfl, rfl⟩, ⟨Nat.le_of_ble_eq_true rfl, Nat.le_of_ble_eq_true rfl⟩, ⟨Nat.le_of_ble_eq_true rfl, Nat.le_of_ble_eq_true rfl⟩⟩ hl.1 rfl (Nat.le_of_ble_eq_true rfl) dc_Sink_bitsOf_43) hP hD hS hc [] [0, 1] rfl rfl (by decide) (by decide) (fun r1 w H locs hw1 hP hD hS => ?_)
    obtain ⟨rfl, hd1⟩ := hw1
    have hP : va_P D fq_cl ([(h, .inr (9, [.ref hy, .ref hw])), (hy, .inr (7, [.int (nI w), .int (fq_b b)]))]) _ := hP
    have hD : va_D A ([(h, .inr (9, [.ref hy, .ref hw])), (hy, .inr (7, [.int (nI w), .int (fq_b b)]))]) := hD
    refine va_mmin K.1 K.2.1 (K.2.2.1.trans hl.1.symm) K.2.2.2.1 (K.2.2.2.2 _ wd_749) (K.2.2.2.2 _ wd_176) (K.2.2.2.2 _ wd_35) (K.2.2.2.2 _ wd_177) (Nat.le_of_ble_eq_true rfl) (Nat.le_of_ble_eq_true rfl) (Nat.le_of_ble_eq_true rfl) (Nat.le_of_ble_eq_true rfl) dc_Sink_bitsOf_46 ?_
    refine lv_iadd K.1 K.2.1 dc_Sink_bitsOf_49 ?_
    exact fq_reti K hret hlk hS hP hD ⟨rfl, sk_1 hw4 hx c7_1 hd1⟩ dc_Sink_bitsOf_50 (Nat.le_of_ble_eq_true rfl) (Nat.le_of_ble_eq_true rfl)
  by_cases c7_2 : nI w = 2
  · skip
    refine lv_tableIn (off := 44) (tgt := 51) K.1 K.2.1 dc_Sink_bitsOf_7 (by rw [c7_2]; decide) (by rw [c7_2]; decide) (by rw [c7_2]; decide) rfl ?_
    refine lv_sipush (v := 32767) K.1 K.2.1 dc_Sink_bitsOf_51 (by decide) ?_
    refine lv_iload_n K.1 K.2.1 dc_Sink_bitsOf_54 rfl (lv_at hl 1 rfl) ?_
    refine lv_sipush (v := 128) K.1 K.2.1 dc_Sink_bitsOf_55 (by decide) ?_
    refine lv_iadd K.1 K.2.1 dc_Sink_bitsOf_58 ?_
    refine lv_sipush (v := 256) K.1 K.2.1 dc_Sink_bitsOf_59 (by decide) ?_
    have hc := fq_cut.of (wc := []) hP hD hS hA [] (by decide) rfl
    refine fq_ci (wr := [(h, .inr (9, [.ref hy, .ref hw])), (hy, .inr (7, [.int (nI w), .int (fq_b b)]))]) (fq_rS K hK hZ hS hc (ct_Ma_floorDiv2 l D cI cO tE (x + 128) 256 (by decide) _) yk_Ma_floorDiv2 wd_747 wd_746 ⟨⟨rfl, rfl⟩, ⟨Nat.le_of_ble_eq_true rfl, Nat.le_of_ble_eq_true rfl⟩, ⟨Nat.le_of_ble_eq_true rfl, Nat.le_of_ble_eq_true rfl⟩⟩ hl.1 rfl (Nat.le_of_ble_eq_true rfl) dc_Sink_bitsOf_62) hP hD hS hc [] [0, 1] rfl rfl (by decide) (by decide) (fun r2 w H locs hw2 hP hD hS => ?_)
    obtain ⟨rfl, hd2⟩ := hw2
    have hP : va_P D fq_cl ([(h, .inr (9, [.ref hy, .ref hw])), (hy, .inr (7, [.int (nI w), .int (fq_b b)]))]) _ := hP
    have hD : va_D A ([(h, .inr (9, [.ref hy, .ref hw])), (hy, .inr (7, [.int (nI w), .int (fq_b b)]))]) := hD
    refine va_mmin K.1 K.2.1 (K.2.2.1.trans hl.1.symm) K.2.2.2.1 (K.2.2.2.2 _ wd_749) (K.2.2.2.2 _ wd_176) (K.2.2.2.2 _ wd_35) (K.2.2.2.2 _ wd_177) (Nat.le_of_ble_eq_true rfl) (Nat.le_of_ble_eq_true rfl) (Nat.le_of_ble_eq_true rfl) (Nat.le_of_ble_eq_true rfl) dc_Sink_bitsOf_65 ?_
    exact fq_reti K hret hlk hS hP hD ⟨rfl, sk_2 hw4 hx c7_2 hd2⟩ dc_Sink_bitsOf_68 (Nat.le_of_ble_eq_true rfl) (Nat.le_of_ble_eq_true rfl)
  by_cases c7_3 : nI w = 3
  · skip
    refine lv_tableIn (off := 62) (tgt := 69) K.1 K.2.1 dc_Sink_bitsOf_7 (by rw [c7_3]; decide) (by rw [c7_3]; decide) (by rw [c7_3]; decide) rfl ?_
    refine lv_iload_n K.1 K.2.1 dc_Sink_bitsOf_69 rfl (lv_at hl 1 rfl) ?_
    exact fq_reti K hret hlk hS hP hD ⟨rfl, sk_3 hw4 c7_3⟩ dc_Sink_bitsOf_70 (Nat.le_of_ble_eq_true rfl) (Nat.le_of_ble_eq_true rfl)
  refine lv_tableOut (tgt := 71) K.1 K.2.1 dc_Sink_bitsOf_7 ((by have e1 := nI_toInt (n := w) (by omega); right; rw [e1]; exact ns_out hw1 c7_1 c7_2 c7_3)) rfl ?_
  refine lv_sipush (v := 256) K.1 K.2.1 dc_Sink_bitsOf_71 (by decide) ?_
  refine lv_iload_n K.1 K.2.1 dc_Sink_bitsOf_74 rfl (lv_at hl 1 rfl) ?_
  refine lv_imul K.1 K.2.1 dc_Sink_bitsOf_75 ?_
  exact fq_reti K hret hlk hS hP hD ⟨rfl, sk_4 hw1 hx c7_1 c7_2 c7_3⟩ dc_Sink_bitsOf_76 (Nat.le_of_ble_eq_true rfl) (Nat.le_of_ble_eq_true rfl)
set_option maxHeartbeats 4000000 in
set_option maxRecDepth 100000 in
theorem ct_Sink_byteAt (l : Launch) (D : va_G) (cI cO : ClassId) (tE : Nat) (h hy hw aw w : Nat) (b : Bool) (f : Nat → Int32) (i : Nat) (L : List Int32) (x : Int32) (hrow : rw_ok 2286 f i L) (hw1 : 1 ≤ w) (hw4 : w ≤ 4) (hall : ∀ v ∈ L, fm_in v.toInt) (sz : Nat) : Met l my_Sink_byteAt (fq_w my_Sink_byteAt cb_Sink_byteAt 3 (some .int)) ({ frames := 2, cells := 0, slots := 0, locals := 43 }) (va_Pc ([.ref h, .int x]) (fq_Pre D cI cO tE sz ([(h, .inr (9, [.ref hy, .ref hw])), (hy, .inr (7, [.int (nI w), .int (fq_b b)])), (hw, .inr (0, [.ref aw, .int (nI i), .int (nI L.length)])), (aw, .inl (cI, 2286, .inl f))]))) (va_Qi (S := va_W) (fun r w' => w' = [(h, .inr (9, [.ref hy, .ref hw])), (hy, .inr (7, [.int (nI w), .int (fq_b b)])), (hw, .inr (0, [.ref aw, .int (nI i), .int (nI L.length)])), (aw, .inl (cI, 2286, .inl f))] ∧ r.toInt = sk_b w b (L.map Int32.toInt) x) (fq_Bw D (va_A ([(h, .inr (9, [.ref hy, .ref hw])), (hy, .inr (7, [.int (nI w), .int (fq_b b)])), (hw, .inr (0, [.ref aw, .int (nI i), .int (nI L.length)])), (aw, .inl (cI, 2286, .inl f))]) sz)) (va_A ([(h, .inr (9, [.ref hy, .ref hw])), (hy, .inr (7, [.int (nI w), .int (fq_b b)])), (hw, .inr (0, [.ref aw, .int (nI i), .int (nI L.length)])), (aw, .inl (cI, 2286, .inl f))]) sz)) (0) (0) (va_A ([(h, .inr (9, [.ref hy, .ref hw])), (hy, .inr (7, [.int (nI w), .int (fq_b b)])), (hw, .inr (0, [.ref aw, .int (nI i), .int (nI L.length)])), (aw, .inl (cI, 2286, .inl f))]) sz) := by
  refine fq_open (by decide +kernel) (Nat.le_of_ble_eq_true rfl) ?_
  intro pg ev s mt below meth cd ls K hret hlk hin hK hZ hP hD hA hS hl
  generalize va_A ([(h, .inr (9, [.ref hy, .ref hw])), (hy, .inr (7, [.int (nI w), .int (fq_b b)])), (hw, .inr (0, [.ref aw, .int (nI i), .int (nI L.length)])), (aw, .inl (cI, 2286, .inl f))]) sz = A at hZ hD hA hS ⊢
  have K : fq_Ctx pg mt cd cb_Sink_byteAt 3 s _ cn_Sink := K
  have hl : lv_has ls 3 [(0, .ref h), (1, .int x)] := hl
  have hLn := hrow.2.2.2.1
  refine lv_aload_n K.1 K.2.1 dc_Sink_byteAt_0 rfl (lv_at hl 0 rfl) ?_
  refine fq_get K hK cl_Sink hP 0 0 rfl (by decide) wd_166 rfl dc_Sink_byteAt_1 ?_
  refine fq_getN K hK cl_Layout hP 1 0 rfl (by decide) wn_128 rfl dc_Sink_byteAt_4 ?_
  refine lv_istore_n K.1 K.2.1 dc_Sink_byteAt_7 rfl hl (by decide) rfl (fun ls hl => ?_)
  have hl : lv_has ls 3 [(2, .int (nI w)), (0, .ref h), (1, .int x)] := hl
  refine lv_iload_n K.1 K.2.1 dc_Sink_byteAt_8 rfl (lv_at hl 2 rfl) ?_
  refine lv_if_lt (tgt := 25) K.1 K.2.1 dc_Sink_byteAt_9 rfl (fun b9 => ?_) (fun b9 => ?_)
  · skip
    refine lv_iconst (v := (-1)) K.1 K.2.1 dc_Sink_byteAt_25 (by decide) ?_
    exact fq_reti K hret hlk hS hP hD ⟨rfl, by first | exact sk_bn b9 | exact sk_bh hk hx b22⟩ dc_Sink_byteAt_26 (Nat.le_of_ble_eq_true rfl) (Nat.le_of_ble_eq_true rfl)
  · skip
    obtain ⟨k, hk, hx⟩ := nI_of b9
    have hkw : k / w ≤ k := Nat.div_le_self k w
    have hkm := Nat.mod_lt k (show 0 < w by omega)
    refine lv_iload_n K.1 K.2.1 dc_Sink_byteAt_12 rfl (lv_at hl 2 rfl) ?_
    refine lv_iload_n K.1 K.2.1 dc_Sink_byteAt_13 rfl (lv_at hl 0 rfl) ?_
    refine lv_idiv K.1 K.2.1 dc_Sink_byteAt_14 (nI_ne0 (by omega) (by omega)) ?_
    refine fq_asi (y := nI (k / w)) (by rw [hx]; exact pk_div hk (by omega) (by omega)) ?_
    refine lv_aload_n K.1 K.2.1 dc_Sink_byteAt_15 rfl (lv_at hl 1 rfl) ?_
    refine fq_get K hK cl_Sink hP 0 1 rfl (by decide) wd_168 rfl dc_Sink_byteAt_16 ?_
    have hc := fq_cut.of (wc := [(hw, .inr (0, [.ref aw, .int (nI i), .int (nI L.length)])), (aw, .inl (cI, 2286, .inl f))]) hP hD hS hA [2, 3] (by decide) rfl
    refine fq_ci (wr := [(h, .inr (9, [.ref hy, .ref hw])), (hy, .inr (7, [.int (nI w), .int (fq_b b)]))]) (fq_rV K hK hZ hS hc (ct_Row_size l D cI cO tE hw aw 2286 f i L hrow _) yk_Row_size wd_574 wd_575 wd_735 0 rfl rfl rfl ⟨⟨rfl, rfl⟩, ⟨Nat.le_of_ble_eq_true rfl, Nat.le_of_ble_eq_true rfl⟩, ⟨Nat.le_of_ble_eq_true rfl, Nat.le_of_ble_eq_true rfl⟩⟩ hl.1 rfl (Nat.le_of_ble_eq_true rfl) dc_Sink_byteAt_19) hP hD hS hc [2, 3] [0, 1] rfl rfl (by decide) (by decide) (fun r1 w H locs hw1 hP hD hS => ?_)
    obtain ⟨rfl, rfl⟩ := hw1
    have hP : va_P D fq_cl ([(h, .inr (9, [.ref hy, .ref hw])), (hy, .inr (7, [.int (nI w), .int (fq_b b)])), (hw, .inr (0, [.ref aw, .int (nI i), .int (nI L.length)])), (aw, .inl (cI, 2286, .inl f))]) _ := hP
    have hD : va_D A ([(h, .inr (9, [.ref hy, .ref hw])), (hy, .inr (7, [.int (nI w), .int (fq_b b)])), (hw, .inr (0, [.ref aw, .int (nI i), .int (nI L.length)])), (aw, .inl (cI, 2286, .inl f))]) := hD
    refine lv_icmp_lt (tgt := 27) K.1 K.2.1 dc_Sink_byteAt_22 rfl (fun b22 => ?_) (fun b22 => ?_)
    · skip
      rw [nI_ltI (by omega) (by omega)] at b22
      refine lv_aload_n K.1 K.2.1 dc_Sink_byteAt_27 rfl (lv_at hl 1 rfl) ?_
      refine lv_aload_n K.1 K.2.1 dc_Sink_byteAt_28 rfl (lv_at hl 1 rfl) ?_
      refine fq_get K hK cl_Sink hP 0 1 rfl (by decide) wd_168 rfl dc_Sink_byteAt_29 ?_
      refine lv_iload_n K.1 K.2.1 dc_Sink_byteAt_32 rfl (lv_at hl 2 rfl) ?_
      refine lv_iload_n K.1 K.2.1 dc_Sink_byteAt_33 rfl (lv_at hl 0 rfl) ?_
      refine lv_idiv K.1 K.2.1 dc_Sink_byteAt_34 (nI_ne0 (by omega) (by omega)) ?_
      refine fq_asi (y := nI (k / w)) (by rw [hx]; exact pk_div hk (by omega) (by omega)) ?_
      have hc := fq_cut.of (wc := [(hw, .inr (0, [.ref aw, .int (nI i), .int (nI L.length)])), (aw, .inl (cI, 2286, .inl f))]) hP hD hS hA [2, 3] (by decide) rfl
      refine fq_ci (wr := [(h, .inr (9, [.ref hy, .ref hw])), (hy, .inr (7, [.int (nI w), .int (fq_b b)]))]) (fq_rV K hK hZ hS hc (ct_Row_get l D cI cO tE hw aw 2286 f i L (nI (k / w)) hrow _) yk_Row_get wd_737 wd_738 wd_736 0 rfl rfl rfl ⟨⟨rfl, rfl⟩, ⟨Nat.le_of_ble_eq_true rfl, Nat.le_of_ble_eq_true rfl⟩, ⟨Nat.le_of_ble_eq_true rfl, Nat.le_of_ble_eq_true rfl⟩⟩ hl.1 rfl (Nat.le_of_ble_eq_true rfl) dc_Sink_byteAt_35) hP hD hS hc [2, 3] [0, 1] rfl rfl (by decide) (by decide) (fun r2 w H locs hw2 hP hD hS => ?_)
      obtain ⟨rfl, rfl⟩ := hw2
      have hP : va_P D fq_cl ([(h, .inr (9, [.ref hy, .ref hw])), (hy, .inr (7, [.int (nI w), .int (fq_b b)])), (hw, .inr (0, [.ref aw, .int (nI i), .int (nI L.length)])), (aw, .inl (cI, 2286, .inl f))]) _ := hP
      have hD : va_D A ([(h, .inr (9, [.ref hy, .ref hw])), (hy, .inr (7, [.int (nI w), .int (fq_b b)])), (hw, .inr (0, [.ref aw, .int (nI i), .int (nI L.length)])), (aw, .inl (cI, 2286, .inl f))]) := hD
      refine fq_asi (y := L.getD (k / w) 0) (rw_getN (by omega)) ?_
      have hc := fq_cut.of (wc := [(h, .inr (9, [.ref hy, .ref hw])), (hy, .inr (7, [.int (nI w), .int (fq_b b)]))]) hP hD hS hA [0, 1] (by decide) rfl
      refine fq_ci (wr := [(hw, .inr (0, [.ref aw, .int (nI i), .int (nI L.length)])), (aw, .inl (cI, 2286, .inl f))]) (fq_rV K hK hZ hS hc (ct_Sink_bitsOf l D cI cO tE h hy hw w b (L.getD (k / w) 0) hw1 hw4 (sk_in hall) _) yk_Sink_bitsOf wd_742 wd_12 wd_740 0 rfl rfl rfl ⟨⟨rfl, rfl⟩, ⟨Nat.le_of_ble_eq_true rfl, Nat.le_of_ble_eq_true rfl⟩, ⟨Nat.le_of_ble_eq_true rfl, Nat.le_of_ble_eq_true rfl⟩⟩ hl.1 rfl (Nat.le_of_ble_eq_true rfl) dc_Sink_byteAt_38) hP hD hS hc [0, 1] [2, 3] rfl rfl (by decide) (by decide) (fun r3 w H locs hw3 hP hD hS => ?_)
      obtain ⟨rfl, hbit1⟩ := hw3
      have hP : va_P D fq_cl ([(hw, .inr (0, [.ref aw, .int (nI i), .int (nI L.length)])), (aw, .inl (cI, 2286, .inl f)), (h, .inr (9, [.ref hy, .ref hw])), (hy, .inr (7, [.int (nI w), .int (fq_b b)]))]) _ := hP
      have hD : va_D A ([(hw, .inr (0, [.ref aw, .int (nI i), .int (nI L.length)])), (aw, .inl (cI, 2286, .inl f)), (h, .inr (9, [.ref hy, .ref hw])), (hy, .inr (7, [.int (nI w), .int (fq_b b)]))]) := hD
      refine lv_aload_n K.1 K.2.1 dc_Sink_byteAt_41 rfl (lv_at hl 1 rfl) ?_
      refine fq_get K hK cl_Sink hP 2 0 rfl (by decide) wd_166 rfl dc_Sink_byteAt_42 ?_
      refine lv_iload_n K.1 K.2.1 dc_Sink_byteAt_45 rfl (lv_at hl 2 rfl) ?_
      refine lv_iload_n K.1 K.2.1 dc_Sink_byteAt_46 rfl (lv_at hl 0 rfl) ?_
      refine lv_irem K.1 K.2.1 dc_Sink_byteAt_47 (nI_ne0 (by omega) (by omega)) ?_
      refine fq_asi (y := nI (k % w)) (by rw [hx]; exact pk_rem hk (by omega) (by omega)) ?_
      have hc := fq_cut.of (wc := [(hy, .inr (7, [.int (nI w), .int (fq_b b)]))]) hP hD hS hA [3] (by decide) rfl
      refine fq_ci (wr := [(hw, .inr (0, [.ref aw, .int (nI i), .int (nI L.length)])), (aw, .inl (cI, 2286, .inl f)), (h, .inr (9, [.ref hy, .ref hw]))]) (fq_rV K hK hZ hS hc (ct_Layout_shiftOf l D cI cO tE hy w b (k % w) hkm (by omega) _) yk_Layout_shiftOf wd_598 wd_599 wd_750 0 rfl rfl rfl ⟨⟨rfl, rfl⟩, ⟨Nat.le_of_ble_eq_true rfl, Nat.le_of_ble_eq_true rfl⟩, ⟨Nat.le_of_ble_eq_true rfl, Nat.le_of_ble_eq_true rfl⟩⟩ hl.1 rfl (Nat.le_of_ble_eq_true rfl) dc_Sink_byteAt_48) hP hD hS hc [3] [0, 1, 2] rfl rfl (by decide) (by decide) (fun r4 w H locs hw4 hP hD hS => ?_)
      obtain ⟨rfl, rfl⟩ := hw4
      have hP : va_P D fq_cl ([(hw, .inr (0, [.ref aw, .int (nI i), .int (nI L.length)])), (aw, .inl (cI, 2286, .inl f)), (h, .inr (9, [.ref hy, .ref hw])), (hy, .inr (7, [.int (nI w), .int (fq_b b)]))]) _ := hP
      have hD : va_D A ([(hw, .inr (0, [.ref aw, .int (nI i), .int (nI L.length)])), (aw, .inl (cI, 2286, .inl f)), (h, .inr (9, [.ref hy, .ref hw])), (hy, .inr (7, [.int (nI w), .int (fq_b b)]))]) := hD
      refine lv_ishr K.1 K.2.1 dc_Sink_byteAt_51 ?_
      refine lv_sipush (v := 255) K.1 K.2.1 dc_Sink_byteAt_52 (by decide) ?_
      refine lv_iand K.1 K.2.1 dc_Sink_byteAt_55 ?_
      have hP := hP.sub (ws' := [(h, .inr (9, [.ref hy, .ref hw])), (hy, .inr (7, [.int (nI w), .int (fq_b b)])), (hw, .inr (0, [.ref aw, .int (nI i), .int (nI L.length)])), (aw, .inl (cI, 2286, .inl f))]) [2, 3, 0, 1] rfl
      have hD := hD.sub (ws' := [(h, .inr (9, [.ref hy, .ref hw])), (hy, .inr (7, [.int (nI w), .int (fq_b b)])), (hw, .inr (0, [.ref aw, .int (nI i), .int (nI L.length)])), (aw, .inl (cI, 2286, .inl f))]) [2, 3, 0, 1] (by decide) rfl
      exact fq_reti K hret hlk hS hP hD ⟨rfl, sk_bv hw4 hkm hk hx b22 hbit1⟩ dc_Sink_byteAt_56 (Nat.le_of_ble_eq_true rfl) (Nat.le_of_ble_eq_true rfl)
    · skip
      rw [nI_ltI (by omega) (by omega)] at b22
      refine lv_iconst (v := (-1)) K.1 K.2.1 dc_Sink_byteAt_25 (by decide) ?_
      exact fq_reti K hret hlk hS hP hD ⟨rfl, by first | exact sk_bn b9 | exact sk_bh hk hx b22⟩ dc_Sink_byteAt_26 (Nat.le_of_ble_eq_true rfl) (Nat.le_of_ble_eq_true rfl)
set_option maxHeartbeats 4000000 in
set_option maxRecDepth 100000 in
theorem ct_Sink_tone (l : Launch) (D : va_G) (cI cO : ClassId) (tE : Nat) (h hy hw aw w : Nat) (b : Bool) (f : Nat → Int32) (i : Nat) (L : List Int32) (x : Int32) (hrow : rw_ok 2286 f i L)  (sz : Nat) : Met l my_Sink_tone (fq_w my_Sink_tone cb_Sink_tone 12 (some .long)) ({ frames := 1, cells := 0, slots := 0, locals := 21 }) (va_Pc ([.ref h, .int x]) (fq_Pre D cI cO tE sz ([(h, .inr (9, [.ref hy, .ref hw])), (hy, .inr (7, [.int (nI w), .int (fq_b b)])), (hw, .inr (0, [.ref aw, .int (nI i), .int (nI L.length)])), (aw, .inl (cI, 2286, .inl f))]))) (va_Ql (S := va_W) (fun r w' => w' = [(h, .inr (9, [.ref hy, .ref hw])), (hy, .inr (7, [.int (nI w), .int (fq_b b)])), (hw, .inr (0, [.ref aw, .int (nI i), .int (nI L.length)])), (aw, .inl (cI, 2286, .inl f))] ∧ r = tn_r (2 - x).toInt64 L) (fq_Bw D (va_A ([(h, .inr (9, [.ref hy, .ref hw])), (hy, .inr (7, [.int (nI w), .int (fq_b b)])), (hw, .inr (0, [.ref aw, .int (nI i), .int (nI L.length)])), (aw, .inl (cI, 2286, .inl f))]) sz)) (va_A ([(h, .inr (9, [.ref hy, .ref hw])), (hy, .inr (7, [.int (nI w), .int (fq_b b)])), (hw, .inr (0, [.ref aw, .int (nI i), .int (nI L.length)])), (aw, .inl (cI, 2286, .inl f))]) sz)) (0) (0) (va_A ([(h, .inr (9, [.ref hy, .ref hw])), (hy, .inr (7, [.int (nI w), .int (fq_b b)])), (hw, .inr (0, [.ref aw, .int (nI i), .int (nI L.length)])), (aw, .inl (cI, 2286, .inl f))]) sz) := by
  refine fq_open (by decide +kernel) (Nat.le_of_ble_eq_true rfl) ?_
  intro pg ev s mt below meth cd ls K hret hlk hin hK hZ hP hD hA hS hl
  generalize va_A ([(h, .inr (9, [.ref hy, .ref hw])), (hy, .inr (7, [.int (nI w), .int (fq_b b)])), (hw, .inr (0, [.ref aw, .int (nI i), .int (nI L.length)])), (aw, .inl (cI, 2286, .inl f))]) sz = A at hZ hD hA hS ⊢
  have K : fq_Ctx pg mt cd cb_Sink_tone 12 s _ cn_Sink := K
  have hl : lv_has ls 12 [(0, .ref h), (1, .int x)] := hl
  have hLn := hrow.2.2.2.1
  have hmd : L.length % 12 ≤ L.length := Nat.mod_le _ _
  have hm12 := Nat.mod_lt L.length (show 0 < 12 by decide)
  refine lv_aload_n K.1 K.2.1 dc_Sink_tone_0 rfl (lv_at hl 0 rfl) ?_
  refine fq_get K hK cl_Sink hP 0 1 rfl (by decide) wd_168 rfl dc_Sink_tone_1 ?_
  have hc := fq_cut.of (wc := [(hw, .inr (0, [.ref aw, .int (nI i), .int (nI L.length)])), (aw, .inl (cI, 2286, .inl f))]) hP hD hS hA [2, 3] (by decide) rfl
  refine fq_ci (wr := [(h, .inr (9, [.ref hy, .ref hw])), (hy, .inr (7, [.int (nI w), .int (fq_b b)]))]) (fq_rV K hK hZ hS hc (ct_Row_size l D cI cO tE hw aw 2286 f i L hrow _) yk_Row_size wd_574 wd_575 wd_735 0 rfl rfl rfl ⟨⟨rfl, rfl⟩, ⟨Nat.le_of_ble_eq_true rfl, Nat.le_of_ble_eq_true rfl⟩, ⟨Nat.le_of_ble_eq_true rfl, Nat.le_of_ble_eq_true rfl⟩⟩ hl.1 rfl (Nat.le_of_ble_eq_true rfl) dc_Sink_tone_4) hP hD hS hc [2, 3] [0, 1] rfl rfl (by decide) (by decide) (fun r1 w H locs hw1 hP hD hS => ?_)
  obtain ⟨rfl, rfl⟩ := hw1
  have hP : va_P D fq_cl ([(h, .inr (9, [.ref hy, .ref hw])), (hy, .inr (7, [.int (nI w), .int (fq_b b)])), (hw, .inr (0, [.ref aw, .int (nI i), .int (nI L.length)])), (aw, .inl (cI, 2286, .inl f))]) _ := hP
  have hD : va_D A ([(h, .inr (9, [.ref hy, .ref hw])), (hy, .inr (7, [.int (nI w), .int (fq_b b)])), (hw, .inr (0, [.ref aw, .int (nI i), .int (nI L.length)])), (aw, .inl (cI, 2286, .inl f))]) := hD
  refine lv_aload_n K.1 K.2.1 dc_Sink_tone_7 rfl (lv_at hl 0 rfl) ?_
  refine fq_get K hK cl_Sink hP 0 1 rfl (by decide) wd_168 rfl dc_Sink_tone_8 ?_
  have hc := fq_cut.of (wc := [(hw, .inr (0, [.ref aw, .int (nI i), .int (nI L.length)])), (aw, .inl (cI, 2286, .inl f))]) hP hD hS hA [2, 3] (by decide) rfl
  refine fq_ci (wr := [(h, .inr (9, [.ref hy, .ref hw])), (hy, .inr (7, [.int (nI w), .int (fq_b b)]))]) (fq_rV K hK hZ hS hc (ct_Row_size l D cI cO tE hw aw 2286 f i L hrow _) yk_Row_size wd_574 wd_575 wd_735 0 rfl rfl rfl ⟨⟨rfl, rfl⟩, ⟨Nat.le_of_ble_eq_true rfl, Nat.le_of_ble_eq_true rfl⟩, ⟨Nat.le_of_ble_eq_true rfl, Nat.le_of_ble_eq_true rfl⟩⟩ hl.1 rfl (Nat.le_of_ble_eq_true rfl) dc_Sink_tone_11) hP hD hS hc [2, 3] [0, 1] rfl rfl (by decide) (by decide) (fun r2 w H locs hw2 hP hD hS => ?_)
  obtain ⟨rfl, rfl⟩ := hw2
  have hP : va_P D fq_cl ([(h, .inr (9, [.ref hy, .ref hw])), (hy, .inr (7, [.int (nI w), .int (fq_b b)])), (hw, .inr (0, [.ref aw, .int (nI i), .int (nI L.length)])), (aw, .inl (cI, 2286, .inl f))]) _ := hP
  have hD : va_D A ([(h, .inr (9, [.ref hy, .ref hw])), (hy, .inr (7, [.int (nI w), .int (fq_b b)])), (hw, .inr (0, [.ref aw, .int (nI i), .int (nI L.length)])), (aw, .inl (cI, 2286, .inl f))]) := hD
  refine lv_bipush (v := 12) K.1 K.2.1 dc_Sink_tone_14 (by decide) ?_
  refine lv_irem K.1 K.2.1 dc_Sink_tone_16 (by decide) ?_
  refine fq_asi (y := nI (L.length % 12)) (pk_rem (d := 12) (by omega) (by decide) (by decide)) ?_
  refine lv_isub K.1 K.2.1 dc_Sink_tone_17 ?_
  refine fq_asi (y := nI (L.length - L.length % 12)) (pk_sub hmd) ?_
  refine lv_istore_n K.1 K.2.1 dc_Sink_tone_18 rfl hl (by decide) rfl (fun ls hl => ?_)
  have hl : lv_has ls 12 [(2, .int (nI (L.length - L.length % 12))), (0, .ref h), (1, .int x)] := hl
  refine lv_iload_n K.1 K.2.1 dc_Sink_tone_19 rfl (lv_at hl 0 rfl) ?_
  refine lv_if_ne (tgt := 27) K.1 K.2.1 dc_Sink_tone_20 rfl (fun b20 => ?_) (fun b20 => ?_)
  · skip
    have hen : 12 ≤ (L.length - L.length % 12) := tn_en (fun z => b20 (by rw [z, nI_0]))
    refine lv_iconst (v := 2) K.1 K.2.1 dc_Sink_tone_27 (by decide) ?_
    refine lv_iload_n K.1 K.2.1 dc_Sink_tone_28 rfl (lv_at hl 2 rfl) ?_
    refine lv_isub K.1 K.2.1 dc_Sink_tone_29 ?_
    refine lv_i2l K.1 K.2.1 dc_Sink_tone_30 rfl ?_
    refine lv_topl (fun v1 e_v1 => ?_)
    refine lv_lstore_n K.1 K.2.1 dc_Sink_tone_31 rfl hl (by decide) rfl (fun ls hl => ?_)
    have hl : lv_has ls 12 [(3, .long v1), (2, .int (nI (L.length - L.length % 12))), (0, .ref h), (1, .int x)] := hl
    refine lv_lconst (v := 0) K.1 K.2.1 dc_Sink_tone_32 (by decide) ?_
    refine lv_lstore K.1 K.2.1 dc_Sink_tone_33 hl (by decide) rfl (fun ls hl => ?_)
    have hl : lv_has ls 12 [(5, .long 0), (3, .long v1), (2, .int (nI (L.length - L.length % 12))), (0, .ref h), (1, .int x)] := hl
    refine lv_lconst (v := 0) K.1 K.2.1 dc_Sink_tone_35 (by decide) ?_
    refine lv_lstore K.1 K.2.1 dc_Sink_tone_36 hl (by decide) rfl (fun ls hl => ?_)
    have hl : lv_has ls 12 [(7, .long 0), (5, .long 0), (3, .long v1), (2, .int (nI (L.length - L.length % 12))), (0, .ref h), (1, .int x)] := hl
    refine lv_iload_n K.1 K.2.1 dc_Sink_tone_38 rfl (lv_at hl 3 rfl) ?_
    refine lv_iconst (v := 1) K.1 K.2.1 dc_Sink_tone_39 (by decide) ?_
    refine lv_isub K.1 K.2.1 dc_Sink_tone_40 ?_
    refine fq_asi (y := nI ((L.length - L.length % 12) - 0) - 1) (by rw [Nat.sub_zero]) ?_
    refine lv_istore K.1 K.2.1 dc_Sink_tone_41 hl (by decide) rfl (fun ls hl => ?_)
    have hl : lv_has ls 12 [(9, .int (nI ((L.length - L.length % 12) - 0) - 1)), (7, .long 0), (5, .long 0), (3, .long v1), (2, .int (nI (L.length - L.length % 12))), (0, .ref h), (1, .int x)] := hl
    refine fq_lp (σ := Nat × Int64 × Int64) (fun x => 12 - x.1) (fun x H locs ls => (x.1 ≤ 12 ∧ (x.2.1, x.2.2) = tn_h v1 L (L.length - L.length % 12) x.1) ∧ lv_has ls 12 [(0, .ref h), (2, .int (nI (L.length - L.length % 12))), (3, .long v1), (5, .long x.2.1), (7, .long x.2.2), (9, .int (nI ((L.length - L.length % 12) - x.1) - 1))] ∧ va_P D fq_cl ([(h, .inr (9, [.ref hy, .ref hw])), (hy, .inr (7, [.int (nI w), .int (fq_b b)])), (hw, .inr (0, [.ref aw, .int (nI i), .int (nI L.length)])), (aw, .inl (cI, 2286, .inl f))]) H ∧ va_D A ([(h, .inr (9, [.ref hy, .ref hw])), (hy, .inr (7, [.int (nI w), .int (fq_b b)])), (hw, .inr (0, [.ref aw, .int (nI i), .int (nI L.length)])), (aw, .inl (cI, 2286, .inl f))]) ∧ va_S A s.heap H locs) ?_ (0, 0, 0) _ _ _ ⟨⟨Nat.zero_le _, rfl⟩, lv_sub hl [5, 4, 3, 2, 1, 0] rfl, hP, hD, hS⟩
    rintro ⟨n, on, ot⟩ H locs ls ⟨hI43, hl, hP, hD, hS⟩ ih43
    have hI43 : n ≤ 12 ∧ (on, ot) = tn_h v1 L (L.length - L.length % 12) n := hI43
    have hl : lv_has ls 12 [(0, .ref h), (2, .int (nI (L.length - L.length % 12))), (3, .long v1), (5, .long on), (7, .long ot), (9, .int (nI ((L.length - L.length % 12) - n) - 1))] := hl
    have hP : va_P D fq_cl ([(h, .inr (9, [.ref hy, .ref hw])), (hy, .inr (7, [.int (nI w), .int (fq_b b)])), (hw, .inr (0, [.ref aw, .int (nI i), .int (nI L.length)])), (aw, .inl (cI, 2286, .inl f))]) _ := hP
    have hD : va_D A ([(h, .inr (9, [.ref hy, .ref hw])), (hy, .inr (7, [.int (nI w), .int (fq_b b)])), (hw, .inr (0, [.ref aw, .int (nI i), .int (nI L.length)])), (aw, .inl (cI, 2286, .inl f))]) := hD
    refine lv_iload K.1 K.2.1 dc_Sink_tone_43 (lv_at hl 5 rfl) ?_
    refine lv_iload_n K.1 K.2.1 dc_Sink_tone_45 rfl (lv_at hl 1 rfl) ?_
    refine lv_bipush (v := 12) K.1 K.2.1 dc_Sink_tone_46 (by decide) ?_
    refine lv_isub K.1 K.2.1 dc_Sink_tone_48 ?_
    refine lv_icmp_lt (tgt := 86) K.1 K.2.1 dc_Sink_tone_49 rfl (fun b49 => ?_) (fun b49 => ?_)
    · skip
      have hn : n = 12 := tn_c1 (by omega) hI43.1 (by omega) b49
      refine lv_lload K.1 K.2.1 dc_Sink_tone_86 (lv_at hl 3 rfl) ?_
      refine lv_lload K.1 K.2.1 dc_Sink_tone_88 (lv_at hl 3 rfl) ?_
      refine lv_lmul K.1 K.2.1 dc_Sink_tone_90 ?_
      refine lv_lload_n K.1 K.2.1 dc_Sink_tone_91 rfl (lv_at hl 2 rfl) ?_
      refine lv_lload K.1 K.2.1 dc_Sink_tone_92 (lv_at hl 3 rfl) ?_
      refine lv_lmul K.1 K.2.1 dc_Sink_tone_94 ?_
      refine lv_lload K.1 K.2.1 dc_Sink_tone_95 (lv_at hl 4 rfl) ?_
      refine lv_lmul K.1 K.2.1 dc_Sink_tone_97 ?_
      refine lv_ladd K.1 K.2.1 dc_Sink_tone_98 ?_
      refine lv_lload K.1 K.2.1 dc_Sink_tone_99 (lv_at hl 4 rfl) ?_
      refine lv_lload K.1 K.2.1 dc_Sink_tone_101 (lv_at hl 4 rfl) ?_
      refine lv_lmul K.1 K.2.1 dc_Sink_tone_103 ?_
      refine lv_ladd K.1 K.2.1 dc_Sink_tone_104 ?_
      exact fq_retl K hret hlk hS hP hD ⟨rfl, by subst e_v1; exact tn_fin hI43 hn hen⟩ dc_Sink_tone_105 (Nat.le_of_ble_eq_true rfl) (Nat.le_of_ble_eq_true rfl)
    · skip
      have hn : n < 12 := tn_c2 (by omega) hI43.1 (by omega) b49
      refine lv_lload K.1 K.2.1 dc_Sink_tone_52 (lv_at hl 3 rfl) ?_
      refine lv_lload_n K.1 K.2.1 dc_Sink_tone_54 rfl (lv_at hl 2 rfl) ?_
      refine lv_lload K.1 K.2.1 dc_Sink_tone_55 (lv_at hl 4 rfl) ?_
      refine lv_lmul K.1 K.2.1 dc_Sink_tone_57 ?_
      refine lv_ladd K.1 K.2.1 dc_Sink_tone_58 ?_
      refine lv_topl (fun v2 e_v2 => ?_)
      refine lv_lstore K.1 K.2.1 dc_Sink_tone_59 hl (by decide) rfl (fun ls hl => ?_)
      have hl : lv_has ls 12 [(10, .long v2), (0, .ref h), (2, .int (nI (L.length - L.length % 12))), (3, .long v1), (5, .long on), (7, .long ot), (9, .int (nI ((L.length - L.length % 12) - n) - 1))] := hl
      refine lv_aload_n K.1 K.2.1 dc_Sink_tone_61 rfl (lv_at hl 1 rfl) ?_
      refine fq_get K hK cl_Sink hP 0 1 rfl (by decide) wd_168 rfl dc_Sink_tone_62 ?_
      refine lv_iload K.1 K.2.1 dc_Sink_tone_65 (lv_at hl 6 rfl) ?_
      have hc := fq_cut.of (wc := [(hw, .inr (0, [.ref aw, .int (nI i), .int (nI L.length)])), (aw, .inl (cI, 2286, .inl f))]) hP hD hS hA [2, 3] (by decide) rfl
      refine fq_ci (wr := [(h, .inr (9, [.ref hy, .ref hw])), (hy, .inr (7, [.int (nI w), .int (fq_b b)]))]) (fq_rV K hK hZ hS hc (ct_Row_get l D cI cO tE hw aw 2286 f i L (nI ((L.length - L.length % 12) - n) - 1) hrow _) yk_Row_get wd_737 wd_738 wd_736 0 rfl rfl rfl ⟨⟨rfl, rfl⟩, ⟨Nat.le_of_ble_eq_true rfl, Nat.le_of_ble_eq_true rfl⟩, ⟨Nat.le_of_ble_eq_true rfl, Nat.le_of_ble_eq_true rfl⟩⟩ hl.1 rfl (Nat.le_of_ble_eq_true rfl) dc_Sink_tone_67) hP hD hS hc [2, 3] [0, 1] rfl rfl (by decide) (by decide) (fun r3 w H locs hw3 hP hD hS => ?_)
      obtain ⟨rfl, rfl⟩ := hw3
      have hP : va_P D fq_cl ([(h, .inr (9, [.ref hy, .ref hw])), (hy, .inr (7, [.int (nI w), .int (fq_b b)])), (hw, .inr (0, [.ref aw, .int (nI i), .int (nI L.length)])), (aw, .inl (cI, 2286, .inl f))]) _ := hP
      have hD : va_D A ([(h, .inr (9, [.ref hy, .ref hw])), (hy, .inr (7, [.int (nI w), .int (fq_b b)])), (hw, .inr (0, [.ref aw, .int (nI i), .int (nI L.length)])), (aw, .inl (cI, 2286, .inl f))]) := hD
      refine fq_asi (y := L.getD ((L.length - L.length % 12) - 1 - n) 0) (tn_get (by omega) hn hen) ?_
      refine lv_i2l K.1 K.2.1 dc_Sink_tone_70 rfl ?_
      refine lv_lload K.1 K.2.1 dc_Sink_tone_71 (lv_at hl 5 rfl) ?_
      refine lv_lsub K.1 K.2.1 dc_Sink_tone_73 ?_
      refine lv_topl (fun v3 e_v3 => ?_)
      refine lv_lstore K.1 K.2.1 dc_Sink_tone_74 hl (by decide) rfl (fun ls hl => ?_)
      have hl : lv_has ls 12 [(5, .long v3), (10, .long v2), (0, .ref h), (2, .int (nI (L.length - L.length % 12))), (3, .long v1), (7, .long ot), (9, .int (nI ((L.length - L.length % 12) - n) - 1))] := hl
      refine lv_lload K.1 K.2.1 dc_Sink_tone_76 (lv_at hl 1 rfl) ?_
      refine lv_lstore K.1 K.2.1 dc_Sink_tone_78 hl (by decide) rfl (fun ls hl => ?_)
      have hl : lv_has ls 12 [(7, .long v2), (5, .long v3), (10, .long v2), (0, .ref h), (2, .int (nI (L.length - L.length % 12))), (3, .long v1), (9, .int (nI ((L.length - L.length % 12) - n) - 1))] := hl
      refine lv_iinc (v := nI ((L.length - L.length % 12) - (n + 1)) - 1) K.1 K.2.1 dc_Sink_tone_80 hl (k := 6) rfl (tn_dec hn hen) (by decide) rfl (fun ls hl => ?_)
      have hl : lv_has ls 12 [(9, .int (nI ((L.length - L.length % 12) - (n + 1)) - 1)), (7, .long v2), (5, .long v3), (10, .long v2), (0, .ref h), (2, .int (nI (L.length - L.length % 12))), (3, .long v1)] := hl
      refine lv_goto (tgt := 43) K.1 K.2.1 dc_Sink_tone_83 rfl ?_
      exact ih43 (n + 1, v3, v2) _ _ _ (by show 12 - (n + 1) < 12 - n; omega) ⟨tn_step hI43 hn hen e_v3 e_v2, lv_sub hl [4, 5, 6, 2, 1, 0] rfl, hP, hD, hS⟩
  · skip
    have hen : (L.length - L.length % 12) = 0 := (nI_eq (by omega) (by decide)).mp (b20.trans nI_0.symm)
    refine lv_ldc2 (v := (-1)) K.1 K.2.1 K.2.2.2.1 (K.2.2.2.2 _ wd_760) dc_Sink_tone_23 ?_
    exact fq_retl K hret hlk hS hP hD ⟨rfl, tn_no hen⟩ dc_Sink_tone_26 (Nat.le_of_ble_eq_true rfl) (Nat.le_of_ble_eq_true rfl)
