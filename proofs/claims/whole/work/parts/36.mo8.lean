theorem wd_15 : Cond.selects cn_Mo my_Mo_producerStep my_Mo_producerStep ∈ fq_TB := fq_in 15 (by decide +kernel) rfl
theorem wd_16 : Cond.selects cn_Mo my_Mo_sampleOf my_Mo_sampleOf ∈ fq_TB := fq_in 16 (by decide +kernel) rfl
theorem wd_770 : Cond.fieldLink cn_Mo 35 cn_Mo "room" "I" ∈ fq_TB := fq_in 770 (by decide +kernel) rfl
theorem wd_779 : Cond.fieldLink cn_Mo 23 cn_Mo "bytesIn" "[I" ∈ fq_TB := fq_in 779 (by decide +kernel) rfl
theorem wd_912 : Cond.instanceMethod my_Mo_bytes ∈ fq_TB := fq_in 912 (by decide +kernel) rfl
theorem wd_913 : Cond.selects cn_Mo my_Mo_bytes my_Mo_bytes ∈ fq_TB := fq_in 913 (by decide +kernel) rfl
theorem wd_914 : Cond.code my_Mo_bytes cb_Mo_bytes 4 (some .int) ∈ fq_TB := fq_in 914 (by decide +kernel) rfl
theorem wd_925 : Cond.instanceMethod my_Mo_producerStep ∈ fq_TB := fq_in 925 (by decide +kernel) rfl
theorem wd_926 : Cond.code my_Mo_producerStep cb_Mo_producerStep 1 (some .boolean) ∈ fq_TB := fq_in 926 (by decide +kernel) rfl
theorem wd_927 : Cond.methodLink cn_Mo 168 my_Mo_sampleOf ∈ fq_TB := fq_in 927 (by decide +kernel) rfl
theorem wd_929 : Cond.instanceMethod my_Mo_sampleOf ∈ fq_TB := fq_in 929 (by decide +kernel) rfl
theorem wd_930 : Cond.code my_Mo_sampleOf cb_Mo_sampleOf 6 (some .int) ∈ fq_TB := fq_in 930 (by decide +kernel) rfl
theorem wd_931 : Cond.constantLong cn_Mo 165 128 ∈ fq_TB := fq_in 931 (by decide +kernel) rfl
theorem wd_932 : Cond.constant cn_Mo 167 65536 ∈ fq_TB := fq_in 932 (by decide +kernel) rfl
theorem wd_933 : Cond.methodLink cn_Mo 172 my_Mo_work ∈ fq_TB := fq_in 933 (by decide +kernel) rfl
/-! a sample out of bytes -/
theorem ms_st {w : Nat} {b : Bool} {L : List Int32} {j : Nat} {v v2 : Int64} {x : Int32} (hw : 1 ≤ w ∧ w ≤ 4) (hl : w ≤ L.length) (hby : ∀ x ∈ L, 0 ≤ x.toInt ∧ x.toInt < 256) (hj : j < w) (hx : x = L.getD j 0)
    (hI : j ≤ w ∧ v.toInt = (ns_v w b L j : Int)) (ev : v2 = v + x.toInt64 <<< ((nI (ly_sh w b j)).toInt64 &&& 63)) : j + 1 ≤ w ∧ v2.toInt = (ns_v w b L (j + 1) : Int) := by
  have hbs := ns_bs hby hl
  have h1 := ns_lt (b := b) hw.2 hbs (k := j) (by omega)
  have h2 := ns_lt (b := b) hw.2 hbs (k := j + 1) (by omega)
  have hsh : ly_sh w b j ≤ 24 := ns_sh hw.2 hj
  have hm : x ∈ L := by
    rw [hx, List.getD_eq_getElem?_getD, List.getElem?_eq_getElem (show j < L.length by omega)]
    exact List.getElem_mem _
  have hb := hby x hm
  have hsm : ∀ n, n ≤ 24 → (((nI n).toInt64 &&& 63).toBitVec.smod 64).toNat = n := by decide
  have hp : x.toInt * 2 ^ ly_sh w b j = (((L.getD j 0).toInt.toNat * 2 ^ ly_sh w b j : Nat) : Int) := by
    rw [Int.natCast_mul, ← hx, Int.toNat_of_nonneg hb.1, Int.natCast_pow]; rfl
  have e : ns_v w b L (j + 1) = ns_v w b L j + (L.getD j 0).toInt.toNat * 2 ^ ly_sh w b j := rfl
  have hw32 : 2 ^ (8 * w) ≤ 2 ^ 32 := Nat.pow_le_pow_right (by decide) (by omega)
  have e1 : (x.toInt64 <<< ((nI (ly_sh w b j)).toInt64 &&& 63)).toInt = x.toInt * 2 ^ ly_sh w b j := by
    rw [Kit.i64_shl _ _ (hsm _ hsh) (by rw [Kit.i64_of_i32, hp]; omega) (by rw [Kit.i64_of_i32, hp]; omega), Kit.i64_of_i32]
  refine ⟨hj, ?_⟩
  rw [ev, Kit.i64_add (by rw [e1, hp, hI.2]; omega) (by rw [e1, hp, hI.2]; omega), e1, hp, hI.2, e]
  omega
theorem ms_1 {w V : Nat} {v : Int64} (hw : w = 1) (hV : V < 2 ^ (8 * w)) (hv : v.toInt = (V : Int)) : ((v - 128).toInt32 * 65536).toInt = ns_s w V := by
  subst hw
  have hV : V < 256 := hV
  have e1 : (128 : Int64).toInt = 128 := by decide
  have e2 : (65536 : Int32).toInt = 65536 := by decide
  have e3 : (v - 128).toInt = (V : Int) - 128 := by rw [Kit.i64_sub (by rw [hv, e1]; omega) (by rw [hv, e1]; omega), hv, e1]
  have e4 : (v - 128).toInt32.toInt = (V : Int) - 128 := by rw [Kit.i32_of_i64 (by omega) (by omega), e3]
  rw [Kit.i32_mul (by rw [e4, e2]; omega) (by rw [e4, e2]; omega), e4, e2]
  rfl
theorem ms_hf {w : Nat} {z : Int64} (hw : 2 ≤ w ∧ w ≤ 4) (e : z = 1 <<< ((nI (8 * w - 1)).toInt64 &&& 63)) : z.toInt = 2 ^ (8 * w - 1) := by
  have c : w = 2 ∨ w = 3 ∨ w = 4 := by omega
  rcases c with rfl | rfl | rfl <;> (rw [e]; decide)
theorem ms_sa {w V : Nat} {v z : Int64} (hw : 2 ≤ w ∧ w ≤ 4) (hv : v.toInt = (V : Int)) (hz : z.toInt = 2 ^ (8 * w - 1)) (h : v < z) : v.toInt = (V : Int).bmod (2 ^ (8 * w)) := by
  rw [Int64.lt_iff_toInt_lt, hv, hz] at h
  have c : w = 2 ∨ w = 3 ∨ w = 4 := by omega
  rw [hv]
  rcases c with rfl | rfl | rfl
  · rw [show (2 : Int) ^ (8 * 2 - 1) = 32768 by decide] at h
    rw [show 2 ^ (8 * 2) = 65536 by decide, Int.bmod_def, Int.emod_eq_of_lt (by omega) (by omega), if_pos (by omega)]
  · rw [show (2 : Int) ^ (8 * 3 - 1) = 8388608 by decide] at h
    rw [show 2 ^ (8 * 3) = 16777216 by decide, Int.bmod_def, Int.emod_eq_of_lt (by omega) (by omega), if_pos (by omega)]
  · rw [show (2 : Int) ^ (8 * 4 - 1) = 2147483648 by decide] at h
    rw [show 2 ^ (8 * 4) = 4294967296 by decide, Int.bmod_def, Int.emod_eq_of_lt (by omega) (by omega), if_pos (by omega)]
theorem ms_sb {w V : Nat} {v z u : Int64} (hw : 2 ≤ w ∧ w ≤ 4) (hV : V < 2 ^ (8 * w)) (hv : v.toInt = (V : Int)) (hz : z.toInt = 2 ^ (8 * w - 1)) (h : ¬ v < z) (eu : u = v - 2 * z) : u.toInt = (V : Int).bmod (2 ^ (8 * w)) := by
  rw [Int64.lt_iff_toInt_lt, hv, hz] at h
  have c : w = 2 ∨ w = 3 ∨ w = 4 := by omega
  have e2 : (2 : Int64).toInt = 2 := by decide
  rcases c with rfl | rfl | rfl
  · rw [show (2 : Int) ^ (8 * 2 - 1) = 32768 by decide] at h hz
    rw [show 2 ^ (8 * 2) = 65536 by decide] at hV ⊢
    have e3 : (2 * z).toInt = 65536 := by rw [Kit.i64_mul (by rw [e2, hz]; decide) (by rw [e2, hz]; decide), e2, hz]; decide
    rw [eu, Kit.i64_sub (by rw [hv, e3]; omega) (by rw [hv, e3]; omega), hv, e3, Int.bmod_def, Int.emod_eq_of_lt (by omega) (by omega), if_neg (by omega)]; omega
  · rw [show (2 : Int) ^ (8 * 3 - 1) = 8388608 by decide] at h hz
    rw [show 2 ^ (8 * 3) = 16777216 by decide] at hV ⊢
    have e3 : (2 * z).toInt = 16777216 := by rw [Kit.i64_mul (by rw [e2, hz]; decide) (by rw [e2, hz]; decide), e2, hz]; decide
    rw [eu, Kit.i64_sub (by rw [hv, e3]; omega) (by rw [hv, e3]; omega), hv, e3, Int.bmod_def, Int.emod_eq_of_lt (by omega) (by omega), if_neg (by omega)]; omega
  · rw [show (2 : Int) ^ (8 * 4 - 1) = 2147483648 by decide] at h hz
    rw [show 2 ^ (8 * 4) = 4294967296 by decide] at hV ⊢
    have e3 : (2 * z).toInt = 4294967296 := by rw [Kit.i64_mul (by rw [e2, hz]; decide) (by rw [e2, hz]; decide), e2, hz]; decide
    rw [eu, Kit.i64_sub (by rw [hv, e3]; omega) (by rw [hv, e3]; omega), hv, e3, Int.bmod_def, Int.emod_eq_of_lt (by omega) (by omega), if_neg (by omega)]; omega
theorem ms_2 {w V : Nat} {u : Int64} (hw : w = 2) (hu : u.toInt = (V : Int).bmod (2 ^ (8 * w))) : ((256 * u).toInt32).toInt = ns_s w V := by
  subst hw
  rw [show 2 ^ (8 * 2) = 65536 by decide] at hu
  have b := pl_bm (n := 65536) (V : Int) (by decide) (by decide)
  have e : (256 : Int64).toInt = 256 := by decide
  have e2 : (256 * u).toInt = 256 * (V : Int).bmod 65536 := by rw [Kit.i64_mul (by rw [e, hu]; omega) (by rw [e, hu]; omega), e, hu]
  rw [Kit.i32_of_i64 (by omega) (by omega), e2]
  unfold ns_s
  rw [if_neg (by decide), if_pos rfl]
theorem ms_3 {w V : Nat} {u : Int64} (hw : w = 3) (hu : u.toInt = (V : Int).bmod (2 ^ (8 * w))) : (u.toInt32).toInt = ns_s w V := by
  subst hw
  rw [show 2 ^ (8 * 3) = 16777216 by decide] at hu
  have b := pl_bm (n := 16777216) (V : Int) (by decide) (by decide)
  rw [Kit.i32_of_i64 (by omega) (by omega), hu]
  unfold ns_s
  rw [if_neg (by decide), if_neg (by decide), if_pos rfl]
theorem ms_4 {w V : Nat} {u q : Int64} (hw : w = 4) (hu : u.toInt = (V : Int).bmod (2 ^ (8 * w))) (hq : q.toInt = u.toInt / (256 : Int64).toInt) : (q.toInt32).toInt = ns_s w V := by
  subst hw
  rw [show 2 ^ (8 * 4) = 4294967296 by decide] at hu
  have b := pl_bm (n := 4294967296) (V : Int) (by decide) (by decide)
  rw [show (256 : Int64).toInt = 256 by decide, hu] at hq
  rw [Kit.i32_of_i64 (by omega) (by omega), hq]
  unfold ns_s
  rw [if_neg (by decide), if_neg (by decide), if_neg (by decide)]
/-! the bytes that come -/
def bs_F (f : Nat → Int32) (a : Nat) (y : Int32) : Nat → Nat → Int32
  | 0 => f
  | k + 1 => upd (bs_F f a y k) (a + k) (y >>> ((8 * nI k) &&& 31) &&& 255)
theorem bs_S {f g : Nat → Int32} {a k : Nat} {y v : Int32} (h : g = bs_F f a y k) (hv : v = y >>> ((8 * nI k) &&& 31) &&& 255) : upd g (a + k) v = bs_F f a y (k + 1) := by rw [h, hv]; rfl
theorem bs_lo {f : Nat → Int32} {a : Nat} {y : Int32} : ∀ {k j : Nat}, j < a → bs_F f a y k j = f j
  | 0, _, _ => rfl
  | k + 1, j, h => by
    show upd (bs_F f a y k) (a + k) _ j = f j
    rw [pk_un (by omega)]; exact bs_lo h
theorem bs_L {f : Nat → Int32} {us ca : Nat} {L : List Int32} {y : Int32} (hu : us ≤ ca) (hl : L.length = ca - us) (hf : ∀ k, k < L.length → f (us + k) = L.getD k 0) : ∀ {n : Nat}, ca + n ≤ 120 → (by_L L y n).length = ca + n - us ∧ (∀ k, k < (by_L L y n).length → bs_F f ca y n (us + k) = (by_L L y n).getD k 0)
  | 0, _ => ⟨hl, hf⟩
  | n + 1, h => by
    obtain ⟨i1, i2⟩ := bs_L (y := y) hu hl hf (n := n) (by omega)
    have e : by_L L y (n + 1) = by_L L y n ++ [y >>> ((8 * nI n) &&& 31) &&& 255] := by
      show rw_put 120 (by_L L y n) _ = _
      unfold rw_put
      rw [if_pos (by omega)]
    rw [e]
    have el : (by_L L y n ++ [y >>> ((8 * nI n) &&& 31) &&& 255]).length = (by_L L y n).length + 1 := by simp
    refine ⟨by rw [el]; omega, fun k hk => ?_⟩
    rw [el] at hk
    show upd (bs_F f ca y n) (ca + n) _ (us + k) = _
    by_cases ek : k = (by_L L y n).length
    · rw [show us + k = ca + n by omega, pk_us, ek]
      simp [List.getD_eq_getElem?_getD]
    · rw [pk_un (by omega), i2 k (by omega)]
      simp only [List.getD_eq_getElem?_getD]
      rw [List.getElem?_append_left (by omega)]
theorem bs_b (x : Int32) : 0 ≤ (x &&& 255).toInt ∧ (x &&& 255).toInt < 256 := by
  rw [Kit.i32_mask x 255 (k := 8) (by decide) (by decide)]; omega
theorem bs_by {L : List Int32} {y : Int32} (h : ∀ x ∈ L, 0 ≤ x.toInt ∧ x.toInt < 256) : ∀ {n : Nat}, ∀ x ∈ by_L L y n, 0 ≤ x.toInt ∧ x.toInt < 256
  | 0 => h
  | n + 1 => by
    intro x hx
    have hx : x ∈ rw_put 120 (by_L L y n) (y >>> ((8 * nI n) &&& 31) &&& 255) := hx
    unfold rw_put at hx
    split at hx
    · rcases List.mem_append.mp hx with z | z
      · exact bs_by h (n := n) x z
      · rw [List.mem_singleton.mp z]; exact bs_b _
    · exact bs_by h (n := n) x hx


theorem mo_ap {f : Nat → Int32} {X : List Int} {v : Int32} {u : Int} (h : ∀ j, j < X.length → (f j).toInt = X.getD j 0) (hv : v.toInt = u) : ∀ j, j < (X ++ [u]).length → (upd f X.length v j).toInt = (X ++ [u]).getD j 0 := fun j hj => by
  rw [List.length_append, List.length_singleton] at hj
  by_cases e : j = X.length
  · rw [e, pk_us, hv]; simp [List.getD_eq_getElem?_getD]
  · rw [pk_un e, h j (by omega)]
    simp only [List.getD_eq_getElem?_getD]
    rw [List.getElem?_append_left (by omega)]

theorem dc_Mo_sampleOf_0 : decode cb_Mo_sampleOf 0 = .ok (.lconst 0, 1) := by decide +kernel
theorem dc_Mo_sampleOf_1 : decode cb_Mo_sampleOf 1 = .ok (.lstore_n 2, 1) := by decide +kernel
theorem dc_Mo_sampleOf_2 : decode cb_Mo_sampleOf 2 = .ok (.iconst 0, 1) := by decide +kernel
theorem dc_Mo_sampleOf_3 : decode cb_Mo_sampleOf 3 = .ok (.istore 4, 2) := by decide +kernel
theorem dc_Mo_sampleOf_5 : decode cb_Mo_sampleOf 5 = .ok (.iload 4, 2) := by decide +kernel
theorem dc_Mo_sampleOf_7 : decode cb_Mo_sampleOf 7 = .ok (.aload_n 0, 1) := by decide +kernel
theorem dc_Mo_sampleOf_8 : decode cb_Mo_sampleOf 8 = .ok (.getfield 16, 3) := by decide +kernel
theorem dc_Mo_sampleOf_11 : decode cb_Mo_sampleOf 11 = .ok (.if_icmp .ge 51, 3) := by decide +kernel
theorem dc_Mo_sampleOf_14 : decode cb_Mo_sampleOf 14 = .ok (.aload_n 0, 1) := by decide +kernel
theorem dc_Mo_sampleOf_15 : decode cb_Mo_sampleOf 15 = .ok (.getfield 94, 3) := by decide +kernel
theorem dc_Mo_sampleOf_18 : decode cb_Mo_sampleOf 18 = .ok (.ifCond .eq 15, 3) := by decide +kernel
theorem dc_Mo_sampleOf_21 : decode cb_Mo_sampleOf 21 = .ok (.aload_n 0, 1) := by decide +kernel
theorem dc_Mo_sampleOf_22 : decode cb_Mo_sampleOf 22 = .ok (.getfield 16, 3) := by decide +kernel
theorem dc_Mo_sampleOf_25 : decode cb_Mo_sampleOf 25 = .ok (.iconst 1, 1) := by decide +kernel
theorem dc_Mo_sampleOf_26 : decode cb_Mo_sampleOf 26 = .ok (.isub, 1) := by decide +kernel
theorem dc_Mo_sampleOf_27 : decode cb_Mo_sampleOf 27 = .ok (.iload 4, 2) := by decide +kernel
theorem dc_Mo_sampleOf_29 : decode cb_Mo_sampleOf 29 = .ok (.isub, 1) := by decide +kernel
theorem dc_Mo_sampleOf_30 : decode cb_Mo_sampleOf 30 = .ok (.goto 5, 3) := by decide +kernel
theorem dc_Mo_sampleOf_33 : decode cb_Mo_sampleOf 33 = .ok (.iload 4, 2) := by decide +kernel
theorem dc_Mo_sampleOf_35 : decode cb_Mo_sampleOf 35 = .ok (.istore 5, 2) := by decide +kernel
theorem dc_Mo_sampleOf_37 : decode cb_Mo_sampleOf 37 = .ok (.lload_n 2, 1) := by decide +kernel
theorem dc_Mo_sampleOf_38 : decode cb_Mo_sampleOf 38 = .ok (.aload_n 0, 1) := by decide +kernel
theorem dc_Mo_sampleOf_39 : decode cb_Mo_sampleOf 39 = .ok (.getfield 23, 3) := by decide +kernel
theorem dc_Mo_sampleOf_42 : decode cb_Mo_sampleOf 42 = .ok (.iload_n 1, 1) := by decide +kernel
theorem dc_Mo_sampleOf_43 : decode cb_Mo_sampleOf 43 = .ok (.iload 4, 2) := by decide +kernel
theorem dc_Mo_sampleOf_45 : decode cb_Mo_sampleOf 45 = .ok (.iadd, 1) := by decide +kernel
theorem dc_Mo_sampleOf_46 : decode cb_Mo_sampleOf 46 = .ok (.iaload, 1) := by decide +kernel
theorem dc_Mo_sampleOf_47 : decode cb_Mo_sampleOf 47 = .ok (.i2l, 1) := by decide +kernel
theorem dc_Mo_sampleOf_48 : decode cb_Mo_sampleOf 48 = .ok (.bipush 8, 2) := by decide +kernel
theorem dc_Mo_sampleOf_50 : decode cb_Mo_sampleOf 50 = .ok (.iload 5, 2) := by decide +kernel
theorem dc_Mo_sampleOf_52 : decode cb_Mo_sampleOf 52 = .ok (.imul, 1) := by decide +kernel
theorem dc_Mo_sampleOf_53 : decode cb_Mo_sampleOf 53 = .ok (.lshl, 1) := by decide +kernel
theorem dc_Mo_sampleOf_54 : decode cb_Mo_sampleOf 54 = .ok (.ladd, 1) := by decide +kernel
theorem dc_Mo_sampleOf_55 : decode cb_Mo_sampleOf 55 = .ok (.lstore_n 2, 1) := by decide +kernel
theorem dc_Mo_sampleOf_56 : decode cb_Mo_sampleOf 56 = .ok (.iinc 4 1, 3) := by decide +kernel
theorem dc_Mo_sampleOf_59 : decode cb_Mo_sampleOf 59 = .ok (.goto (-54), 3) := by decide +kernel
theorem dc_Mo_sampleOf_62 : decode cb_Mo_sampleOf 62 = .ok (.aload_n 0, 1) := by decide +kernel
theorem dc_Mo_sampleOf_63 : decode cb_Mo_sampleOf 63 = .ok (.getfield 16, 3) := by decide +kernel
theorem dc_Mo_sampleOf_66 : decode cb_Mo_sampleOf 66 = .ok (.iconst 1, 1) := by decide +kernel
theorem dc_Mo_sampleOf_67 : decode cb_Mo_sampleOf 67 = .ok (.if_icmp .ne 13, 3) := by decide +kernel
theorem dc_Mo_sampleOf_70 : decode cb_Mo_sampleOf 70 = .ok (.lload_n 2, 1) := by decide +kernel
theorem dc_Mo_sampleOf_71 : decode cb_Mo_sampleOf 71 = .ok (.ldc2_w 165, 3) := by decide +kernel
theorem dc_Mo_sampleOf_74 : decode cb_Mo_sampleOf 74 = .ok (.lsub, 1) := by decide +kernel
theorem dc_Mo_sampleOf_75 : decode cb_Mo_sampleOf 75 = .ok (.l2i, 1) := by decide +kernel
theorem dc_Mo_sampleOf_76 : decode cb_Mo_sampleOf 76 = .ok (.ldc 167, 2) := by decide +kernel
theorem dc_Mo_sampleOf_78 : decode cb_Mo_sampleOf 78 = .ok (.imul, 1) := by decide +kernel
theorem dc_Mo_sampleOf_79 : decode cb_Mo_sampleOf 79 = .ok (.ireturn, 1) := by decide +kernel
theorem dc_Mo_sampleOf_80 : decode cb_Mo_sampleOf 80 = .ok (.lconst 1, 1) := by decide +kernel
theorem dc_Mo_sampleOf_81 : decode cb_Mo_sampleOf 81 = .ok (.bipush 8, 2) := by decide +kernel
theorem dc_Mo_sampleOf_83 : decode cb_Mo_sampleOf 83 = .ok (.aload_n 0, 1) := by decide +kernel
theorem dc_Mo_sampleOf_84 : decode cb_Mo_sampleOf 84 = .ok (.getfield 16, 3) := by decide +kernel
theorem dc_Mo_sampleOf_87 : decode cb_Mo_sampleOf 87 = .ok (.imul, 1) := by decide +kernel
theorem dc_Mo_sampleOf_88 : decode cb_Mo_sampleOf 88 = .ok (.iconst 1, 1) := by decide +kernel
theorem dc_Mo_sampleOf_89 : decode cb_Mo_sampleOf 89 = .ok (.isub, 1) := by decide +kernel
theorem dc_Mo_sampleOf_90 : decode cb_Mo_sampleOf 90 = .ok (.lshl, 1) := by decide +kernel
theorem dc_Mo_sampleOf_91 : decode cb_Mo_sampleOf 91 = .ok (.lstore 4, 2) := by decide +kernel
theorem dc_Mo_sampleOf_93 : decode cb_Mo_sampleOf 93 = .ok (.lload_n 2, 1) := by decide +kernel
theorem dc_Mo_sampleOf_94 : decode cb_Mo_sampleOf 94 = .ok (.lload 4, 2) := by decide +kernel
theorem dc_Mo_sampleOf_96 : decode cb_Mo_sampleOf 96 = .ok (.lcmp, 1) := by decide +kernel
theorem dc_Mo_sampleOf_97 : decode cb_Mo_sampleOf 97 = .ok (.ifCond .lt 14, 3) := by decide +kernel
theorem dc_Mo_sampleOf_100 : decode cb_Mo_sampleOf 100 = .ok (.lload_n 2, 1) := by decide +kernel
theorem dc_Mo_sampleOf_101 : decode cb_Mo_sampleOf 101 = .ok (.ldc2_w 38, 3) := by decide +kernel
theorem dc_Mo_sampleOf_104 : decode cb_Mo_sampleOf 104 = .ok (.lload 4, 2) := by decide +kernel
theorem dc_Mo_sampleOf_106 : decode cb_Mo_sampleOf 106 = .ok (.lmul, 1) := by decide +kernel
theorem dc_Mo_sampleOf_107 : decode cb_Mo_sampleOf 107 = .ok (.lsub, 1) := by decide +kernel
theorem dc_Mo_sampleOf_108 : decode cb_Mo_sampleOf 108 = .ok (.goto 4, 3) := by decide +kernel
theorem dc_Mo_sampleOf_111 : decode cb_Mo_sampleOf 111 = .ok (.lload_n 2, 1) := by decide +kernel
theorem dc_Mo_sampleOf_112 : decode cb_Mo_sampleOf 112 = .ok (.lstore_n 2, 1) := by decide +kernel
theorem dc_Mo_sampleOf_113 : decode cb_Mo_sampleOf 113 = .ok (.aload_n 0, 1) := by decide +kernel
theorem dc_Mo_sampleOf_114 : decode cb_Mo_sampleOf 114 = .ok (.getfield 16, 3) := by decide +kernel
theorem dc_Mo_sampleOf_117 : decode cb_Mo_sampleOf 117 = .ok (.iconst 2, 1) := by decide +kernel
theorem dc_Mo_sampleOf_118 : decode cb_Mo_sampleOf 118 = .ok (.if_icmp .ne 12, 3) := by decide +kernel
theorem dc_Mo_sampleOf_121 : decode cb_Mo_sampleOf 121 = .ok (.ldc2_w 71, 3) := by decide +kernel
theorem dc_Mo_sampleOf_124 : decode cb_Mo_sampleOf 124 = .ok (.lload_n 2, 1) := by decide +kernel
theorem dc_Mo_sampleOf_125 : decode cb_Mo_sampleOf 125 = .ok (.lmul, 1) := by decide +kernel
theorem dc_Mo_sampleOf_126 : decode cb_Mo_sampleOf 126 = .ok (.l2i, 1) := by decide +kernel
theorem dc_Mo_sampleOf_127 : decode cb_Mo_sampleOf 127 = .ok (.goto 24, 3) := by decide +kernel
theorem dc_Mo_sampleOf_130 : decode cb_Mo_sampleOf 130 = .ok (.aload_n 0, 1) := by decide +kernel
theorem dc_Mo_sampleOf_131 : decode cb_Mo_sampleOf 131 = .ok (.getfield 16, 3) := by decide +kernel
theorem dc_Mo_sampleOf_134 : decode cb_Mo_sampleOf 134 = .ok (.iconst 3, 1) := by decide +kernel
theorem dc_Mo_sampleOf_135 : decode cb_Mo_sampleOf 135 = .ok (.if_icmp .ne 8, 3) := by decide +kernel
theorem dc_Mo_sampleOf_138 : decode cb_Mo_sampleOf 138 = .ok (.lload_n 2, 1) := by decide +kernel
theorem dc_Mo_sampleOf_139 : decode cb_Mo_sampleOf 139 = .ok (.l2i, 1) := by decide +kernel
theorem dc_Mo_sampleOf_140 : decode cb_Mo_sampleOf 140 = .ok (.goto 11, 3) := by decide +kernel
theorem dc_Mo_sampleOf_143 : decode cb_Mo_sampleOf 143 = .ok (.lload_n 2, 1) := by decide +kernel
theorem dc_Mo_sampleOf_144 : decode cb_Mo_sampleOf 144 = .ok (.ldc2_w 71, 3) := by decide +kernel
theorem dc_Mo_sampleOf_147 : decode cb_Mo_sampleOf 147 = .ok (.invokestatic 40, 3) := by decide +kernel
theorem dc_Mo_sampleOf_150 : decode cb_Mo_sampleOf 150 = .ok (.l2i, 1) := by decide +kernel
theorem dc_Mo_sampleOf_151 : decode cb_Mo_sampleOf 151 = .ok (.ireturn, 1) := by decide +kernel
theorem yk_Mo_sampleOf : fq_Y my_Mo_sampleOf cb_Mo_sampleOf 6 (some .int) 1 := ⟨wd_930, wd_36, by decide +kernel⟩
theorem dc_Mo_bytes_0 : decode cb_Mo_bytes 0 = .ok (.aload_n 0, 1) := by decide +kernel
theorem dc_Mo_bytes_1 : decode cb_Mo_bytes 1 = .ok (.getfield 50, 3) := by decide +kernel
theorem dc_Mo_bytes_4 : decode cb_Mo_bytes 4 = .ok (.ifCond .eq 20, 3) := by decide +kernel
theorem dc_Mo_bytes_7 : decode cb_Mo_bytes 7 = .ok (.aload_n 0, 1) := by decide +kernel
theorem dc_Mo_bytes_8 : decode cb_Mo_bytes 8 = .ok (.getfield 150, 3) := by decide +kernel
theorem dc_Mo_bytes_11 : decode cb_Mo_bytes 11 = .ok (.ifCond .ne 13, 3) := by decide +kernel
theorem dc_Mo_bytes_14 : decode cb_Mo_bytes 14 = .ok (.iload_n 1, 1) := by decide +kernel
theorem dc_Mo_bytes_15 : decode cb_Mo_bytes 15 = .ok (.iconst 1, 1) := by decide +kernel
theorem dc_Mo_bytes_16 : decode cb_Mo_bytes 16 = .ok (.if_icmp .lt 8, 3) := by decide +kernel
theorem dc_Mo_bytes_19 : decode cb_Mo_bytes 19 = .ok (.iload_n 1, 1) := by decide +kernel
theorem dc_Mo_bytes_20 : decode cb_Mo_bytes 20 = .ok (.iconst 4, 1) := by decide +kernel
theorem dc_Mo_bytes_21 : decode cb_Mo_bytes 21 = .ok (.if_icmp .le 5, 3) := by decide +kernel
theorem dc_Mo_bytes_24 : decode cb_Mo_bytes 24 = .ok (.iconst 0, 1) := by decide +kernel
theorem dc_Mo_bytes_25 : decode cb_Mo_bytes 25 = .ok (.ireturn, 1) := by decide +kernel
theorem dc_Mo_bytes_26 : decode cb_Mo_bytes 26 = .ok (.aload_n 0, 1) := by decide +kernel
theorem dc_Mo_bytes_27 : decode cb_Mo_bytes 27 = .ok (.getfield 144, 3) := by decide +kernel
theorem dc_Mo_bytes_30 : decode cb_Mo_bytes 30 = .ok (.iload_n 1, 1) := by decide +kernel
theorem dc_Mo_bytes_31 : decode cb_Mo_bytes 31 = .ok (.iadd, 1) := by decide +kernel
theorem dc_Mo_bytes_32 : decode cb_Mo_bytes 32 = .ok (.bipush 120, 2) := by decide +kernel
theorem dc_Mo_bytes_34 : decode cb_Mo_bytes 34 = .ok (.if_icmp .le 5, 3) := by decide +kernel
theorem dc_Mo_bytes_37 : decode cb_Mo_bytes 37 = .ok (.iconst 0, 1) := by decide +kernel
theorem dc_Mo_bytes_38 : decode cb_Mo_bytes 38 = .ok (.ireturn, 1) := by decide +kernel
theorem dc_Mo_bytes_39 : decode cb_Mo_bytes 39 = .ok (.iconst 0, 1) := by decide +kernel
theorem dc_Mo_bytes_40 : decode cb_Mo_bytes 40 = .ok (.istore_n 3, 1) := by decide +kernel
theorem dc_Mo_bytes_41 : decode cb_Mo_bytes 41 = .ok (.iload_n 3, 1) := by decide +kernel
theorem dc_Mo_bytes_42 : decode cb_Mo_bytes 42 = .ok (.iload_n 1, 1) := by decide +kernel
theorem dc_Mo_bytes_43 : decode cb_Mo_bytes 43 = .ok (.if_icmp .ge 30, 3) := by decide +kernel
theorem dc_Mo_bytes_46 : decode cb_Mo_bytes 46 = .ok (.aload_n 0, 1) := by decide +kernel
theorem dc_Mo_bytes_47 : decode cb_Mo_bytes 47 = .ok (.getfield 23, 3) := by decide +kernel
theorem dc_Mo_bytes_50 : decode cb_Mo_bytes 50 = .ok (.aload_n 0, 1) := by decide +kernel
theorem dc_Mo_bytes_51 : decode cb_Mo_bytes 51 = .ok (.getfield 144, 3) := by decide +kernel
theorem dc_Mo_bytes_54 : decode cb_Mo_bytes 54 = .ok (.iload_n 3, 1) := by decide +kernel
theorem dc_Mo_bytes_55 : decode cb_Mo_bytes 55 = .ok (.iadd, 1) := by decide +kernel
theorem dc_Mo_bytes_56 : decode cb_Mo_bytes 56 = .ok (.iload_n 2, 1) := by decide +kernel
theorem dc_Mo_bytes_57 : decode cb_Mo_bytes 57 = .ok (.bipush 8, 2) := by decide +kernel
theorem dc_Mo_bytes_59 : decode cb_Mo_bytes 59 = .ok (.iload_n 3, 1) := by decide +kernel
theorem dc_Mo_bytes_60 : decode cb_Mo_bytes 60 = .ok (.imul, 1) := by decide +kernel
theorem dc_Mo_bytes_61 : decode cb_Mo_bytes 61 = .ok (.ishr, 1) := by decide +kernel
theorem dc_Mo_bytes_62 : decode cb_Mo_bytes 62 = .ok (.sipush 255, 3) := by decide +kernel
theorem dc_Mo_bytes_65 : decode cb_Mo_bytes 65 = .ok (.iand, 1) := by decide +kernel
theorem dc_Mo_bytes_66 : decode cb_Mo_bytes 66 = .ok (.iastore, 1) := by decide +kernel
theorem dc_Mo_bytes_67 : decode cb_Mo_bytes 67 = .ok (.iinc 3 1, 3) := by decide +kernel
theorem dc_Mo_bytes_70 : decode cb_Mo_bytes 70 = .ok (.goto (-29), 3) := by decide +kernel
theorem dc_Mo_bytes_73 : decode cb_Mo_bytes 73 = .ok (.aload_n 0, 1) := by decide +kernel
theorem dc_Mo_bytes_74 : decode cb_Mo_bytes 74 = .ok (.aload_n 0, 1) := by decide +kernel
theorem dc_Mo_bytes_75 : decode cb_Mo_bytes 75 = .ok (.getfield 144, 3) := by decide +kernel
theorem dc_Mo_bytes_78 : decode cb_Mo_bytes 78 = .ok (.iload_n 1, 1) := by decide +kernel
theorem dc_Mo_bytes_79 : decode cb_Mo_bytes 79 = .ok (.iadd, 1) := by decide +kernel
theorem dc_Mo_bytes_80 : decode cb_Mo_bytes 80 = .ok (.putfield 144, 3) := by decide +kernel
theorem dc_Mo_bytes_83 : decode cb_Mo_bytes 83 = .ok (.iload_n 1, 1) := by decide +kernel
theorem dc_Mo_bytes_84 : decode cb_Mo_bytes 84 = .ok (.ireturn, 1) := by decide +kernel
theorem yk_Mo_bytes : fq_Y my_Mo_bytes cb_Mo_bytes 4 (some .int) 2 := ⟨wd_914, wd_36, by decide +kernel⟩
theorem dc_Mo_producerStep_0 : decode cb_Mo_producerStep 0 = .ok (.aload_n 0, 1) := by decide +kernel
theorem dc_Mo_producerStep_1 : decode cb_Mo_producerStep 1 = .ok (.getfield 159, 3) := by decide +kernel
theorem dc_Mo_producerStep_4 : decode cb_Mo_producerStep 4 = .ok (.iconst 1, 1) := by decide +kernel
theorem dc_Mo_producerStep_5 : decode cb_Mo_producerStep 5 = .ok (.if_icmp .eq 5, 3) := by decide +kernel
theorem dc_Mo_producerStep_8 : decode cb_Mo_producerStep 8 = .ok (.iconst 0, 1) := by decide +kernel
theorem dc_Mo_producerStep_9 : decode cb_Mo_producerStep 9 = .ok (.ireturn, 1) := by decide +kernel
theorem dc_Mo_producerStep_10 : decode cb_Mo_producerStep 10 = .ok (.aload_n 0, 1) := by decide +kernel
theorem dc_Mo_producerStep_11 : decode cb_Mo_producerStep 11 = .ok (.getfield 138, 3) := by decide +kernel
theorem dc_Mo_producerStep_14 : decode cb_Mo_producerStep 14 = .ok (.aload_n 0, 1) := by decide +kernel
theorem dc_Mo_producerStep_15 : decode cb_Mo_producerStep 15 = .ok (.getfield 153, 3) := by decide +kernel
theorem dc_Mo_producerStep_18 : decode cb_Mo_producerStep 18 = .ok (.if_icmp .le 56, 3) := by decide +kernel
theorem dc_Mo_producerStep_21 : decode cb_Mo_producerStep 21 = .ok (.aload_n 0, 1) := by decide +kernel
theorem dc_Mo_producerStep_22 : decode cb_Mo_producerStep 22 = .ok (.getfield 162, 3) := by decide +kernel
theorem dc_Mo_producerStep_25 : decode cb_Mo_producerStep 25 = .ok (.iconst 3, 1) := by decide +kernel
theorem dc_Mo_producerStep_26 : decode cb_Mo_producerStep 26 = .ok (.if_icmp .ne 18, 3) := by decide +kernel
theorem dc_Mo_producerStep_29 : decode cb_Mo_producerStep 29 = .ok (.aload_n 0, 1) := by decide +kernel
theorem dc_Mo_producerStep_30 : decode cb_Mo_producerStep 30 = .ok (.aload_n 0, 1) := by decide +kernel
theorem dc_Mo_producerStep_31 : decode cb_Mo_producerStep 31 = .ok (.getfield 153, 3) := by decide +kernel
theorem dc_Mo_producerStep_34 : decode cb_Mo_producerStep 34 = .ok (.putfield 138, 3) := by decide +kernel
theorem dc_Mo_producerStep_37 : decode cb_Mo_producerStep 37 = .ok (.aload_n 0, 1) := by decide +kernel
theorem dc_Mo_producerStep_38 : decode cb_Mo_producerStep 38 = .ok (.iconst 2, 1) := by decide +kernel
theorem dc_Mo_producerStep_39 : decode cb_Mo_producerStep 39 = .ok (.putfield 159, 3) := by decide +kernel
theorem dc_Mo_producerStep_42 : decode cb_Mo_producerStep 42 = .ok (.iconst 1, 1) := by decide +kernel
theorem dc_Mo_producerStep_43 : decode cb_Mo_producerStep 43 = .ok (.ireturn, 1) := by decide +kernel
theorem dc_Mo_producerStep_44 : decode cb_Mo_producerStep 44 = .ok (.aload_n 0, 1) := by decide +kernel
theorem dc_Mo_producerStep_45 : decode cb_Mo_producerStep 45 = .ok (.getfield 153, 3) := by decide +kernel
theorem dc_Mo_producerStep_48 : decode cb_Mo_producerStep 48 = .ok (.aload_n 0, 1) := by decide +kernel
theorem dc_Mo_producerStep_49 : decode cb_Mo_producerStep 49 = .ok (.getfield 156, 3) := by decide +kernel
theorem dc_Mo_producerStep_52 : decode cb_Mo_producerStep 52 = .ok (.isub, 1) := by decide +kernel
theorem dc_Mo_producerStep_53 : decode cb_Mo_producerStep 53 = .ok (.aload_n 0, 1) := by decide +kernel
theorem dc_Mo_producerStep_54 : decode cb_Mo_producerStep 54 = .ok (.getfield 35, 3) := by decide +kernel
theorem dc_Mo_producerStep_57 : decode cb_Mo_producerStep 57 = .ok (.if_icmp .ne 5, 3) := by decide +kernel
theorem dc_Mo_producerStep_60 : decode cb_Mo_producerStep 60 = .ok (.iconst 0, 1) := by decide +kernel
theorem dc_Mo_producerStep_61 : decode cb_Mo_producerStep 61 = .ok (.ireturn, 1) := by decide +kernel
theorem dc_Mo_producerStep_62 : decode cb_Mo_producerStep 62 = .ok (.aload_n 0, 1) := by decide +kernel
theorem dc_Mo_producerStep_63 : decode cb_Mo_producerStep 63 = .ok (.dup, 1) := by decide +kernel
theorem dc_Mo_producerStep_64 : decode cb_Mo_producerStep 64 = .ok (.getfield 153, 3) := by decide +kernel
theorem dc_Mo_producerStep_67 : decode cb_Mo_producerStep 67 = .ok (.iconst 1, 1) := by decide +kernel
theorem dc_Mo_producerStep_68 : decode cb_Mo_producerStep 68 = .ok (.iadd, 1) := by decide +kernel
theorem dc_Mo_producerStep_69 : decode cb_Mo_producerStep 69 = .ok (.putfield 153, 3) := by decide +kernel
theorem dc_Mo_producerStep_72 : decode cb_Mo_producerStep 72 = .ok (.iconst 1, 1) := by decide +kernel
theorem dc_Mo_producerStep_73 : decode cb_Mo_producerStep 73 = .ok (.ireturn, 1) := by decide +kernel
theorem dc_Mo_producerStep_74 : decode cb_Mo_producerStep 74 = .ok (.aload_n 0, 1) := by decide +kernel
theorem dc_Mo_producerStep_75 : decode cb_Mo_producerStep 75 = .ok (.getfield 144, 3) := by decide +kernel
theorem dc_Mo_producerStep_78 : decode cb_Mo_producerStep 78 = .ok (.aload_n 0, 1) := by decide +kernel
theorem dc_Mo_producerStep_79 : decode cb_Mo_producerStep 79 = .ok (.getfield 147, 3) := by decide +kernel
theorem dc_Mo_producerStep_82 : decode cb_Mo_producerStep 82 = .ok (.isub, 1) := by decide +kernel
theorem dc_Mo_producerStep_83 : decode cb_Mo_producerStep 83 = .ok (.aload_n 0, 1) := by decide +kernel
theorem dc_Mo_producerStep_84 : decode cb_Mo_producerStep 84 = .ok (.getfield 16, 3) := by decide +kernel
theorem dc_Mo_producerStep_87 : decode cb_Mo_producerStep 87 = .ok (.if_icmp .lt 49, 3) := by decide +kernel
theorem dc_Mo_producerStep_90 : decode cb_Mo_producerStep 90 = .ok (.aload_n 0, 1) := by decide +kernel
theorem dc_Mo_producerStep_91 : decode cb_Mo_producerStep 91 = .ok (.getfield 26, 3) := by decide +kernel
theorem dc_Mo_producerStep_94 : decode cb_Mo_producerStep 94 = .ok (.aload_n 0, 1) := by decide +kernel
theorem dc_Mo_producerStep_95 : decode cb_Mo_producerStep 95 = .ok (.getfield 128, 3) := by decide +kernel
theorem dc_Mo_producerStep_98 : decode cb_Mo_producerStep 98 = .ok (.aload_n 0, 1) := by decide +kernel
theorem dc_Mo_producerStep_99 : decode cb_Mo_producerStep 99 = .ok (.aload_n 0, 1) := by decide +kernel
theorem dc_Mo_producerStep_100 : decode cb_Mo_producerStep 100 = .ok (.getfield 147, 3) := by decide +kernel
theorem dc_Mo_producerStep_103 : decode cb_Mo_producerStep 103 = .ok (.invokevirtual 168, 3) := by decide +kernel
theorem dc_Mo_producerStep_106 : decode cb_Mo_producerStep 106 = .ok (.iastore, 1) := by decide +kernel
theorem dc_Mo_producerStep_107 : decode cb_Mo_producerStep 107 = .ok (.aload_n 0, 1) := by decide +kernel
theorem dc_Mo_producerStep_108 : decode cb_Mo_producerStep 108 = .ok (.dup, 1) := by decide +kernel
theorem dc_Mo_producerStep_109 : decode cb_Mo_producerStep 109 = .ok (.getfield 128, 3) := by decide +kernel
theorem dc_Mo_producerStep_112 : decode cb_Mo_producerStep 112 = .ok (.iconst 1, 1) := by decide +kernel
theorem dc_Mo_producerStep_113 : decode cb_Mo_producerStep 113 = .ok (.iadd, 1) := by decide +kernel
theorem dc_Mo_producerStep_114 : decode cb_Mo_producerStep 114 = .ok (.putfield 128, 3) := by decide +kernel
theorem dc_Mo_producerStep_117 : decode cb_Mo_producerStep 117 = .ok (.aload_n 0, 1) := by decide +kernel
theorem dc_Mo_producerStep_118 : decode cb_Mo_producerStep 118 = .ok (.aload_n 0, 1) := by decide +kernel
theorem dc_Mo_producerStep_119 : decode cb_Mo_producerStep 119 = .ok (.getfield 147, 3) := by decide +kernel
theorem dc_Mo_producerStep_122 : decode cb_Mo_producerStep 122 = .ok (.aload_n 0, 1) := by decide +kernel
theorem dc_Mo_producerStep_123 : decode cb_Mo_producerStep 123 = .ok (.getfield 16, 3) := by decide +kernel
theorem dc_Mo_producerStep_126 : decode cb_Mo_producerStep 126 = .ok (.iadd, 1) := by decide +kernel
theorem dc_Mo_producerStep_127 : decode cb_Mo_producerStep 127 = .ok (.putfield 147, 3) := by decide +kernel
theorem dc_Mo_producerStep_130 : decode cb_Mo_producerStep 130 = .ok (.aload_n 0, 1) := by decide +kernel
theorem dc_Mo_producerStep_131 : decode cb_Mo_producerStep 131 = .ok (.invokevirtual 172, 3) := by decide +kernel
theorem dc_Mo_producerStep_134 : decode cb_Mo_producerStep 134 = .ok (.iconst 1, 1) := by decide +kernel
theorem dc_Mo_producerStep_135 : decode cb_Mo_producerStep 135 = .ok (.ireturn, 1) := by decide +kernel
theorem dc_Mo_producerStep_136 : decode cb_Mo_producerStep 136 = .ok (.aload_n 0, 1) := by decide +kernel
theorem dc_Mo_producerStep_137 : decode cb_Mo_producerStep 137 = .ok (.getfield 150, 3) := by decide +kernel
theorem dc_Mo_producerStep_140 : decode cb_Mo_producerStep 140 = .ok (.ifCond .ne 5, 3) := by decide +kernel
theorem dc_Mo_producerStep_143 : decode cb_Mo_producerStep 143 = .ok (.iconst 0, 1) := by decide +kernel
theorem dc_Mo_producerStep_144 : decode cb_Mo_producerStep 144 = .ok (.ireturn, 1) := by decide +kernel
theorem dc_Mo_producerStep_145 : decode cb_Mo_producerStep 145 = .ok (.aload_n 0, 1) := by decide +kernel
theorem dc_Mo_producerStep_146 : decode cb_Mo_producerStep 146 = .ok (.getfield 114, 3) := by decide +kernel
theorem dc_Mo_producerStep_149 : decode cb_Mo_producerStep 149 = .ok (.ifCond .eq 10, 3) := by decide +kernel
theorem dc_Mo_producerStep_152 : decode cb_Mo_producerStep 152 = .ok (.aload_n 0, 1) := by decide +kernel
theorem dc_Mo_producerStep_153 : decode cb_Mo_producerStep 153 = .ok (.iconst 2, 1) := by decide +kernel
theorem dc_Mo_producerStep_154 : decode cb_Mo_producerStep 154 = .ok (.putfield 159, 3) := by decide +kernel
theorem dc_Mo_producerStep_157 : decode cb_Mo_producerStep 157 = .ok (.iconst 1, 1) := by decide +kernel
theorem dc_Mo_producerStep_158 : decode cb_Mo_producerStep 158 = .ok (.ireturn, 1) := by decide +kernel
theorem dc_Mo_producerStep_159 : decode cb_Mo_producerStep 159 = .ok (.aload_n 0, 1) := by decide +kernel
theorem dc_Mo_producerStep_160 : decode cb_Mo_producerStep 160 = .ok (.aload_n 0, 1) := by decide +kernel
theorem dc_Mo_producerStep_161 : decode cb_Mo_producerStep 161 = .ok (.getfield 144, 3) := by decide +kernel
theorem dc_Mo_producerStep_164 : decode cb_Mo_producerStep 164 = .ok (.putfield 147, 3) := by decide +kernel
theorem dc_Mo_producerStep_167 : decode cb_Mo_producerStep 167 = .ok (.aload_n 0, 1) := by decide +kernel
theorem dc_Mo_producerStep_168 : decode cb_Mo_producerStep 168 = .ok (.iconst 1, 1) := by decide +kernel
theorem dc_Mo_producerStep_169 : decode cb_Mo_producerStep 169 = .ok (.putfield 114, 3) := by decide +kernel
theorem dc_Mo_producerStep_172 : decode cb_Mo_producerStep 172 = .ok (.aload_n 0, 1) := by decide +kernel
theorem dc_Mo_producerStep_173 : decode cb_Mo_producerStep 173 = .ok (.invokevirtual 172, 3) := by decide +kernel
theorem dc_Mo_producerStep_176 : decode cb_Mo_producerStep 176 = .ok (.iconst 1, 1) := by decide +kernel
theorem dc_Mo_producerStep_177 : decode cb_Mo_producerStep 177 = .ok (.ireturn, 1) := by decide +kernel
theorem yk_Mo_producerStep : fq_Y my_Mo_producerStep cb_Mo_producerStep 1 (some .boolean) 0 := ⟨wd_926, wd_36, by decide +kernel⟩
set_option maxHeartbeats 4000000 in
set_option maxRecDepth 100000 in
theorem ct_Mo_sampleOf (l : Launch) (D : va_G) (cI cO : ClassId) (tE : Nat) (h aK aN aB aS aL aX : Nat) (rm : Nat) (sd : Bool) (ns : Nat) (iw : Nat) (ow : Nat) (ih : Bool) (oh : Bool) (ca : Nat) (us : Nat) (cl : Bool) (fl : Bool) (tk : Nat) (md : Nat) (gi : Nat) (su : Nat) (ps : Nat) (cs : Nat) (fK fN fB fS fL fX : Nat → Int32) (Lb : List Int32) (pu : Nat) (hl4 : iw ≤ Lb.length) (hby : ∀ x ∈ Lb, 0 ≤ x.toInt ∧ x.toInt < 256) (hfB : ∀ k, k < iw → fB (pu + k) = Lb.getD k 0) (hpu : pu + iw ≤ 120) (hiw : 1 ≤ iw ∧ iw ≤ 4) (sz : Nat) : Met l my_Mo_sampleOf (fq_w my_Mo_sampleOf cb_Mo_sampleOf 6 (some .int)) ({ frames := 1, cells := 0, slots := 0, locals := 25 }) (va_Pc ([.ref h, .int (nI pu)]) (fq_Pre D cI cO tE sz ([(h, .inr (12, [.int (nI rm), .int (fq_b sd), .int (nI ns), .ref aK, .ref aN, .int (nI iw), .int (nI ow), .int (fq_b ih), .int (fq_b oh), .ref aB, .int (nI ca), .int (nI us), .int (fq_b cl), .int (fq_b fl), .ref aS, .int (nI tk), .ref aL, .ref aX, .int (nI md), .int (nI gi), .int (nI su), .int (nI ps), .int (nI cs)])), (aK, .inl (cI, 5, .inl fK)), (aN, .inl (cI, 25, .inl fN)), (aB, .inl (cI, 120, .inl fB)), (aS, .inl (cI, 120, .inl fS)), (aL, .inl (cI, 2300, .inl fL)), (aX, .inl (cI, 2300, .inl fX))]))) (va_Qi (S := va_W) (fun r w => w = [(h, .inr (12, [.int (nI rm), .int (fq_b sd), .int (nI ns), .ref aK, .ref aN, .int (nI iw), .int (nI ow), .int (fq_b ih), .int (fq_b oh), .ref aB, .int (nI ca), .int (nI us), .int (fq_b cl), .int (fq_b fl), .ref aS, .int (nI tk), .ref aL, .ref aX, .int (nI md), .int (nI gi), .int (nI su), .int (nI ps), .int (nI cs)])), (aK, .inl (cI, 5, .inl fK)), (aN, .inl (cI, 25, .inl fN)), (aB, .inl (cI, 120, .inl fB)), (aS, .inl (cI, 120, .inl fS)), (aL, .inl (cI, 2300, .inl fL)), (aX, .inl (cI, 2300, .inl fX))] ∧ r.toInt = ns_s iw (ns_v iw ih Lb iw)) (fq_Bw D (va_A ([(h, .inr (12, [.int (nI rm), .int (fq_b sd), .int (nI ns), .ref aK, .ref aN, .int (nI iw), .int (nI ow), .int (fq_b ih), .int (fq_b oh), .ref aB, .int (nI ca), .int (nI us), .int (fq_b cl), .int (fq_b fl), .ref aS, .int (nI tk), .ref aL, .ref aX, .int (nI md), .int (nI gi), .int (nI su), .int (nI ps), .int (nI cs)])), (aK, .inl (cI, 5, .inl fK)), (aN, .inl (cI, 25, .inl fN)), (aB, .inl (cI, 120, .inl fB)), (aS, .inl (cI, 120, .inl fS)), (aL, .inl (cI, 2300, .inl fL)), (aX, .inl (cI, 2300, .inl fX))]) sz)) (va_A ([(h, .inr (12, [.int (nI rm), .int (fq_b sd), .int (nI ns), .ref aK, .ref aN, .int (nI iw), .int (nI ow), .int (fq_b ih), .int (fq_b oh), .ref aB, .int (nI ca), .int (nI us), .int (fq_b cl), .int (fq_b fl), .ref aS, .int (nI tk), .ref aL, .ref aX, .int (nI md), .int (nI gi), .int (nI su), .int (nI ps), .int (nI cs)])), (aK, .inl (cI, 5, .inl fK)), (aN, .inl (cI, 25, .inl fN)), (aB, .inl (cI, 120, .inl fB)), (aS, .inl (cI, 120, .inl fS)), (aL, .inl (cI, 2300, .inl fL)), (aX, .inl (cI, 2300, .inl fX))]) sz)) (0) (0) (va_A ([(h, .inr (12, [.int (nI rm), .int (fq_b sd), .int (nI ns), .ref aK, .ref aN, .int (nI iw), .int (nI ow), .int (fq_b ih), .int (fq_b oh), .ref aB, .int (nI ca), .int (nI us), .int (fq_b cl), .int (fq_b fl), .ref aS, .int (nI tk), .ref aL, .ref aX, .int (nI md), .int (nI gi), .int (nI su), .int (nI ps), .int (nI cs)])), (aK, .inl (cI, 5, .inl fK)), (aN, .inl (cI, 25, .inl fN)), (aB, .inl (cI, 120, .inl fB)), (aS, .inl (cI, 120, .inl fS)), (aL, .inl (cI, 2300, .inl fL)), (aX, .inl (cI, 2300, .inl fX))]) sz) := by
  refine fq_open (by decide +kernel) (Nat.le_of_ble_eq_true rfl) ?_
  intro pg ev s mt below meth cd ls K hret hlk hin hK hZ hP hD hA hS hl
  generalize va_A ([(h, .inr (12, [.int (nI rm), .int (fq_b sd), .int (nI ns), .ref aK, .ref aN, .int (nI iw), .int (nI ow), .int (fq_b ih), .int (fq_b oh), .ref aB, .int (nI ca), .int (nI us), .int (fq_b cl), .int (fq_b fl), .ref aS, .int (nI tk), .ref aL, .ref aX, .int (nI md), .int (nI gi), .int (nI su), .int (nI ps), .int (nI cs)])), (aK, .inl (cI, 5, .inl fK)), (aN, .inl (cI, 25, .inl fN)), (aB, .inl (cI, 120, .inl fB)), (aS, .inl (cI, 120, .inl fS)), (aL, .inl (cI, 2300, .inl fL)), (aX, .inl (cI, 2300, .inl fX))]) sz = A at hZ hD hA hS ⊢
  have K : fq_Ctx pg mt cd cb_Mo_sampleOf 6 s _ cn_Mo := K
  have hl : lv_has ls 6 [(0, .ref h), (1, .int (nI pu))] := hl
  have hV := ns_lt (b := ih) hiw.2 (ns_bs hby hl4) (k := iw) (Nat.le_refl _)
  refine lv_lconst (v := 0) K.1 K.2.1 dc_Mo_sampleOf_0 (by decide) ?_
  refine lv_lstore_n K.1 K.2.1 dc_Mo_sampleOf_1 rfl hl (by decide) rfl (fun ls hl => ?_)
  have hl : lv_has ls 6 [(2, .long 0), (0, .ref h), (1, .int (nI pu))] := hl
  refine lv_iconst (v := 0) K.1 K.2.1 dc_Mo_sampleOf_2 (by decide) ?_
  refine lv_istore K.1 K.2.1 dc_Mo_sampleOf_3 hl (by decide) rfl (fun ls hl => ?_)
  have hl : lv_has ls 6 [(4, .int 0), (2, .long 0), (0, .ref h), (1, .int (nI pu))] := hl
  refine fq_lp (σ := Nat × Int64) (fun x => iw - x.1) (fun x H locs ls => (x.1 ≤ iw ∧ x.2.toInt = (ns_v iw ih Lb x.1 : Int)) ∧ lv_has ls 6 [(0, .ref h), (1, .int (nI pu)), (2, .long x.2), (4, .int (nI x.1))] ∧ va_P D fq_cl ([(h, .inr (12, [.int (nI rm), .int (fq_b sd), .int (nI ns), .ref aK, .ref aN, .int (nI iw), .int (nI ow), .int (fq_b ih), .int (fq_b oh), .ref aB, .int (nI ca), .int (nI us), .int (fq_b cl), .int (fq_b fl), .ref aS, .int (nI tk), .ref aL, .ref aX, .int (nI md), .int (nI gi), .int (nI su), .int (nI ps), .int (nI cs)])), (aK, .inl (cI, 5, .inl fK)), (aN, .inl (cI, 25, .inl fN)), (aB, .inl (cI, 120, .inl fB)), (aS, .inl (cI, 120, .inl fS)), (aL, .inl (cI, 2300, .inl fL)), (aX, .inl (cI, 2300, .inl fX))]) H ∧ va_D A ([(h, .inr (12, [.int (nI rm), .int (fq_b sd), .int (nI ns), .ref aK, .ref aN, .int (nI iw), .int (nI ow), .int (fq_b ih), .int (fq_b oh), .ref aB, .int (nI ca), .int (nI us), .int (fq_b cl), .int (fq_b fl), .ref aS, .int (nI tk), .ref aL, .ref aX, .int (nI md), .int (nI gi), .int (nI su), .int (nI ps), .int (nI cs)])), (aK, .inl (cI, 5, .inl fK)), (aN, .inl (cI, 25, .inl fN)), (aB, .inl (cI, 120, .inl fB)), (aS, .inl (cI, 120, .inl fS)), (aL, .inl (cI, 2300, .inl fL)), (aX, .inl (cI, 2300, .inl fX))]) ∧ va_S A s.heap H locs) ?_ (0, 0) _ _ _ ⟨⟨Nat.zero_le _, rfl⟩, lv_sub hl [2, 3, 1, 0] rfl, hP, hD, hS⟩
  rintro ⟨j, vv⟩ H locs ls ⟨hI5, hl, hP, hD, hS⟩ ih5
  have hI5 : j ≤ iw ∧ vv.toInt = (ns_v iw ih Lb j : Int) := hI5
  have hl : lv_has ls 6 [(0, .ref h), (1, .int (nI pu)), (2, .long vv), (4, .int (nI j))] := hl
  have hP : va_P D fq_cl ([(h, .inr (12, [.int (nI rm), .int (fq_b sd), .int (nI ns), .ref aK, .ref aN, .int (nI iw), .int (nI ow), .int (fq_b ih), .int (fq_b oh), .ref aB, .int (nI ca), .int (nI us), .int (fq_b cl), .int (fq_b fl), .ref aS, .int (nI tk), .ref aL, .ref aX, .int (nI md), .int (nI gi), .int (nI su), .int (nI ps), .int (nI cs)])), (aK, .inl (cI, 5, .inl fK)), (aN, .inl (cI, 25, .inl fN)), (aB, .inl (cI, 120, .inl fB)), (aS, .inl (cI, 120, .inl fS)), (aL, .inl (cI, 2300, .inl fL)), (aX, .inl (cI, 2300, .inl fX))]) _ := hP
  have hD : va_D A ([(h, .inr (12, [.int (nI rm), .int (fq_b sd), .int (nI ns), .ref aK, .ref aN, .int (nI iw), .int (nI ow), .int (fq_b ih), .int (fq_b oh), .ref aB, .int (nI ca), .int (nI us), .int (fq_b cl), .int (fq_b fl), .ref aS, .int (nI tk), .ref aL, .ref aX, .int (nI md), .int (nI gi), .int (nI su), .int (nI ps), .int (nI cs)])), (aK, .inl (cI, 5, .inl fK)), (aN, .inl (cI, 25, .inl fN)), (aB, .inl (cI, 120, .inl fB)), (aS, .inl (cI, 120, .inl fS)), (aL, .inl (cI, 2300, .inl fL)), (aX, .inl (cI, 2300, .inl fX))]) := hD
  refine lv_iload K.1 K.2.1 dc_Mo_sampleOf_5 (lv_at hl 3 rfl) ?_
  refine lv_aload_n K.1 K.2.1 dc_Mo_sampleOf_7 rfl (lv_at hl 0 rfl) ?_
  refine fq_get K hK cl_Mo hP 0 5 rfl (by decide) wd_775 rfl dc_Mo_sampleOf_8 ?_
  refine lv_icmp_ge (tgt := 62) K.1 K.2.1 dc_Mo_sampleOf_11 rfl (fun b11 => ?_) (fun b11 => ?_)
  · skip
    have hj : j = iw := by have := hI5.1; rw [nI_leI (by omega) (by omega)] at b11; omega
    have hvv : vv.toInt = (ns_v iw ih Lb iw : Int) := by have z := hI5.2; rw [hj] at z; exact z
    refine lv_aload_n K.1 K.2.1 dc_Mo_sampleOf_62 rfl (lv_at hl 0 rfl) ?_
    refine fq_get K hK cl_Mo hP 0 5 rfl (by decide) wd_775 rfl dc_Mo_sampleOf_63 ?_
    refine lv_iconst (v := 1) K.1 K.2.1 dc_Mo_sampleOf_66 (by decide) ?_
    refine lv_icmp_ne (tgt := 80) K.1 K.2.1 dc_Mo_sampleOf_67 rfl (fun b67 => ?_) (fun b67 => ?_)
    · skip
      have nw1 : ¬ iw = 1 := fun z => b67 (by rw [z]; rfl)
      refine lv_lconst (v := 1) K.1 K.2.1 dc_Mo_sampleOf_80 (by decide) ?_
      refine lv_bipush (v := 8) K.1 K.2.1 dc_Mo_sampleOf_81 (by decide) ?_
      refine lv_aload_n K.1 K.2.1 dc_Mo_sampleOf_83 rfl (lv_at hl 0 rfl) ?_
      refine fq_get K hK cl_Mo hP 0 5 rfl (by decide) wd_775 rfl dc_Mo_sampleOf_84 ?_
      refine lv_imul K.1 K.2.1 dc_Mo_sampleOf_87 ?_
      refine fq_asi (y := nI (8 * iw)) (pk_mul 8 iw) ?_
      refine lv_iconst (v := 1) K.1 K.2.1 dc_Mo_sampleOf_88 (by decide) ?_
      refine lv_isub K.1 K.2.1 dc_Mo_sampleOf_89 ?_
      refine fq_asi (y := nI (8 * iw - 1)) (pk_sub (a := 8 * iw) (b := 1) (by omega)) ?_
      refine lv_lshl K.1 K.2.1 dc_Mo_sampleOf_90 rfl ?_
      refine lv_topl (fun v1 e_v1 => ?_)
      refine lv_lstore K.1 K.2.1 dc_Mo_sampleOf_91 hl (by decide) rfl (fun ls hl => ?_)
      have hl : lv_has ls 6 [(4, .long v1), (0, .ref h), (1, .int (nI pu)), (2, .long vv)] := hl
      refine lv_lload_n K.1 K.2.1 dc_Mo_sampleOf_93 rfl (lv_at hl 3 rfl) ?_
      refine lv_lload K.1 K.2.1 dc_Mo_sampleOf_94 (lv_at hl 0 rfl) ?_
      refine W.lcmp K.1 K.2.1 dc_Mo_sampleOf_96 ?_
      refine lv_if_lt (tgt := 111) K.1 K.2.1 dc_Mo_sampleOf_97 rfl (fun b97 => ?_) (fun b97 => ?_)
      · skip
        rw [lg_cmp_lt] at b97
        refine lv_lload_n K.1 K.2.1 dc_Mo_sampleOf_111 rfl (lv_at hl 3 rfl) ?_
        refine lv_lstore_n K.1 K.2.1 dc_Mo_sampleOf_112 rfl hl (by decide) rfl (fun ls hl => ?_)
        have hl : lv_has ls 6 [(2, .long vv), (4, .long v1), (0, .ref h), (1, .int (nI pu))] := hl
        have hu : vv.toInt = (ns_v iw ih Lb iw : Int).bmod (2 ^ (8 * iw)) := ms_sa ⟨by omega, hiw.2⟩ hvv (ms_hf ⟨by omega, hiw.2⟩ e_v1) b97
        refine lv_aload_n K.1 K.2.1 dc_Mo_sampleOf_113 rfl (lv_at hl 2 rfl) ?_
        refine fq_get K hK cl_Mo hP 0 5 rfl (by decide) wd_775 rfl dc_Mo_sampleOf_114 ?_
        refine lv_iconst (v := 2) K.1 K.2.1 dc_Mo_sampleOf_117 (by decide) ?_
        refine lv_icmp_ne (tgt := 130) K.1 K.2.1 dc_Mo_sampleOf_118 rfl (fun b118 => ?_) (fun b118 => ?_)
        · skip
          have nw2 : ¬ iw = 2 := fun z => b118 (by rw [z]; rfl)
          refine lv_aload_n K.1 K.2.1 dc_Mo_sampleOf_130 rfl (lv_at hl 2 rfl) ?_
          refine fq_get K hK cl_Mo hP 0 5 rfl (by decide) wd_775 rfl dc_Mo_sampleOf_131 ?_
          refine lv_iconst (v := 3) K.1 K.2.1 dc_Mo_sampleOf_134 (by decide) ?_
          refine lv_icmp_ne (tgt := 143) K.1 K.2.1 dc_Mo_sampleOf_135 rfl (fun b135 => ?_) (fun b135 => ?_)
          · skip
            have nw3 : ¬ iw = 3 := fun z => b135 (by rw [z]; rfl)
            have w4 : iw = 4 := by omega
            refine lv_lload_n K.1 K.2.1 dc_Mo_sampleOf_143 rfl (lv_at hl 0 rfl) ?_
            refine lv_ldc2 (v := 256) K.1 K.2.1 K.2.2.2.1 (K.2.2.2.2 _ wd_860) dc_Mo_sampleOf_144 ?_
            have hc := fq_cut.of (wc := []) hP hD hS hA [] (by decide) rfl
            refine fq_cl_ (wr := [(h, .inr (12, [.int (nI rm), .int (fq_b sd), .int (nI ns), .ref aK, .ref aN, .int (nI iw), .int (nI ow), .int (fq_b ih), .int (fq_b oh), .ref aB, .int (nI ca), .int (nI us), .int (fq_b cl), .int (fq_b fl), .ref aS, .int (nI tk), .ref aL, .ref aX, .int (nI md), .int (nI gi), .int (nI su), .int (nI ps), .int (nI cs)])), (aK, .inl (cI, 5, .inl fK)), (aN, .inl (cI, 25, .inl fN)), (aB, .inl (cI, 120, .inl fB)), (aS, .inl (cI, 120, .inl fS)), (aL, .inl (cI, 2300, .inl fL)), (aX, .inl (cI, 2300, .inl fX))]) (fq_rS K hK hZ hS hc (ct_Mo_floor l D cI cO tE vv 256 (by decide) _) yk_Mo_floor wd_868 wd_867 ⟨⟨rfl, rfl⟩, ⟨Nat.le_of_ble_eq_true rfl, Nat.le_of_ble_eq_true rfl⟩, ⟨Nat.le_of_ble_eq_true rfl, Nat.le_of_ble_eq_true rfl⟩⟩ hl.1 rfl (Nat.le_of_ble_eq_true rfl) dc_Mo_sampleOf_147) hP hD hS hc [] [0, 1, 2, 3, 4, 5, 6] rfl rfl (by decide) (by decide) (fun r1 w H locs hw1 hP hD hS => ?_)
            obtain ⟨rfl, hd1⟩ := hw1
            have hP : va_P D fq_cl ([(h, .inr (12, [.int (nI rm), .int (fq_b sd), .int (nI ns), .ref aK, .ref aN, .int (nI iw), .int (nI ow), .int (fq_b ih), .int (fq_b oh), .ref aB, .int (nI ca), .int (nI us), .int (fq_b cl), .int (fq_b fl), .ref aS, .int (nI tk), .ref aL, .ref aX, .int (nI md), .int (nI gi), .int (nI su), .int (nI ps), .int (nI cs)])), (aK, .inl (cI, 5, .inl fK)), (aN, .inl (cI, 25, .inl fN)), (aB, .inl (cI, 120, .inl fB)), (aS, .inl (cI, 120, .inl fS)), (aL, .inl (cI, 2300, .inl fL)), (aX, .inl (cI, 2300, .inl fX))]) _ := hP
            have hD : va_D A ([(h, .inr (12, [.int (nI rm), .int (fq_b sd), .int (nI ns), .ref aK, .ref aN, .int (nI iw), .int (nI ow), .int (fq_b ih), .int (fq_b oh), .ref aB, .int (nI ca), .int (nI us), .int (fq_b cl), .int (fq_b fl), .ref aS, .int (nI tk), .ref aL, .ref aX, .int (nI md), .int (nI gi), .int (nI su), .int (nI ps), .int (nI cs)])), (aK, .inl (cI, 5, .inl fK)), (aN, .inl (cI, 25, .inl fN)), (aB, .inl (cI, 120, .inl fB)), (aS, .inl (cI, 120, .inl fS)), (aL, .inl (cI, 2300, .inl fL)), (aX, .inl (cI, 2300, .inl fX))]) := hD
            refine lv_l2i K.1 K.2.1 dc_Mo_sampleOf_150 rfl ?_
            exact fq_reti K hret hlk hS hP hD ⟨rfl, ms_4 w4 hu hd1⟩ dc_Mo_sampleOf_151 (Nat.le_of_ble_eq_true rfl) (Nat.le_of_ble_eq_true rfl)
          · skip
            have w3 : iw = 3 := (nI_eq (by omega) (by decide)).mp b135
            refine lv_lload_n K.1 K.2.1 dc_Mo_sampleOf_138 rfl (lv_at hl 0 rfl) ?_
            refine lv_l2i K.1 K.2.1 dc_Mo_sampleOf_139 rfl ?_
            refine lv_goto (tgt := 151) K.1 K.2.1 dc_Mo_sampleOf_140 rfl ?_
            exact fq_reti K hret hlk hS hP hD ⟨rfl, ms_3 w3 hu⟩ dc_Mo_sampleOf_151 (Nat.le_of_ble_eq_true rfl) (Nat.le_of_ble_eq_true rfl)
        · skip
          have w2 : iw = 2 := (nI_eq (by omega) (by decide)).mp b118
          refine lv_ldc2 (v := 256) K.1 K.2.1 K.2.2.2.1 (K.2.2.2.2 _ wd_860) dc_Mo_sampleOf_121 ?_
          refine lv_lload_n K.1 K.2.1 dc_Mo_sampleOf_124 rfl (lv_at hl 0 rfl) ?_
          refine lv_lmul K.1 K.2.1 dc_Mo_sampleOf_125 ?_
          refine lv_l2i K.1 K.2.1 dc_Mo_sampleOf_126 rfl ?_
          refine lv_goto (tgt := 151) K.1 K.2.1 dc_Mo_sampleOf_127 rfl ?_
          exact fq_reti K hret hlk hS hP hD ⟨rfl, ms_2 w2 hu⟩ dc_Mo_sampleOf_151 (Nat.le_of_ble_eq_true rfl) (Nat.le_of_ble_eq_true rfl)
      · skip
        rw [lg_cmp_lt] at b97
        refine lv_lload_n K.1 K.2.1 dc_Mo_sampleOf_100 rfl (lv_at hl 3 rfl) ?_
        refine lv_ldc2 (v := 2) K.1 K.2.1 K.2.2.2.1 (K.2.2.2.2 _ wd_866) dc_Mo_sampleOf_101 ?_
        refine lv_lload K.1 K.2.1 dc_Mo_sampleOf_104 (lv_at hl 0 rfl) ?_
        refine lv_lmul K.1 K.2.1 dc_Mo_sampleOf_106 ?_
        refine lv_lsub K.1 K.2.1 dc_Mo_sampleOf_107 ?_
        refine lv_goto (tgt := 112) K.1 K.2.1 dc_Mo_sampleOf_108 rfl ?_
        refine lv_topl (fun v2 e_v2 => ?_)
        refine lv_lstore_n K.1 K.2.1 dc_Mo_sampleOf_112 rfl hl (by decide) rfl (fun ls hl => ?_)
        have hl : lv_has ls 6 [(2, .long v2), (4, .long v1), (0, .ref h), (1, .int (nI pu))] := hl
        have hu : v2.toInt = (ns_v iw ih Lb iw : Int).bmod (2 ^ (8 * iw)) := ms_sb ⟨by omega, hiw.2⟩ hV hvv (ms_hf ⟨by omega, hiw.2⟩ e_v1) b97 e_v2
        refine lv_aload_n K.1 K.2.1 dc_Mo_sampleOf_113 rfl (lv_at hl 2 rfl) ?_
        refine fq_get K hK cl_Mo hP 0 5 rfl (by decide) wd_775 rfl dc_Mo_sampleOf_114 ?_
        refine lv_iconst (v := 2) K.1 K.2.1 dc_Mo_sampleOf_117 (by decide) ?_
        refine lv_icmp_ne (tgt := 130) K.1 K.2.1 dc_Mo_sampleOf_118 rfl (fun b118 => ?_) (fun b118 => ?_)
        · skip
          have nw2 : ¬ iw = 2 := fun z => b118 (by rw [z]; rfl)
          refine lv_aload_n K.1 K.2.1 dc_Mo_sampleOf_130 rfl (lv_at hl 2 rfl) ?_
          refine fq_get K hK cl_Mo hP 0 5 rfl (by decide) wd_775 rfl dc_Mo_sampleOf_131 ?_
          refine lv_iconst (v := 3) K.1 K.2.1 dc_Mo_sampleOf_134 (by decide) ?_
          refine lv_icmp_ne (tgt := 143) K.1 K.2.1 dc_Mo_sampleOf_135 rfl (fun b135 => ?_) (fun b135 => ?_)
          · skip
            have nw3 : ¬ iw = 3 := fun z => b135 (by rw [z]; rfl)
            have w4 : iw = 4 := by omega
            refine lv_lload_n K.1 K.2.1 dc_Mo_sampleOf_143 rfl (lv_at hl 0 rfl) ?_
            refine lv_ldc2 (v := 256) K.1 K.2.1 K.2.2.2.1 (K.2.2.2.2 _ wd_860) dc_Mo_sampleOf_144 ?_
            have hc := fq_cut.of (wc := []) hP hD hS hA [] (by decide) rfl
            refine fq_cl_ (wr := [(h, .inr (12, [.int (nI rm), .int (fq_b sd), .int (nI ns), .ref aK, .ref aN, .int (nI iw), .int (nI ow), .int (fq_b ih), .int (fq_b oh), .ref aB, .int (nI ca), .int (nI us), .int (fq_b cl), .int (fq_b fl), .ref aS, .int (nI tk), .ref aL, .ref aX, .int (nI md), .int (nI gi), .int (nI su), .int (nI ps), .int (nI cs)])), (aK, .inl (cI, 5, .inl fK)), (aN, .inl (cI, 25, .inl fN)), (aB, .inl (cI, 120, .inl fB)), (aS, .inl (cI, 120, .inl fS)), (aL, .inl (cI, 2300, .inl fL)), (aX, .inl (cI, 2300, .inl fX))]) (fq_rS K hK hZ hS hc (ct_Mo_floor l D cI cO tE v2 256 (by decide) _) yk_Mo_floor wd_868 wd_867 ⟨⟨rfl, rfl⟩, ⟨Nat.le_of_ble_eq_true rfl, Nat.le_of_ble_eq_true rfl⟩, ⟨Nat.le_of_ble_eq_true rfl, Nat.le_of_ble_eq_true rfl⟩⟩ hl.1 rfl (Nat.le_of_ble_eq_true rfl) dc_Mo_sampleOf_147) hP hD hS hc [] [0, 1, 2, 3, 4, 5, 6] rfl rfl (by decide) (by decide) (fun r2 w H locs hw2 hP hD hS => ?_)
            obtain ⟨rfl, hd2⟩ := hw2
            have hP : va_P D fq_cl ([(h, .inr (12, [.int (nI rm), .int (fq_b sd), .int (nI ns), .ref aK, .ref aN, .int (nI iw), .int (nI ow), .int (fq_b ih), .int (fq_b oh), .ref aB, .int (nI ca), .int (nI us), .int (fq_b cl), .int (fq_b fl), .ref aS, .int (nI tk), .ref aL, .ref aX, .int (nI md), .int (nI gi), .int (nI su), .int (nI ps), .int (nI cs)])), (aK, .inl (cI, 5, .inl fK)), (aN, .inl (cI, 25, .inl fN)), (aB, .inl (cI, 120, .inl fB)), (aS, .inl (cI, 120, .inl fS)), (aL, .inl (cI, 2300, .inl fL)), (aX, .inl (cI, 2300, .inl fX))]) _ := hP
            have hD : va_D A ([(h, .inr (12, [.int (nI rm), .int (fq_b sd), .int (nI ns), .ref aK, .ref aN, .int (nI iw), .int (nI ow), .int (fq_b ih), .int (fq_b oh), .ref aB, .int (nI ca), .int (nI us), .int (fq_b cl), .int (fq_b fl), .ref aS, .int (nI tk), .ref aL, .ref aX, .int (nI md), .int (nI gi), .int (nI su), .int (nI ps), .int (nI cs)])), (aK, .inl (cI, 5, .inl fK)), (aN, .inl (cI, 25, .inl fN)), (aB, .inl (cI, 120, .inl fB)), (aS, .inl (cI, 120, .inl fS)), (aL, .inl (cI, 2300, .inl fL)), (aX, .inl (cI, 2300, .inl fX))]) := hD
            refine lv_l2i K.1 K.2.1 dc_Mo_sampleOf_150 rfl ?_
            exact fq_reti K hret hlk hS hP hD ⟨rfl, ms_4 w4 hu hd2⟩ dc_Mo_sampleOf_151 (Nat.le_of_ble_eq_true rfl) (Nat.le_of_ble_eq_true rfl)
          · skip
            have w3 : iw = 3 := (nI_eq (by omega) (by decide)).mp b135
            refine lv_lload_n K.1 K.2.1 dc_Mo_sampleOf_138 rfl (lv_at hl 0 rfl) ?_
            refine lv_l2i K.1 K.2.1 dc_Mo_sampleOf_139 rfl ?_
            refine lv_goto (tgt := 151) K.1 K.2.1 dc_Mo_sampleOf_140 rfl ?_
            exact fq_reti K hret hlk hS hP hD ⟨rfl, ms_3 w3 hu⟩ dc_Mo_sampleOf_151 (Nat.le_of_ble_eq_true rfl) (Nat.le_of_ble_eq_true rfl)
        · skip
          have w2 : iw = 2 := (nI_eq (by omega) (by decide)).mp b118
          refine lv_ldc2 (v := 256) K.1 K.2.1 K.2.2.2.1 (K.2.2.2.2 _ wd_860) dc_Mo_sampleOf_121 ?_
          refine lv_lload_n K.1 K.2.1 dc_Mo_sampleOf_124 rfl (lv_at hl 0 rfl) ?_
          refine lv_lmul K.1 K.2.1 dc_Mo_sampleOf_125 ?_
          refine lv_l2i K.1 K.2.1 dc_Mo_sampleOf_126 rfl ?_
          refine lv_goto (tgt := 151) K.1 K.2.1 dc_Mo_sampleOf_127 rfl ?_
          exact fq_reti K hret hlk hS hP hD ⟨rfl, ms_2 w2 hu⟩ dc_Mo_sampleOf_151 (Nat.le_of_ble_eq_true rfl) (Nat.le_of_ble_eq_true rfl)
    · skip
      have w1 : iw = 1 := (nI_eq (by omega) (by decide)).mp b67
      refine lv_lload_n K.1 K.2.1 dc_Mo_sampleOf_70 rfl (lv_at hl 2 rfl) ?_
      refine lv_ldc2 (v := 128) K.1 K.2.1 K.2.2.2.1 (K.2.2.2.2 _ wd_931) dc_Mo_sampleOf_71 ?_
      refine lv_lsub K.1 K.2.1 dc_Mo_sampleOf_74 ?_
      refine lv_l2i K.1 K.2.1 dc_Mo_sampleOf_75 rfl ?_
      refine lv_ldc (v := 65536) K.1 K.2.1 K.2.2.2.1 (K.2.2.2.2 _ wd_932) dc_Mo_sampleOf_76 ?_
      refine lv_imul K.1 K.2.1 dc_Mo_sampleOf_78 ?_
      exact fq_reti K hret hlk hS hP hD ⟨rfl, ms_1 w1 hV hvv⟩ dc_Mo_sampleOf_79 (Nat.le_of_ble_eq_true rfl) (Nat.le_of_ble_eq_true rfl)
  · skip
    have hj : j < iw := by have := hI5.1; rw [nI_leI (by omega) (by omega)] at b11; omega
    refine lv_aload_n K.1 K.2.1 dc_Mo_sampleOf_14 rfl (lv_at hl 0 rfl) ?_
    refine fq_get K hK cl_Mo hP 0 7 rfl (by decide) wd_777 rfl dc_Mo_sampleOf_15 ?_
    refine lv_if_eq (tgt := 33) K.1 K.2.1 dc_Mo_sampleOf_18 rfl (fun b18 => ?_) (fun b18 => ?_)
    · skip
      have hih := fq_b0 b18
      refine lv_iload K.1 K.2.1 dc_Mo_sampleOf_33 (lv_at hl 3 rfl) ?_
      refine lv_istore K.1 K.2.1 dc_Mo_sampleOf_35 hl (by decide) rfl (fun ls hl => ?_)
      have hl : lv_has ls 6 [(5, .int (nI j)), (0, .ref h), (1, .int (nI pu)), (2, .long vv), (4, .int (nI j))] := hl
      refine lv_lload_n K.1 K.2.1 dc_Mo_sampleOf_37 rfl (lv_at hl 3 rfl) ?_
      refine lv_aload_n K.1 K.2.1 dc_Mo_sampleOf_38 rfl (lv_at hl 1 rfl) ?_
      refine fq_get K hK cl_Mo hP 0 9 rfl (by decide) wd_779 rfl dc_Mo_sampleOf_39 ?_
      refine lv_iload_n K.1 K.2.1 dc_Mo_sampleOf_42 rfl (lv_at hl 2 rfl) ?_
      refine lv_iload K.1 K.2.1 dc_Mo_sampleOf_43 (lv_at hl 4 rfl) ?_
      refine lv_iadd K.1 K.2.1 dc_Mo_sampleOf_45 ?_
      refine fq_asi (y := nI (pu + j)) (nI_add _ _) ?_
      refine fq_ald K hK hP 3 rfl (vp_in_nI (show pu + j < 120 by omega) (by decide)) dc_Mo_sampleOf_46 ?_
      refine fq_asi (y := fB (pu + j)) (by rw [nI_clamp (show pu + j < 2 ^ 31 by omega)]) ?_
      refine lv_i2l K.1 K.2.1 dc_Mo_sampleOf_47 rfl ?_
      refine lv_bipush (v := 8) K.1 K.2.1 dc_Mo_sampleOf_48 (by decide) ?_
      refine lv_iload K.1 K.2.1 dc_Mo_sampleOf_50 (lv_at hl 0 rfl) ?_
      refine lv_imul K.1 K.2.1 dc_Mo_sampleOf_52 ?_
      refine fq_asi (y := nI (ly_sh iw ih j)) (ly_sh0 hih) ?_
      refine lv_lshl K.1 K.2.1 dc_Mo_sampleOf_53 rfl ?_
      refine lv_ladd K.1 K.2.1 dc_Mo_sampleOf_54 ?_
      refine lv_topl (fun v3 e_v3 => ?_)
      refine lv_lstore_n K.1 K.2.1 dc_Mo_sampleOf_55 rfl hl (by decide) rfl (fun ls hl => ?_)
      have hl : lv_has ls 6 [(2, .long v3), (5, .int (nI j)), (0, .ref h), (1, .int (nI pu)), (4, .int (nI j))] := hl
      refine lv_iinc (v := nI (j + 1)) K.1 K.2.1 dc_Mo_sampleOf_56 hl (k := 4) rfl (nI_1 j) (by decide) rfl (fun ls hl => ?_)
      have hl : lv_has ls 6 [(4, .int (nI (j + 1))), (2, .long v3), (5, .int (nI j)), (0, .ref h), (1, .int (nI pu))] := hl
      refine lv_goto (tgt := 5) K.1 K.2.1 dc_Mo_sampleOf_59 rfl ?_
      exact ih5 (j + 1, v3) _ _ _ (by show iw - (j + 1) < iw - j; omega) ⟨(ms_st hiw hl4 hby hj (hfB j hj) hI5 e_v3), lv_sub hl [3, 4, 1, 0] rfl, hP, hD, hS⟩
    · skip
      have hih := fq_b1 b18
      refine lv_aload_n K.1 K.2.1 dc_Mo_sampleOf_21 rfl (lv_at hl 0 rfl) ?_
      refine fq_get K hK cl_Mo hP 0 5 rfl (by decide) wd_775 rfl dc_Mo_sampleOf_22 ?_
      refine lv_iconst (v := 1) K.1 K.2.1 dc_Mo_sampleOf_25 (by decide) ?_
      refine lv_isub K.1 K.2.1 dc_Mo_sampleOf_26 ?_
      refine fq_asi (y := nI (iw - 1)) (pk_sub (a := iw) (b := 1) (by omega)) ?_
      refine lv_iload K.1 K.2.1 dc_Mo_sampleOf_27 (lv_at hl 3 rfl) ?_
      refine lv_isub K.1 K.2.1 dc_Mo_sampleOf_29 ?_
      refine fq_asi (y := nI (iw - 1 - j)) (pk_sub (by omega)) ?_
      refine lv_goto (tgt := 35) K.1 K.2.1 dc_Mo_sampleOf_30 rfl ?_
      refine lv_istore K.1 K.2.1 dc_Mo_sampleOf_35 hl (by decide) rfl (fun ls hl => ?_)
      have hl : lv_has ls 6 [(5, .int (nI (iw - 1 - j))), (0, .ref h), (1, .int (nI pu)), (2, .long vv), (4, .int (nI j))] := hl
      refine lv_lload_n K.1 K.2.1 dc_Mo_sampleOf_37 rfl (lv_at hl 3 rfl) ?_
      refine lv_aload_n K.1 K.2.1 dc_Mo_sampleOf_38 rfl (lv_at hl 1 rfl) ?_
      refine fq_get K hK cl_Mo hP 0 9 rfl (by decide) wd_779 rfl dc_Mo_sampleOf_39 ?_
      refine lv_iload_n K.1 K.2.1 dc_Mo_sampleOf_42 rfl (lv_at hl 2 rfl) ?_
      refine lv_iload K.1 K.2.1 dc_Mo_sampleOf_43 (lv_at hl 4 rfl) ?_
      refine lv_iadd K.1 K.2.1 dc_Mo_sampleOf_45 ?_
      refine fq_asi (y := nI (pu + j)) (nI_add _ _) ?_
      refine fq_ald K hK hP 3 rfl (vp_in_nI (show pu + j < 120 by omega) (by decide)) dc_Mo_sampleOf_46 ?_
      refine fq_asi (y := fB (pu + j)) (by rw [nI_clamp (show pu + j < 2 ^ 31 by omega)]) ?_
      refine lv_i2l K.1 K.2.1 dc_Mo_sampleOf_47 rfl ?_
      refine lv_bipush (v := 8) K.1 K.2.1 dc_Mo_sampleOf_48 (by decide) ?_
      refine lv_iload K.1 K.2.1 dc_Mo_sampleOf_50 (lv_at hl 0 rfl) ?_
      refine lv_imul K.1 K.2.1 dc_Mo_sampleOf_52 ?_
      refine fq_asi (y := nI (ly_sh iw ih j)) (ly_sh1 hih) ?_
      refine lv_lshl K.1 K.2.1 dc_Mo_sampleOf_53 rfl ?_
      refine lv_ladd K.1 K.2.1 dc_Mo_sampleOf_54 ?_
      refine lv_topl (fun v4 e_v4 => ?_)
      refine lv_lstore_n K.1 K.2.1 dc_Mo_sampleOf_55 rfl hl (by decide) rfl (fun ls hl => ?_)
      have hl : lv_has ls 6 [(2, .long v4), (5, .int (nI (iw - 1 - j))), (0, .ref h), (1, .int (nI pu)), (4, .int (nI j))] := hl
      refine lv_iinc (v := nI (j + 1)) K.1 K.2.1 dc_Mo_sampleOf_56 hl (k := 4) rfl (nI_1 j) (by decide) rfl (fun ls hl => ?_)
      have hl : lv_has ls 6 [(4, .int (nI (j + 1))), (2, .long v4), (5, .int (nI (iw - 1 - j))), (0, .ref h), (1, .int (nI pu))] := hl
      refine lv_goto (tgt := 5) K.1 K.2.1 dc_Mo_sampleOf_59 rfl ?_
      exact ih5 (j + 1, v4) _ _ _ (by show iw - (j + 1) < iw - j; omega) ⟨(ms_st hiw hl4 hby hj (hfB j hj) hI5 e_v4), lv_sub hl [3, 4, 1, 0] rfl, hP, hD, hS⟩
set_option maxHeartbeats 4000000 in
set_option maxRecDepth 100000 in
theorem ct_Mo_bytes (l : Launch) (D : va_G) (cI cO : ClassId) (tE : Nat) (h aK aN aB aS aL aX : Nat) (rm : Nat) (sd : Bool) (ns : Nat) (iw : Nat) (ow : Nat) (ih : Bool) (oh : Bool) (ca : Nat) (us : Nat) (cl : Bool) (fl : Bool) (tk : Nat) (md : Nat) (gi : Nat) (su : Nat) (ps : Nat) (cs : Nat) (fK fN fB fS fL fX : Nat → Int32) (xn y : Int32) (hca : ca ≤ 120) (sz : Nat) : Met l my_Mo_bytes (fq_w my_Mo_bytes cb_Mo_bytes 4 (some .int)) ({ frames := 0, cells := 0, slots := 0, locals := 0 }) (va_Pc ([.ref h, .int xn, .int y]) (fq_Pre D cI cO tE sz ([(h, .inr (12, [.int (nI rm), .int (fq_b sd), .int (nI ns), .ref aK, .ref aN, .int (nI iw), .int (nI ow), .int (fq_b ih), .int (fq_b oh), .ref aB, .int (nI ca), .int (nI us), .int (fq_b cl), .int (fq_b fl), .ref aS, .int (nI tk), .ref aL, .ref aX, .int (nI md), .int (nI gi), .int (nI su), .int (nI ps), .int (nI cs)])), (aK, .inl (cI, 5, .inl fK)), (aN, .inl (cI, 25, .inl fN)), (aB, .inl (cI, 120, .inl fB)), (aS, .inl (cI, 120, .inl fS)), (aL, .inl (cI, 2300, .inl fL)), (aX, .inl (cI, 2300, .inl fX))]))) (va_Qi (S := va_W) (fun r w => if sd = true ∧ cl = false ∧ (1 ≤ xn.toInt ∧ xn.toInt ≤ 4) ∧ ca + xn.toInt.toNat ≤ 120 then r = xn ∧ w = [(h, .inr (12, [.int (nI rm), .int (fq_b sd), .int (nI ns), .ref aK, .ref aN, .int (nI iw), .int (nI ow), .int (fq_b ih), .int (fq_b oh), .ref aB, .int (nI (ca + xn.toInt.toNat)), .int (nI us), .int (fq_b cl), .int (fq_b fl), .ref aS, .int (nI tk), .ref aL, .ref aX, .int (nI md), .int (nI gi), .int (nI su), .int (nI ps), .int (nI cs)])), (aK, .inl (cI, 5, .inl fK)), (aN, .inl (cI, 25, .inl fN)), (aB, .inl (cI, 120, .inl (bs_F fB ca y xn.toInt.toNat))), (aS, .inl (cI, 120, .inl fS)), (aL, .inl (cI, 2300, .inl fL)), (aX, .inl (cI, 2300, .inl fX))] else r = 0 ∧ w = [(h, .inr (12, [.int (nI rm), .int (fq_b sd), .int (nI ns), .ref aK, .ref aN, .int (nI iw), .int (nI ow), .int (fq_b ih), .int (fq_b oh), .ref aB, .int (nI ca), .int (nI us), .int (fq_b cl), .int (fq_b fl), .ref aS, .int (nI tk), .ref aL, .ref aX, .int (nI md), .int (nI gi), .int (nI su), .int (nI ps), .int (nI cs)])), (aK, .inl (cI, 5, .inl fK)), (aN, .inl (cI, 25, .inl fN)), (aB, .inl (cI, 120, .inl fB)), (aS, .inl (cI, 120, .inl fS)), (aL, .inl (cI, 2300, .inl fL)), (aX, .inl (cI, 2300, .inl fX))]) (fq_Bw D (va_A ([(h, .inr (12, [.int (nI rm), .int (fq_b sd), .int (nI ns), .ref aK, .ref aN, .int (nI iw), .int (nI ow), .int (fq_b ih), .int (fq_b oh), .ref aB, .int (nI ca), .int (nI us), .int (fq_b cl), .int (fq_b fl), .ref aS, .int (nI tk), .ref aL, .ref aX, .int (nI md), .int (nI gi), .int (nI su), .int (nI ps), .int (nI cs)])), (aK, .inl (cI, 5, .inl fK)), (aN, .inl (cI, 25, .inl fN)), (aB, .inl (cI, 120, .inl fB)), (aS, .inl (cI, 120, .inl fS)), (aL, .inl (cI, 2300, .inl fL)), (aX, .inl (cI, 2300, .inl fX))]) sz)) (va_A ([(h, .inr (12, [.int (nI rm), .int (fq_b sd), .int (nI ns), .ref aK, .ref aN, .int (nI iw), .int (nI ow), .int (fq_b ih), .int (fq_b oh), .ref aB, .int (nI ca), .int (nI us), .int (fq_b cl), .int (fq_b fl), .ref aS, .int (nI tk), .ref aL, .ref aX, .int (nI md), .int (nI gi), .int (nI su), .int (nI ps), .int (nI cs)])), (aK, .inl (cI, 5, .inl fK)), (aN, .inl (cI, 25, .inl fN)), (aB, .inl (cI, 120, .inl fB)), (aS, .inl (cI, 120, .inl fS)), (aL, .inl (cI, 2300, .inl fL)), (aX, .inl (cI, 2300, .inl fX))]) sz)) (0) (0) (va_A ([(h, .inr (12, [.int (nI rm), .int (fq_b sd), .int (nI ns), .ref aK, .ref aN, .int (nI iw), .int (nI ow), .int (fq_b ih), .int (fq_b oh), .ref aB, .int (nI ca), .int (nI us), .int (fq_b cl), .int (fq_b fl), .ref aS, .int (nI tk), .ref aL, .ref aX, .int (nI md), .int (nI gi), .int (nI su), .int (nI ps), .int (nI cs)])), (aK, .inl (cI, 5, .inl fK)), (aN, .inl (cI, 25, .inl fN)), (aB, .inl (cI, 120, .inl fB)), (aS, .inl (cI, 120, .inl fS)), (aL, .inl (cI, 2300, .inl fL)), (aX, .inl (cI, 2300, .inl fX))]) sz) := by
  refine fq_open (by decide +kernel) (Nat.le_of_ble_eq_true rfl) ?_
  intro pg ev s mt below meth cd ls K hret hlk hin hK hZ hP hD hA hS hl
  generalize va_A ([(h, .inr (12, [.int (nI rm), .int (fq_b sd), .int (nI ns), .ref aK, .ref aN, .int (nI iw), .int (nI ow), .int (fq_b ih), .int (fq_b oh), .ref aB, .int (nI ca), .int (nI us), .int (fq_b cl), .int (fq_b fl), .ref aS, .int (nI tk), .ref aL, .ref aX, .int (nI md), .int (nI gi), .int (nI su), .int (nI ps), .int (nI cs)])), (aK, .inl (cI, 5, .inl fK)), (aN, .inl (cI, 25, .inl fN)), (aB, .inl (cI, 120, .inl fB)), (aS, .inl (cI, 120, .inl fS)), (aL, .inl (cI, 2300, .inl fL)), (aX, .inl (cI, 2300, .inl fX))]) sz = A at hZ hD hA hS ⊢
  have K : fq_Ctx pg mt cd cb_Mo_bytes 4 s _ cn_Mo := K
  have hl : lv_has ls 4 [(0, .ref h), (1, .int xn), (2, .int y)] := hl
  refine lv_aload_n K.1 K.2.1 dc_Mo_bytes_0 rfl (lv_at hl 0 rfl) ?_
  refine fq_get K hK cl_Mo hP 0 1 rfl (by decide) wd_771 rfl dc_Mo_bytes_1 ?_
  refine lv_if_eq (tgt := 24) K.1 K.2.1 dc_Mo_bytes_4 rfl (fun b4 => ?_) (fun b4 => ?_)
  · skip
    have hn : ¬ (sd = true ∧ cl = false ∧ (1 ≤ xn.toInt ∧ xn.toInt ≤ 4) ∧ ca + xn.toInt.toNat ≤ 120) := fun z => by rw [fq_b0 b4] at z; exact absurd z.1 (by decide)
    refine lv_iconst (v := 0) K.1 K.2.1 dc_Mo_bytes_24 (by decide) ?_
    exact fq_reti K hret hlk hS hP hD (by rw [if_neg hn]; exact ⟨rfl, rfl⟩) dc_Mo_bytes_25 (Nat.le_of_ble_eq_true rfl) (Nat.le_of_ble_eq_true rfl)
  · skip
    have hs := fq_b1 b4
    refine lv_aload_n K.1 K.2.1 dc_Mo_bytes_7 rfl (lv_at hl 0 rfl) ?_
    refine fq_get K hK cl_Mo hP 0 12 rfl (by decide) wd_782 rfl dc_Mo_bytes_8 ?_
    refine lv_if_ne (tgt := 24) K.1 K.2.1 dc_Mo_bytes_11 rfl (fun b11 => ?_) (fun b11 => ?_)
    · skip
      have hn : ¬ (sd = true ∧ cl = false ∧ (1 ≤ xn.toInt ∧ xn.toInt ≤ 4) ∧ ca + xn.toInt.toNat ≤ 120) := fun z => by rw [fq_b1 b11] at z; exact absurd z.2.1 (by decide)
      refine lv_iconst (v := 0) K.1 K.2.1 dc_Mo_bytes_24 (by decide) ?_
      exact fq_reti K hret hlk hS hP hD (by rw [if_neg hn]; exact ⟨rfl, rfl⟩) dc_Mo_bytes_25 (Nat.le_of_ble_eq_true rfl) (Nat.le_of_ble_eq_true rfl)
    · skip
      have hcl := fq_b0 b11
      refine lv_iload_n K.1 K.2.1 dc_Mo_bytes_14 rfl (lv_at hl 1 rfl) ?_
      refine lv_iconst (v := 1) K.1 K.2.1 dc_Mo_bytes_15 (by decide) ?_
      refine lv_icmp_lt (tgt := 24) K.1 K.2.1 dc_Mo_bytes_16 rfl (fun b16 => ?_) (fun b16 => ?_)
      · skip
        rw [Int32.lt_iff_toInt_lt, show (1 : Int32).toInt = 1 by decide] at b16
        have hn : ¬ (sd = true ∧ cl = false ∧ (1 ≤ xn.toInt ∧ xn.toInt ≤ 4) ∧ ca + xn.toInt.toNat ≤ 120) := fun z => by have := z.2.2.1; omega
        refine lv_iconst (v := 0) K.1 K.2.1 dc_Mo_bytes_24 (by decide) ?_
        exact fq_reti K hret hlk hS hP hD (by rw [if_neg hn]; exact ⟨rfl, rfl⟩) dc_Mo_bytes_25 (Nat.le_of_ble_eq_true rfl) (Nat.le_of_ble_eq_true rfl)
      · skip
        rw [Int32.lt_iff_toInt_lt, show (1 : Int32).toInt = 1 by decide] at b16
        refine lv_iload_n K.1 K.2.1 dc_Mo_bytes_19 rfl (lv_at hl 1 rfl) ?_
        refine lv_iconst (v := 4) K.1 K.2.1 dc_Mo_bytes_20 (by decide) ?_
        refine lv_icmp_le (tgt := 26) K.1 K.2.1 dc_Mo_bytes_21 rfl (fun b21 => ?_) (fun b21 => ?_)
        · skip
          rw [Int32.le_iff_toInt_le, show (4 : Int32).toInt = 4 by decide] at b21
          refine lv_aload_n K.1 K.2.1 dc_Mo_bytes_26 rfl (lv_at hl 0 rfl) ?_
          refine fq_get K hK cl_Mo hP 0 10 rfl (by decide) wd_780 rfl dc_Mo_bytes_27 ?_
          refine lv_iload_n K.1 K.2.1 dc_Mo_bytes_30 rfl (lv_at hl 1 rfl) ?_
          refine fq_asi (y := nI xn.toInt.toNat) (fz_n (by omega)) ?_
          refine lv_iadd K.1 K.2.1 dc_Mo_bytes_31 ?_
          refine fq_asi (y := nI (ca + xn.toInt.toNat)) (nI_add _ _) ?_
          refine lv_bipush (v := 120) K.1 K.2.1 dc_Mo_bytes_32 (by decide) ?_
          refine lv_icmp_le (tgt := 39) K.1 K.2.1 dc_Mo_bytes_34 rfl (fun b34 => ?_) (fun b34 => ?_)
          · skip
            have hc : ca + xn.toInt.toNat ≤ 120 := (nI_leI (b := 120) (by omega) (by decide)).mp b34
            refine lv_iconst (v := 0) K.1 K.2.1 dc_Mo_bytes_39 (by decide) ?_
            refine lv_istore_n K.1 K.2.1 dc_Mo_bytes_40 rfl hl (by decide) rfl (fun ls hl => ?_)
            have hl : lv_has ls 4 [(3, .int 0), (0, .ref h), (1, .int xn), (2, .int y)] := hl
            refine fq_lp (σ := Nat × (Nat → Int32)) (fun x => xn.toInt.toNat - x.1) (fun x H locs ls => (x.1 ≤ xn.toInt.toNat ∧ x.2 = bs_F fB ca y x.1) ∧ lv_has ls 4 [(0, .ref h), (1, .int xn), (2, .int y), (3, .int (nI x.1))] ∧ va_P D fq_cl ([(h, .inr (12, [.int (nI rm), .int (fq_b sd), .int (nI ns), .ref aK, .ref aN, .int (nI iw), .int (nI ow), .int (fq_b ih), .int (fq_b oh), .ref aB, .int (nI ca), .int (nI us), .int (fq_b cl), .int (fq_b fl), .ref aS, .int (nI tk), .ref aL, .ref aX, .int (nI md), .int (nI gi), .int (nI su), .int (nI ps), .int (nI cs)])), (aK, .inl (cI, 5, .inl fK)), (aN, .inl (cI, 25, .inl fN)), (aB, .inl (cI, 120, .inl x.2)), (aS, .inl (cI, 120, .inl fS)), (aL, .inl (cI, 2300, .inl fL)), (aX, .inl (cI, 2300, .inl fX))]) H ∧ va_D A ([(h, .inr (12, [.int (nI rm), .int (fq_b sd), .int (nI ns), .ref aK, .ref aN, .int (nI iw), .int (nI ow), .int (fq_b ih), .int (fq_b oh), .ref aB, .int (nI ca), .int (nI us), .int (fq_b cl), .int (fq_b fl), .ref aS, .int (nI tk), .ref aL, .ref aX, .int (nI md), .int (nI gi), .int (nI su), .int (nI ps), .int (nI cs)])), (aK, .inl (cI, 5, .inl fK)), (aN, .inl (cI, 25, .inl fN)), (aB, .inl (cI, 120, .inl x.2)), (aS, .inl (cI, 120, .inl fS)), (aL, .inl (cI, 2300, .inl fL)), (aX, .inl (cI, 2300, .inl fX))]) ∧ va_S A s.heap H locs) ?_ (0, fB) _ _ _ ⟨⟨Nat.zero_le _, rfl⟩, lv_sub hl [1, 2, 3, 0] rfl, hP, hD, hS⟩
            rintro ⟨k, fb⟩ H locs ls ⟨hI41, hl, hP, hD, hS⟩ ih41
            have hI41 : k ≤ xn.toInt.toNat ∧ fb = bs_F fB ca y k := hI41
            have hl : lv_has ls 4 [(0, .ref h), (1, .int xn), (2, .int y), (3, .int (nI k))] := hl
            have hP : va_P D fq_cl ([(h, .inr (12, [.int (nI rm), .int (fq_b sd), .int (nI ns), .ref aK, .ref aN, .int (nI iw), .int (nI ow), .int (fq_b ih), .int (fq_b oh), .ref aB, .int (nI ca), .int (nI us), .int (fq_b cl), .int (fq_b fl), .ref aS, .int (nI tk), .ref aL, .ref aX, .int (nI md), .int (nI gi), .int (nI su), .int (nI ps), .int (nI cs)])), (aK, .inl (cI, 5, .inl fK)), (aN, .inl (cI, 25, .inl fN)), (aB, .inl (cI, 120, .inl fb)), (aS, .inl (cI, 120, .inl fS)), (aL, .inl (cI, 2300, .inl fL)), (aX, .inl (cI, 2300, .inl fX))]) _ := hP
            have hD : va_D A ([(h, .inr (12, [.int (nI rm), .int (fq_b sd), .int (nI ns), .ref aK, .ref aN, .int (nI iw), .int (nI ow), .int (fq_b ih), .int (fq_b oh), .ref aB, .int (nI ca), .int (nI us), .int (fq_b cl), .int (fq_b fl), .ref aS, .int (nI tk), .ref aL, .ref aX, .int (nI md), .int (nI gi), .int (nI su), .int (nI ps), .int (nI cs)])), (aK, .inl (cI, 5, .inl fK)), (aN, .inl (cI, 25, .inl fN)), (aB, .inl (cI, 120, .inl fb)), (aS, .inl (cI, 120, .inl fS)), (aL, .inl (cI, 2300, .inl fL)), (aX, .inl (cI, 2300, .inl fX))]) := hD
            refine lv_iload_n K.1 K.2.1 dc_Mo_bytes_41 rfl (lv_at hl 3 rfl) ?_
            refine lv_iload_n K.1 K.2.1 dc_Mo_bytes_42 rfl (lv_at hl 1 rfl) ?_
            refine lv_icmp_ge (tgt := 73) K.1 K.2.1 dc_Mo_bytes_43 rfl (fun b43 => ?_) (fun b43 => ?_)
            · skip
              have hk : k = xn.toInt.toNat := by have := hI41.1; have := (fz_le (x := xn) (k := k) (by omega) (by omega)).mp b43; omega
              refine lv_aload_n K.1 K.2.1 dc_Mo_bytes_73 rfl (lv_at hl 0 rfl) ?_
              refine lv_aload_n K.1 K.2.1 dc_Mo_bytes_74 rfl (lv_at hl 0 rfl) ?_
              refine fq_get K hK cl_Mo hP 0 10 rfl (by decide) wd_780 rfl dc_Mo_bytes_75 ?_
              refine lv_iload_n K.1 K.2.1 dc_Mo_bytes_78 rfl (lv_at hl 1 rfl) ?_
              refine fq_asi (y := nI xn.toInt.toNat) (fz_n (by omega)) ?_
              refine lv_iadd K.1 K.2.1 dc_Mo_bytes_79 ?_
              refine fq_asi (y := nI (ca + xn.toInt.toNat)) (nI_add _ _) ?_
              refine fq_put K hK cl_Mo hP hD hS 0 10 rfl (by decide) wd_780 rfl rfl rfl (Nat.le_of_ble_eq_true rfl) dc_Mo_bytes_80 (fun H locs hP hD hS => ?_)
              have hP : va_P D fq_cl ([(h, .inr (12, [.int (nI rm), .int (fq_b sd), .int (nI ns), .ref aK, .ref aN, .int (nI iw), .int (nI ow), .int (fq_b ih), .int (fq_b oh), .ref aB, .int (nI (ca + xn.toInt.toNat)), .int (nI us), .int (fq_b cl), .int (fq_b fl), .ref aS, .int (nI tk), .ref aL, .ref aX, .int (nI md), .int (nI gi), .int (nI su), .int (nI ps), .int (nI cs)])), (aK, .inl (cI, 5, .inl fK)), (aN, .inl (cI, 25, .inl fN)), (aB, .inl (cI, 120, .inl fb)), (aS, .inl (cI, 120, .inl fS)), (aL, .inl (cI, 2300, .inl fL)), (aX, .inl (cI, 2300, .inl fX))]) _ := hP
              have hD : va_D A ([(h, .inr (12, [.int (nI rm), .int (fq_b sd), .int (nI ns), .ref aK, .ref aN, .int (nI iw), .int (nI ow), .int (fq_b ih), .int (fq_b oh), .ref aB, .int (nI (ca + xn.toInt.toNat)), .int (nI us), .int (fq_b cl), .int (fq_b fl), .ref aS, .int (nI tk), .ref aL, .ref aX, .int (nI md), .int (nI gi), .int (nI su), .int (nI ps), .int (nI cs)])), (aK, .inl (cI, 5, .inl fK)), (aN, .inl (cI, 25, .inl fN)), (aB, .inl (cI, 120, .inl fb)), (aS, .inl (cI, 120, .inl fS)), (aL, .inl (cI, 2300, .inl fL)), (aX, .inl (cI, 2300, .inl fX))]) := hD
              refine lv_iload_n K.1 K.2.1 dc_Mo_bytes_83 rfl (lv_at hl 1 rfl) ?_
              exact fq_reti K hret hlk hS hP hD (by rw [if_pos ⟨hs, hcl, ⟨by omega, by omega⟩, hc⟩, ← hk, ← hI41.2]; exact ⟨rfl, rfl⟩) dc_Mo_bytes_84 (Nat.le_of_ble_eq_true rfl) (Nat.le_of_ble_eq_true rfl)
            · skip
              have hk : k < xn.toInt.toNat := by have := hI41.1; have : ¬ xn.toInt ≤ k := fun z => b43 ((fz_le (x := xn) (k := k) (by omega) (by omega)).mpr z); omega
              refine lv_aload_n K.1 K.2.1 dc_Mo_bytes_46 rfl (lv_at hl 0 rfl) ?_
              refine fq_get K hK cl_Mo hP 0 9 rfl (by decide) wd_779 rfl dc_Mo_bytes_47 ?_
              refine lv_aload_n K.1 K.2.1 dc_Mo_bytes_50 rfl (lv_at hl 0 rfl) ?_
              refine fq_get K hK cl_Mo hP 0 10 rfl (by decide) wd_780 rfl dc_Mo_bytes_51 ?_
              refine lv_iload_n K.1 K.2.1 dc_Mo_bytes_54 rfl (lv_at hl 3 rfl) ?_
              refine lv_iadd K.1 K.2.1 dc_Mo_bytes_55 ?_
              refine fq_asi (y := nI (ca + k)) (nI_add _ _) ?_
              refine lv_iload_n K.1 K.2.1 dc_Mo_bytes_56 rfl (lv_at hl 2 rfl) ?_
              refine lv_bipush (v := 8) K.1 K.2.1 dc_Mo_bytes_57 (by decide) ?_
              refine lv_iload_n K.1 K.2.1 dc_Mo_bytes_59 rfl (lv_at hl 3 rfl) ?_
              refine lv_imul K.1 K.2.1 dc_Mo_bytes_60 ?_
              refine lv_ishr K.1 K.2.1 dc_Mo_bytes_61 ?_
              refine lv_sipush (v := 255) K.1 K.2.1 dc_Mo_bytes_62 (by decide) ?_
              refine lv_iand K.1 K.2.1 dc_Mo_bytes_65 ?_
              refine lv_topi (fun v1 e_v1 => ?_)
              refine fq_ast K hK hP hD hS 3 rfl (vp_in_nI (show ca + k < 120 by omega) (by decide)) dc_Mo_bytes_66 (fun H locs hP hD hS => ?_)
              rw [nI_clamp (show ca + k < 2 ^ 31 by omega)] at hP hD
              have hP : va_P D fq_cl ([(h, .inr (12, [.int (nI rm), .int (fq_b sd), .int (nI ns), .ref aK, .ref aN, .int (nI iw), .int (nI ow), .int (fq_b ih), .int (fq_b oh), .ref aB, .int (nI ca), .int (nI us), .int (fq_b cl), .int (fq_b fl), .ref aS, .int (nI tk), .ref aL, .ref aX, .int (nI md), .int (nI gi), .int (nI su), .int (nI ps), .int (nI cs)])), (aK, .inl (cI, 5, .inl fK)), (aN, .inl (cI, 25, .inl fN)), (aB, .inl (cI, 120, .inl (upd fb (ca + k) v1))), (aS, .inl (cI, 120, .inl fS)), (aL, .inl (cI, 2300, .inl fL)), (aX, .inl (cI, 2300, .inl fX))]) _ := hP
              have hD : va_D A ([(h, .inr (12, [.int (nI rm), .int (fq_b sd), .int (nI ns), .ref aK, .ref aN, .int (nI iw), .int (nI ow), .int (fq_b ih), .int (fq_b oh), .ref aB, .int (nI ca), .int (nI us), .int (fq_b cl), .int (fq_b fl), .ref aS, .int (nI tk), .ref aL, .ref aX, .int (nI md), .int (nI gi), .int (nI su), .int (nI ps), .int (nI cs)])), (aK, .inl (cI, 5, .inl fK)), (aN, .inl (cI, 25, .inl fN)), (aB, .inl (cI, 120, .inl (upd fb (ca + k) v1))), (aS, .inl (cI, 120, .inl fS)), (aL, .inl (cI, 2300, .inl fL)), (aX, .inl (cI, 2300, .inl fX))]) := hD
              refine lv_iinc (v := nI (k + 1)) K.1 K.2.1 dc_Mo_bytes_67 hl (k := 3) rfl (nI_1 k) (by decide) rfl (fun ls hl => ?_)
              have hl : lv_has ls 4 [(3, .int (nI (k + 1))), (0, .ref h), (1, .int xn), (2, .int y)] := hl
              refine lv_goto (tgt := 41) K.1 K.2.1 dc_Mo_bytes_70 rfl ?_
              exact ih41 (k + 1, upd fb (ca + k) v1) _ _ _ (by show xn.toInt.toNat - (k + 1) < xn.toInt.toNat - k; omega) ⟨⟨hk, bs_S hI41.2 e_v1⟩, lv_sub hl [1, 2, 3, 0] rfl, hP, hD, hS⟩
          · skip
            have hn : ¬ (sd = true ∧ cl = false ∧ (1 ≤ xn.toInt ∧ xn.toInt ≤ 4) ∧ ca + xn.toInt.toNat ≤ 120) := fun z => b34 ((nI_leI (b := 120) (by omega) (by decide)).mpr z.2.2.2)
            refine lv_iconst (v := 0) K.1 K.2.1 dc_Mo_bytes_37 (by decide) ?_
            exact fq_reti K hret hlk hS hP hD (by rw [if_neg hn]; exact ⟨rfl, rfl⟩) dc_Mo_bytes_38 (Nat.le_of_ble_eq_true rfl) (Nat.le_of_ble_eq_true rfl)
        · skip
          rw [Int32.le_iff_toInt_le, show (4 : Int32).toInt = 4 by decide] at b21
          have hn : ¬ (sd = true ∧ cl = false ∧ (1 ≤ xn.toInt ∧ xn.toInt ≤ 4) ∧ ca + xn.toInt.toNat ≤ 120) := fun z => by have := z.2.2.1; omega
          refine lv_iconst (v := 0) K.1 K.2.1 dc_Mo_bytes_24 (by decide) ?_
          exact fq_reti K hret hlk hS hP hD (by rw [if_neg hn]; exact ⟨rfl, rfl⟩) dc_Mo_bytes_25 (Nat.le_of_ble_eq_true rfl) (Nat.le_of_ble_eq_true rfl)
set_option maxHeartbeats 4000000 in
set_option maxRecDepth 100000 in
theorem ct_Mo_producerStep (l : Launch) (D : va_G) (cI cO : ClassId) (tE : Nat) (h aK aN aB aS aL aX : Nat) (rm : Nat) (sd : Bool) (ns : Nat) (iw : Nat) (ow : Nat) (ih : Bool) (oh : Bool) (ca : Nat) (us : Nat) (cl : Bool) (fl : Bool) (tk : Nat) (md : Nat) (gi : Nat) (su : Nat) (ps : Nat) (cs : Nat) (fK fN fB fS fL fX : Nat → Int32) (sps : List fm_S) (X : List Int) (Lb : List Int32) (hpl : pl_ok sps) (hns : ns = sps.length) (hKN : mo_K fK fN sps) (htk : tk = X.length) (hSX : ∀ j, j < X.length → (fS j).toInt = X.getD j 0) (hX2 : ∀ v ∈ X, fm_in v) (htu : X.length ≤ us) (huc : us ≤ ca) (hca : ca ≤ 120) (hiw : 1 ≤ iw ∧ iw ≤ 4) (hLb : Lb.length = ca - us) (hby : ∀ x ∈ Lb, 0 ≤ x.toInt ∧ x.toInt < 256) (hfB : ∀ k, k < Lb.length → fB (us + k) = Lb.getD k 0) (hgm : gi ≤ md) (hmd : md ≤ 2300) (hsg : su ≤ gi) (hrm : rm ≤ 12) (hps : ps ≤ 3) (hcs : cs ≤ 3) (sz : Nat) : Met l my_Mo_producerStep (fq_w my_Mo_producerStep cb_Mo_producerStep 1 (some .boolean)) ({ frames := 4, cells := 0, slots := 0, locals := 106 }) (va_Pc ([.ref h]) (fq_Pre D cI cO tE sz ([(h, .inr (12, [.int (nI rm), .int (fq_b sd), .int (nI ns), .ref aK, .ref aN, .int (nI iw), .int (nI ow), .int (fq_b ih), .int (fq_b oh), .ref aB, .int (nI ca), .int (nI us), .int (fq_b cl), .int (fq_b fl), .ref aS, .int (nI tk), .ref aL, .ref aX, .int (nI md), .int (nI gi), .int (nI su), .int (nI ps), .int (nI cs)])), (aK, .inl (cI, 5, .inl fK)), (aN, .inl (cI, 25, .inl fN)), (aB, .inl (cI, 120, .inl fB)), (aS, .inl (cI, 120, .inl fS)), (aL, .inl (cI, 2300, .inl fL)), (aX, .inl (cI, 2300, .inl fX))]))) (va_Qi (S := va_W) (fun r w => if ps = 1 then (if gi < md then (if cs = 3 then r = 1 ∧ w = [(h, .inr (12, [.int (nI rm), .int (fq_b sd), .int (nI ns), .ref aK, .ref aN, .int (nI iw), .int (nI ow), .int (fq_b ih), .int (fq_b oh), .ref aB, .int (nI ca), .int (nI us), .int (fq_b cl), .int (fq_b fl), .ref aS, .int (nI tk), .ref aL, .ref aX, .int (nI gi), .int (nI gi), .int (nI su), .int (nI 2), .int (nI cs)])), (aK, .inl (cI, 5, .inl fK)), (aN, .inl (cI, 25, .inl fN)), (aB, .inl (cI, 120, .inl fB)), (aS, .inl (cI, 120, .inl fS)), (aL, .inl (cI, 2300, .inl fL)), (aX, .inl (cI, 2300, .inl fX))] else if gi - su = rm then r = 0 ∧ w = [(h, .inr (12, [.int (nI rm), .int (fq_b sd), .int (nI ns), .ref aK, .ref aN, .int (nI iw), .int (nI ow), .int (fq_b ih), .int (fq_b oh), .ref aB, .int (nI ca), .int (nI us), .int (fq_b cl), .int (fq_b fl), .ref aS, .int (nI tk), .ref aL, .ref aX, .int (nI md), .int (nI gi), .int (nI su), .int (nI ps), .int (nI cs)])), (aK, .inl (cI, 5, .inl fK)), (aN, .inl (cI, 25, .inl fN)), (aB, .inl (cI, 120, .inl fB)), (aS, .inl (cI, 120, .inl fS)), (aL, .inl (cI, 2300, .inl fL)), (aX, .inl (cI, 2300, .inl fX))] else r = 1 ∧ w = [(h, .inr (12, [.int (nI rm), .int (fq_b sd), .int (nI ns), .ref aK, .ref aN, .int (nI iw), .int (nI ow), .int (fq_b ih), .int (fq_b oh), .ref aB, .int (nI ca), .int (nI us), .int (fq_b cl), .int (fq_b fl), .ref aS, .int (nI tk), .ref aL, .ref aX, .int (nI md), .int (nI (gi + 1)), .int (nI su), .int (nI ps), .int (nI cs)])), (aK, .inl (cI, 5, .inl fK)), (aN, .inl (cI, 25, .inl fN)), (aB, .inl (cI, 120, .inl fB)), (aS, .inl (cI, 120, .inl fS)), (aL, .inl (cI, 2300, .inl fL)), (aX, .inl (cI, 2300, .inl fX))]) else if ca - us < iw then (if cl = true then (if fl = true then r = 1 ∧ w = [(h, .inr (12, [.int (nI rm), .int (fq_b sd), .int (nI ns), .ref aK, .ref aN, .int (nI iw), .int (nI ow), .int (fq_b ih), .int (fq_b oh), .ref aB, .int (nI ca), .int (nI us), .int (fq_b cl), .int (fq_b fl), .ref aS, .int (nI tk), .ref aL, .ref aX, .int (nI md), .int (nI gi), .int (nI su), .int (nI 2), .int (nI cs)])), (aK, .inl (cI, 5, .inl fK)), (aN, .inl (cI, 25, .inl fN)), (aB, .inl (cI, 120, .inl fB)), (aS, .inl (cI, 120, .inl fS)), (aL, .inl (cI, 2300, .inl fL)), (aX, .inl (cI, 2300, .inl fX))] else r = 1 ∧ ∃ gL gX : Nat → Int32, w = [(h, .inr (12, [.int (nI rm), .int (fq_b sd), .int (nI ns), .ref aK, .ref aN, .int (nI iw), .int (nI ow), .int (fq_b ih), .int (fq_b oh), .ref aB, .int (nI ca), .int (nI ca), .int (fq_b cl), .int (fq_b true), .ref aS, .int (nI tk), .ref aL, .ref aX, .int (nI ((fm_O sps true X).length)), .int (nI gi), .int (nI su), .int (nI ps), .int (nI cs)])), (aK, .inl (cI, 5, .inl fK)), (aN, .inl (cI, 25, .inl fN)), (aB, .inl (cI, 120, .inl fB)), (aS, .inl (cI, 120, .inl fS)), (aL, .inl (cI, 2300, .inl gL)), (aX, .inl (cI, 2300, .inl gX))] ∧ mo_L gL (fm_O sps true X)) else r = 0 ∧ w = [(h, .inr (12, [.int (nI rm), .int (fq_b sd), .int (nI ns), .ref aK, .ref aN, .int (nI iw), .int (nI ow), .int (fq_b ih), .int (fq_b oh), .ref aB, .int (nI ca), .int (nI us), .int (fq_b cl), .int (fq_b fl), .ref aS, .int (nI tk), .ref aL, .ref aX, .int (nI md), .int (nI gi), .int (nI su), .int (nI ps), .int (nI cs)])), (aK, .inl (cI, 5, .inl fK)), (aN, .inl (cI, 25, .inl fN)), (aB, .inl (cI, 120, .inl fB)), (aS, .inl (cI, 120, .inl fS)), (aL, .inl (cI, 2300, .inl fL)), (aX, .inl (cI, 2300, .inl fX))]) else r = 1 ∧ ∃ (v : Int32) (gL gX : Nat → Int32), v.toInt = ns_s iw (ns_v iw ih Lb iw) ∧ w = [(h, .inr (12, [.int (nI rm), .int (fq_b sd), .int (nI ns), .ref aK, .ref aN, .int (nI iw), .int (nI ow), .int (fq_b ih), .int (fq_b oh), .ref aB, .int (nI ca), .int (nI (us + iw)), .int (fq_b cl), .int (fq_b fl), .ref aS, .int (nI (tk + 1)), .ref aL, .ref aX, .int (nI ((fm_O sps fl (X ++ [ns_s iw (ns_v iw ih Lb iw)])).length)), .int (nI gi), .int (nI su), .int (nI ps), .int (nI cs)])), (aK, .inl (cI, 5, .inl fK)), (aN, .inl (cI, 25, .inl fN)), (aB, .inl (cI, 120, .inl fB)), (aS, .inl (cI, 120, .inl (upd fS tk v))), (aL, .inl (cI, 2300, .inl gL)), (aX, .inl (cI, 2300, .inl gX))] ∧ mo_L gL (fm_O sps fl (X ++ [ns_s iw (ns_v iw ih Lb iw)]))) else r = 0 ∧ w = [(h, .inr (12, [.int (nI rm), .int (fq_b sd), .int (nI ns), .ref aK, .ref aN, .int (nI iw), .int (nI ow), .int (fq_b ih), .int (fq_b oh), .ref aB, .int (nI ca), .int (nI us), .int (fq_b cl), .int (fq_b fl), .ref aS, .int (nI tk), .ref aL, .ref aX, .int (nI md), .int (nI gi), .int (nI su), .int (nI ps), .int (nI cs)])), (aK, .inl (cI, 5, .inl fK)), (aN, .inl (cI, 25, .inl fN)), (aB, .inl (cI, 120, .inl fB)), (aS, .inl (cI, 120, .inl fS)), (aL, .inl (cI, 2300, .inl fL)), (aX, .inl (cI, 2300, .inl fX))]) (fq_Bw D (va_A ([(h, .inr (12, [.int (nI rm), .int (fq_b sd), .int (nI ns), .ref aK, .ref aN, .int (nI iw), .int (nI ow), .int (fq_b ih), .int (fq_b oh), .ref aB, .int (nI ca), .int (nI us), .int (fq_b cl), .int (fq_b fl), .ref aS, .int (nI tk), .ref aL, .ref aX, .int (nI md), .int (nI gi), .int (nI su), .int (nI ps), .int (nI cs)])), (aK, .inl (cI, 5, .inl fK)), (aN, .inl (cI, 25, .inl fN)), (aB, .inl (cI, 120, .inl fB)), (aS, .inl (cI, 120, .inl fS)), (aL, .inl (cI, 2300, .inl fL)), (aX, .inl (cI, 2300, .inl fX))]) sz)) (va_A ([(h, .inr (12, [.int (nI rm), .int (fq_b sd), .int (nI ns), .ref aK, .ref aN, .int (nI iw), .int (nI ow), .int (fq_b ih), .int (fq_b oh), .ref aB, .int (nI ca), .int (nI us), .int (fq_b cl), .int (fq_b fl), .ref aS, .int (nI tk), .ref aL, .ref aX, .int (nI md), .int (nI gi), .int (nI su), .int (nI ps), .int (nI cs)])), (aK, .inl (cI, 5, .inl fK)), (aN, .inl (cI, 25, .inl fN)), (aB, .inl (cI, 120, .inl fB)), (aS, .inl (cI, 120, .inl fS)), (aL, .inl (cI, 2300, .inl fL)), (aX, .inl (cI, 2300, .inl fX))]) sz)) (0) (0) (va_A ([(h, .inr (12, [.int (nI rm), .int (fq_b sd), .int (nI ns), .ref aK, .ref aN, .int (nI iw), .int (nI ow), .int (fq_b ih), .int (fq_b oh), .ref aB, .int (nI ca), .int (nI us), .int (fq_b cl), .int (fq_b fl), .ref aS, .int (nI tk), .ref aL, .ref aX, .int (nI md), .int (nI gi), .int (nI su), .int (nI ps), .int (nI cs)])), (aK, .inl (cI, 5, .inl fK)), (aN, .inl (cI, 25, .inl fN)), (aB, .inl (cI, 120, .inl fB)), (aS, .inl (cI, 120, .inl fS)), (aL, .inl (cI, 2300, .inl fL)), (aX, .inl (cI, 2300, .inl fX))]) sz) := by
  refine fq_open (by decide +kernel) (Nat.le_of_ble_eq_true rfl) ?_
  intro pg ev s mt below meth cd ls K hret hlk hin hK hZ hP hD hA hS hl
  generalize va_A ([(h, .inr (12, [.int (nI rm), .int (fq_b sd), .int (nI ns), .ref aK, .ref aN, .int (nI iw), .int (nI ow), .int (fq_b ih), .int (fq_b oh), .ref aB, .int (nI ca), .int (nI us), .int (fq_b cl), .int (fq_b fl), .ref aS, .int (nI tk), .ref aL, .ref aX, .int (nI md), .int (nI gi), .int (nI su), .int (nI ps), .int (nI cs)])), (aK, .inl (cI, 5, .inl fK)), (aN, .inl (cI, 25, .inl fN)), (aB, .inl (cI, 120, .inl fB)), (aS, .inl (cI, 120, .inl fS)), (aL, .inl (cI, 2300, .inl fL)), (aX, .inl (cI, 2300, .inl fX))]) sz = A at hZ hD hA hS ⊢
  have K : fq_Ctx pg mt cd cb_Mo_producerStep 1 s _ cn_Mo := K
  have hl : lv_has ls 1 [(0, .ref h)] := hl
  refine lv_aload_n K.1 K.2.1 dc_Mo_producerStep_0 rfl (lv_at hl 0 rfl) ?_
  refine fq_get K hK cl_Mo hP 0 21 rfl (by decide) wd_791 rfl dc_Mo_producerStep_1 ?_
  refine lv_iconst (v := 1) K.1 K.2.1 dc_Mo_producerStep_4 (by decide) ?_
  refine lv_icmp_eq (tgt := 10) K.1 K.2.1 dc_Mo_producerStep_5 rfl (fun b5 => ?_) (fun b5 => ?_)
  · skip
    have p1 : ps = 1 := (nI_eq (by omega) (by decide)).mp b5
    refine lv_aload_n K.1 K.2.1 dc_Mo_producerStep_10 rfl (lv_at hl 0 rfl) ?_
    refine fq_get K hK cl_Mo hP 0 18 rfl (by decide) wd_788 rfl dc_Mo_producerStep_11 ?_
    refine lv_aload_n K.1 K.2.1 dc_Mo_producerStep_14 rfl (lv_at hl 0 rfl) ?_
    refine fq_get K hK cl_Mo hP 0 19 rfl (by decide) wd_789 rfl dc_Mo_producerStep_15 ?_
    refine lv_icmp_le (tgt := 74) K.1 K.2.1 dc_Mo_producerStep_18 rfl (fun b18 => ?_) (fun b18 => ?_)
    · skip
      have hg : ¬ gi < md := fun z => by rw [nI_leI (by omega) (by omega)] at b18; omega
      refine lv_aload_n K.1 K.2.1 dc_Mo_producerStep_74 rfl (lv_at hl 0 rfl) ?_
      refine fq_get K hK cl_Mo hP 0 10 rfl (by decide) wd_780 rfl dc_Mo_producerStep_75 ?_
      refine lv_aload_n K.1 K.2.1 dc_Mo_producerStep_78 rfl (lv_at hl 0 rfl) ?_
      refine fq_get K hK cl_Mo hP 0 11 rfl (by decide) wd_781 rfl dc_Mo_producerStep_79 ?_
      refine lv_isub K.1 K.2.1 dc_Mo_producerStep_82 ?_
      refine fq_asi (y := nI (ca - us)) (pk_sub huc) ?_
      refine lv_aload_n K.1 K.2.1 dc_Mo_producerStep_83 rfl (lv_at hl 0 rfl) ?_
      refine fq_get K hK cl_Mo hP 0 5 rfl (by decide) wd_775 rfl dc_Mo_producerStep_84 ?_
      refine lv_icmp_lt (tgt := 136) K.1 K.2.1 dc_Mo_producerStep_87 rfl (fun b87 => ?_) (fun b87 => ?_)
      · skip
        have hcu : ca - us < iw := by rw [nI_ltI (by omega) (by omega)] at b87; exact b87
        refine lv_aload_n K.1 K.2.1 dc_Mo_producerStep_136 rfl (lv_at hl 0 rfl) ?_
        refine fq_get K hK cl_Mo hP 0 12 rfl (by decide) wd_782 rfl dc_Mo_producerStep_137 ?_
        refine lv_if_ne (tgt := 145) K.1 K.2.1 dc_Mo_producerStep_140 rfl (fun b140 => ?_) (fun b140 => ?_)
        · skip
          have hcl := fq_b1 b140
          refine lv_aload_n K.1 K.2.1 dc_Mo_producerStep_145 rfl (lv_at hl 0 rfl) ?_
          refine fq_get K hK cl_Mo hP 0 13 rfl (by decide) wd_783 rfl dc_Mo_producerStep_146 ?_
          refine lv_if_eq (tgt := 159) K.1 K.2.1 dc_Mo_producerStep_149 rfl (fun b149 => ?_) (fun b149 => ?_)
          · skip
            have hfl : ¬ fl = true := by rw [fq_b0 b149]; decide
            refine lv_aload_n K.1 K.2.1 dc_Mo_producerStep_159 rfl (lv_at hl 0 rfl) ?_
            refine lv_aload_n K.1 K.2.1 dc_Mo_producerStep_160 rfl (lv_at hl 0 rfl) ?_
            refine fq_get K hK cl_Mo hP 0 10 rfl (by decide) wd_780 rfl dc_Mo_producerStep_161 ?_
            refine fq_put K hK cl_Mo hP hD hS 0 11 rfl (by decide) wd_781 rfl rfl rfl (Nat.le_of_ble_eq_true rfl) dc_Mo_producerStep_164 (fun H locs hP hD hS => ?_)
            have hP : va_P D fq_cl ([(h, .inr (12, [.int (nI rm), .int (fq_b sd), .int (nI ns), .ref aK, .ref aN, .int (nI iw), .int (nI ow), .int (fq_b ih), .int (fq_b oh), .ref aB, .int (nI ca), .int (nI ca), .int (fq_b cl), .int (fq_b fl), .ref aS, .int (nI tk), .ref aL, .ref aX, .int (nI md), .int (nI gi), .int (nI su), .int (nI ps), .int (nI cs)])), (aK, .inl (cI, 5, .inl fK)), (aN, .inl (cI, 25, .inl fN)), (aB, .inl (cI, 120, .inl fB)), (aS, .inl (cI, 120, .inl fS)), (aL, .inl (cI, 2300, .inl fL)), (aX, .inl (cI, 2300, .inl fX))]) _ := hP
            have hD : va_D A ([(h, .inr (12, [.int (nI rm), .int (fq_b sd), .int (nI ns), .ref aK, .ref aN, .int (nI iw), .int (nI ow), .int (fq_b ih), .int (fq_b oh), .ref aB, .int (nI ca), .int (nI ca), .int (fq_b cl), .int (fq_b fl), .ref aS, .int (nI tk), .ref aL, .ref aX, .int (nI md), .int (nI gi), .int (nI su), .int (nI ps), .int (nI cs)])), (aK, .inl (cI, 5, .inl fK)), (aN, .inl (cI, 25, .inl fN)), (aB, .inl (cI, 120, .inl fB)), (aS, .inl (cI, 120, .inl fS)), (aL, .inl (cI, 2300, .inl fL)), (aX, .inl (cI, 2300, .inl fX))]) := hD
            refine lv_aload_n K.1 K.2.1 dc_Mo_producerStep_167 rfl (lv_at hl 0 rfl) ?_
            refine lv_iconst (v := 1) K.1 K.2.1 dc_Mo_producerStep_168 (by decide) ?_
            refine fq_put K hK cl_Mo hP hD hS 0 13 rfl (by decide) wd_783 rfl rfl rfl (Nat.le_of_ble_eq_true rfl) dc_Mo_producerStep_169 (fun H locs hP hD hS => ?_)
            have hP : va_P D fq_cl ([(h, .inr (12, [.int (nI rm), .int (fq_b sd), .int (nI ns), .ref aK, .ref aN, .int (nI iw), .int (nI ow), .int (fq_b ih), .int (fq_b oh), .ref aB, .int (nI ca), .int (nI ca), .int (fq_b cl), .int 1, .ref aS, .int (nI tk), .ref aL, .ref aX, .int (nI md), .int (nI gi), .int (nI su), .int (nI ps), .int (nI cs)])), (aK, .inl (cI, 5, .inl fK)), (aN, .inl (cI, 25, .inl fN)), (aB, .inl (cI, 120, .inl fB)), (aS, .inl (cI, 120, .inl fS)), (aL, .inl (cI, 2300, .inl fL)), (aX, .inl (cI, 2300, .inl fX))]) _ := hP
            have hD : va_D A ([(h, .inr (12, [.int (nI rm), .int (fq_b sd), .int (nI ns), .ref aK, .ref aN, .int (nI iw), .int (nI ow), .int (fq_b ih), .int (fq_b oh), .ref aB, .int (nI ca), .int (nI ca), .int (fq_b cl), .int 1, .ref aS, .int (nI tk), .ref aL, .ref aX, .int (nI md), .int (nI gi), .int (nI su), .int (nI ps), .int (nI cs)])), (aK, .inl (cI, 5, .inl fK)), (aN, .inl (cI, 25, .inl fN)), (aB, .inl (cI, 120, .inl fB)), (aS, .inl (cI, 120, .inl fS)), (aL, .inl (cI, 2300, .inl fL)), (aX, .inl (cI, 2300, .inl fX))]) := hD
            have hP : va_P D fq_cl ([(h, .inr (12, [.int (nI rm), .int (fq_b sd), .int (nI ns), .ref aK, .ref aN, .int (nI iw), .int (nI ow), .int (fq_b ih), .int (fq_b oh), .ref aB, .int (nI ca), .int (nI ca), .int (fq_b cl), .int (fq_b true), .ref aS, .int (nI tk), .ref aL, .ref aX, .int (nI md), .int (nI gi), .int (nI su), .int (nI ps), .int (nI cs)])), (aK, .inl (cI, 5, .inl fK)), (aN, .inl (cI, 25, .inl fN)), (aB, .inl (cI, 120, .inl fB)), (aS, .inl (cI, 120, .inl fS)), (aL, .inl (cI, 2300, .inl fL)), (aX, .inl (cI, 2300, .inl fX))]) _ := hP
            have hD : va_D A ([(h, .inr (12, [.int (nI rm), .int (fq_b sd), .int (nI ns), .ref aK, .ref aN, .int (nI iw), .int (nI ow), .int (fq_b ih), .int (fq_b oh), .ref aB, .int (nI ca), .int (nI ca), .int (fq_b cl), .int (fq_b true), .ref aS, .int (nI tk), .ref aL, .ref aX, .int (nI md), .int (nI gi), .int (nI su), .int (nI ps), .int (nI cs)])), (aK, .inl (cI, 5, .inl fK)), (aN, .inl (cI, 25, .inl fN)), (aB, .inl (cI, 120, .inl fB)), (aS, .inl (cI, 120, .inl fS)), (aL, .inl (cI, 2300, .inl fL)), (aX, .inl (cI, 2300, .inl fX))]) := hD
            refine lv_aload_n K.1 K.2.1 dc_Mo_producerStep_172 rfl (lv_at hl 0 rfl) ?_
            have hc := fq_cut.of (wc := [(h, .inr (12, [.int (nI rm), .int (fq_b sd), .int (nI ns), .ref aK, .ref aN, .int (nI iw), .int (nI ow), .int (fq_b ih), .int (fq_b oh), .ref aB, .int (nI ca), .int (nI ca), .int (fq_b cl), .int (fq_b true), .ref aS, .int (nI tk), .ref aL, .ref aX, .int (nI md), .int (nI gi), .int (nI su), .int (nI ps), .int (nI cs)])), (aK, .inl (cI, 5, .inl fK)), (aN, .inl (cI, 25, .inl fN)), (aB, .inl (cI, 120, .inl fB)), (aS, .inl (cI, 120, .inl fS)), (aL, .inl (cI, 2300, .inl fL)), (aX, .inl (cI, 2300, .inl fX))]) hP hD hS hA [0, 1, 2, 3, 4, 5, 6] (by decide) rfl
            refine fq_cv (wr := []) (fq_rV K hK hZ hS hc (ct_Mo_work l D cI cO tE h aK aN aB aS aL aX rm sd ns iw ow ih oh ca ca cl true tk md gi su ps cs fK fN fB fS fL fX sps X hpl hns hKN (by omega) htk hSX hX2 _) yk_Mo_work wd_935 wd_17 wd_933 0 rfl rfl rfl ⟨⟨rfl, rfl⟩, ⟨Nat.le_of_ble_eq_true rfl, Nat.le_of_ble_eq_true rfl⟩, ⟨Nat.le_of_ble_eq_true rfl, Nat.le_of_ble_eq_true rfl⟩⟩ hl.1 rfl (Nat.le_of_ble_eq_true rfl) dc_Mo_producerStep_173) hP hD hS hc [0, 1, 2, 3, 4, 5, 6] [] rfl rfl (by decide) (by decide) (fun  w H locs hw1 hP hD hS => ?_)
            obtain ⟨gL1, gX1, rfl, hgL1⟩ := hw1
            have hP : va_P D fq_cl ([(h, .inr (12, [.int (nI rm), .int (fq_b sd), .int (nI ns), .ref aK, .ref aN, .int (nI iw), .int (nI ow), .int (fq_b ih), .int (fq_b oh), .ref aB, .int (nI ca), .int (nI ca), .int (fq_b cl), .int (fq_b true), .ref aS, .int (nI tk), .ref aL, .ref aX, .int (nI ((fm_O sps true X).length)), .int (nI gi), .int (nI su), .int (nI ps), .int (nI cs)])), (aK, .inl (cI, 5, .inl fK)), (aN, .inl (cI, 25, .inl fN)), (aB, .inl (cI, 120, .inl fB)), (aS, .inl (cI, 120, .inl fS)), (aL, .inl (cI, 2300, .inl gL1)), (aX, .inl (cI, 2300, .inl gX1))]) _ := hP
            have hD : va_D A ([(h, .inr (12, [.int (nI rm), .int (fq_b sd), .int (nI ns), .ref aK, .ref aN, .int (nI iw), .int (nI ow), .int (fq_b ih), .int (fq_b oh), .ref aB, .int (nI ca), .int (nI ca), .int (fq_b cl), .int (fq_b true), .ref aS, .int (nI tk), .ref aL, .ref aX, .int (nI ((fm_O sps true X).length)), .int (nI gi), .int (nI su), .int (nI ps), .int (nI cs)])), (aK, .inl (cI, 5, .inl fK)), (aN, .inl (cI, 25, .inl fN)), (aB, .inl (cI, 120, .inl fB)), (aS, .inl (cI, 120, .inl fS)), (aL, .inl (cI, 2300, .inl gL1)), (aX, .inl (cI, 2300, .inl gX1))]) := hD
            refine lv_iconst (v := 1) K.1 K.2.1 dc_Mo_producerStep_176 (by decide) ?_
            exact fq_retz K hret hlk hS hP hD (by first | exact Or.inl rfl | exact Or.inr rfl) (by rw [if_pos p1, if_neg hg, if_pos hcu, if_pos hcl, if_neg hfl]; exact ⟨rfl, _, _, rfl, hgL1⟩) dc_Mo_producerStep_177 (Nat.le_of_ble_eq_true rfl) (Nat.le_of_ble_eq_true rfl)
          · skip
            have hfl := fq_b1 b149
            refine lv_aload_n K.1 K.2.1 dc_Mo_producerStep_152 rfl (lv_at hl 0 rfl) ?_
            refine lv_iconst (v := 2) K.1 K.2.1 dc_Mo_producerStep_153 (by decide) ?_
            refine fq_put K hK cl_Mo hP hD hS 0 21 rfl (by decide) wd_791 rfl rfl rfl (Nat.le_of_ble_eq_true rfl) dc_Mo_producerStep_154 (fun H locs hP hD hS => ?_)
            have hP : va_P D fq_cl ([(h, .inr (12, [.int (nI rm), .int (fq_b sd), .int (nI ns), .ref aK, .ref aN, .int (nI iw), .int (nI ow), .int (fq_b ih), .int (fq_b oh), .ref aB, .int (nI ca), .int (nI us), .int (fq_b cl), .int (fq_b fl), .ref aS, .int (nI tk), .ref aL, .ref aX, .int (nI md), .int (nI gi), .int (nI su), .int 2, .int (nI cs)])), (aK, .inl (cI, 5, .inl fK)), (aN, .inl (cI, 25, .inl fN)), (aB, .inl (cI, 120, .inl fB)), (aS, .inl (cI, 120, .inl fS)), (aL, .inl (cI, 2300, .inl fL)), (aX, .inl (cI, 2300, .inl fX))]) _ := hP
            have hD : va_D A ([(h, .inr (12, [.int (nI rm), .int (fq_b sd), .int (nI ns), .ref aK, .ref aN, .int (nI iw), .int (nI ow), .int (fq_b ih), .int (fq_b oh), .ref aB, .int (nI ca), .int (nI us), .int (fq_b cl), .int (fq_b fl), .ref aS, .int (nI tk), .ref aL, .ref aX, .int (nI md), .int (nI gi), .int (nI su), .int 2, .int (nI cs)])), (aK, .inl (cI, 5, .inl fK)), (aN, .inl (cI, 25, .inl fN)), (aB, .inl (cI, 120, .inl fB)), (aS, .inl (cI, 120, .inl fS)), (aL, .inl (cI, 2300, .inl fL)), (aX, .inl (cI, 2300, .inl fX))]) := hD
            refine lv_iconst (v := 1) K.1 K.2.1 dc_Mo_producerStep_157 (by decide) ?_
            exact fq_retz K hret hlk hS hP hD (by first | exact Or.inl rfl | exact Or.inr rfl) (by rw [if_pos p1, if_neg hg, if_pos hcu, if_pos hcl, if_pos hfl]; exact ⟨rfl, rfl⟩) dc_Mo_producerStep_158 (Nat.le_of_ble_eq_true rfl) (Nat.le_of_ble_eq_true rfl)
        · skip
          have hcl : ¬ cl = true := by rw [fq_b0 b140]; decide
          refine lv_iconst (v := 0) K.1 K.2.1 dc_Mo_producerStep_143 (by decide) ?_
          exact fq_retz K hret hlk hS hP hD (by first | exact Or.inl rfl | exact Or.inr rfl) (by rw [if_pos p1, if_neg hg, if_pos hcu, if_neg hcl]; exact ⟨rfl, rfl⟩) dc_Mo_producerStep_144 (Nat.le_of_ble_eq_true rfl) (Nat.le_of_ble_eq_true rfl)
      · skip
        have hcu : ¬ ca - us < iw := fun z => b87 (by rw [nI_ltI (by omega) (by omega)]; exact z)
        refine lv_aload_n K.1 K.2.1 dc_Mo_producerStep_90 rfl (lv_at hl 0 rfl) ?_
        refine fq_get K hK cl_Mo hP 0 14 rfl (by decide) wd_784 rfl dc_Mo_producerStep_91 ?_
        refine lv_aload_n K.1 K.2.1 dc_Mo_producerStep_94 rfl (lv_at hl 0 rfl) ?_
        refine fq_get K hK cl_Mo hP 0 15 rfl (by decide) wd_785 rfl dc_Mo_producerStep_95 ?_
        refine lv_aload_n K.1 K.2.1 dc_Mo_producerStep_98 rfl (lv_at hl 0 rfl) ?_
        refine lv_aload_n K.1 K.2.1 dc_Mo_producerStep_99 rfl (lv_at hl 0 rfl) ?_
        refine fq_get K hK cl_Mo hP 0 11 rfl (by decide) wd_781 rfl dc_Mo_producerStep_100 ?_
        have hc := fq_cut.of (wc := [(h, .inr (12, [.int (nI rm), .int (fq_b sd), .int (nI ns), .ref aK, .ref aN, .int (nI iw), .int (nI ow), .int (fq_b ih), .int (fq_b oh), .ref aB, .int (nI ca), .int (nI us), .int (fq_b cl), .int (fq_b fl), .ref aS, .int (nI tk), .ref aL, .ref aX, .int (nI md), .int (nI gi), .int (nI su), .int (nI ps), .int (nI cs)])), (aK, .inl (cI, 5, .inl fK)), (aN, .inl (cI, 25, .inl fN)), (aB, .inl (cI, 120, .inl fB)), (aS, .inl (cI, 120, .inl fS)), (aL, .inl (cI, 2300, .inl fL)), (aX, .inl (cI, 2300, .inl fX))]) hP hD hS hA [0, 1, 2, 3, 4, 5, 6] (by decide) rfl
        refine fq_ci (wr := []) (fq_rV K hK hZ hS hc (ct_Mo_sampleOf l D cI cO tE h aK aN aB aS aL aX rm sd ns iw ow ih oh ca us cl fl tk md gi su ps cs fK fN fB fS fL fX Lb us (by omega) hby (fun k hk => hfB k (by omega)) (by omega) hiw _) yk_Mo_sampleOf wd_929 wd_16 wd_927 0 rfl rfl rfl ⟨⟨rfl, rfl⟩, ⟨Nat.le_of_ble_eq_true rfl, Nat.le_of_ble_eq_true rfl⟩, ⟨Nat.le_of_ble_eq_true rfl, Nat.le_of_ble_eq_true rfl⟩⟩ hl.1 rfl (Nat.le_of_ble_eq_true rfl) dc_Mo_producerStep_103) hP hD hS hc [0, 1, 2, 3, 4, 5, 6] [] rfl rfl (by decide) (by decide) (fun r1 w H locs hw2 hP hD hS => ?_)
        obtain ⟨rfl, hsa1⟩ := hw2
        have hP : va_P D fq_cl ([(h, .inr (12, [.int (nI rm), .int (fq_b sd), .int (nI ns), .ref aK, .ref aN, .int (nI iw), .int (nI ow), .int (fq_b ih), .int (fq_b oh), .ref aB, .int (nI ca), .int (nI us), .int (fq_b cl), .int (fq_b fl), .ref aS, .int (nI tk), .ref aL, .ref aX, .int (nI md), .int (nI gi), .int (nI su), .int (nI ps), .int (nI cs)])), (aK, .inl (cI, 5, .inl fK)), (aN, .inl (cI, 25, .inl fN)), (aB, .inl (cI, 120, .inl fB)), (aS, .inl (cI, 120, .inl fS)), (aL, .inl (cI, 2300, .inl fL)), (aX, .inl (cI, 2300, .inl fX))]) _ := hP
        have hD : va_D A ([(h, .inr (12, [.int (nI rm), .int (fq_b sd), .int (nI ns), .ref aK, .ref aN, .int (nI iw), .int (nI ow), .int (fq_b ih), .int (fq_b oh), .ref aB, .int (nI ca), .int (nI us), .int (fq_b cl), .int (fq_b fl), .ref aS, .int (nI tk), .ref aL, .ref aX, .int (nI md), .int (nI gi), .int (nI su), .int (nI ps), .int (nI cs)])), (aK, .inl (cI, 5, .inl fK)), (aN, .inl (cI, 25, .inl fN)), (aB, .inl (cI, 120, .inl fB)), (aS, .inl (cI, 120, .inl fS)), (aL, .inl (cI, 2300, .inl fL)), (aX, .inl (cI, 2300, .inl fX))]) := hD
        refine fq_ast K hK hP hD hS 4 rfl (vp_in_nI (show tk < 120 by omega) (by decide)) dc_Mo_producerStep_106 (fun H locs hP hD hS => ?_)
        rw [nI_clamp (show tk < 2 ^ 31 by omega)] at hP hD
        have hP : va_P D fq_cl ([(h, .inr (12, [.int (nI rm), .int (fq_b sd), .int (nI ns), .ref aK, .ref aN, .int (nI iw), .int (nI ow), .int (fq_b ih), .int (fq_b oh), .ref aB, .int (nI ca), .int (nI us), .int (fq_b cl), .int (fq_b fl), .ref aS, .int (nI tk), .ref aL, .ref aX, .int (nI md), .int (nI gi), .int (nI su), .int (nI ps), .int (nI cs)])), (aK, .inl (cI, 5, .inl fK)), (aN, .inl (cI, 25, .inl fN)), (aB, .inl (cI, 120, .inl fB)), (aS, .inl (cI, 120, .inl (upd fS tk r1))), (aL, .inl (cI, 2300, .inl fL)), (aX, .inl (cI, 2300, .inl fX))]) _ := hP
        have hD : va_D A ([(h, .inr (12, [.int (nI rm), .int (fq_b sd), .int (nI ns), .ref aK, .ref aN, .int (nI iw), .int (nI ow), .int (fq_b ih), .int (fq_b oh), .ref aB, .int (nI ca), .int (nI us), .int (fq_b cl), .int (fq_b fl), .ref aS, .int (nI tk), .ref aL, .ref aX, .int (nI md), .int (nI gi), .int (nI su), .int (nI ps), .int (nI cs)])), (aK, .inl (cI, 5, .inl fK)), (aN, .inl (cI, 25, .inl fN)), (aB, .inl (cI, 120, .inl fB)), (aS, .inl (cI, 120, .inl (upd fS tk r1))), (aL, .inl (cI, 2300, .inl fL)), (aX, .inl (cI, 2300, .inl fX))]) := hD
        refine lv_aload_n K.1 K.2.1 dc_Mo_producerStep_107 rfl (lv_at hl 0 rfl) ?_
        refine lv_dup K.1 K.2.1 dc_Mo_producerStep_108 rfl ?_
        refine fq_get K hK cl_Mo hP 0 15 rfl (by decide) wd_785 rfl dc_Mo_producerStep_109 ?_
        refine lv_iconst (v := 1) K.1 K.2.1 dc_Mo_producerStep_112 (by decide) ?_
        refine lv_iadd K.1 K.2.1 dc_Mo_producerStep_113 ?_
        refine fq_asi (y := nI (tk + 1)) (nI_1 tk) ?_
        refine fq_put K hK cl_Mo hP hD hS 0 15 rfl (by decide) wd_785 rfl rfl rfl (Nat.le_of_ble_eq_true rfl) dc_Mo_producerStep_114 (fun H locs hP hD hS => ?_)
        have hP : va_P D fq_cl ([(h, .inr (12, [.int (nI rm), .int (fq_b sd), .int (nI ns), .ref aK, .ref aN, .int (nI iw), .int (nI ow), .int (fq_b ih), .int (fq_b oh), .ref aB, .int (nI ca), .int (nI us), .int (fq_b cl), .int (fq_b fl), .ref aS, .int (nI (tk + 1)), .ref aL, .ref aX, .int (nI md), .int (nI gi), .int (nI su), .int (nI ps), .int (nI cs)])), (aK, .inl (cI, 5, .inl fK)), (aN, .inl (cI, 25, .inl fN)), (aB, .inl (cI, 120, .inl fB)), (aS, .inl (cI, 120, .inl (upd fS tk r1))), (aL, .inl (cI, 2300, .inl fL)), (aX, .inl (cI, 2300, .inl fX))]) _ := hP
        have hD : va_D A ([(h, .inr (12, [.int (nI rm), .int (fq_b sd), .int (nI ns), .ref aK, .ref aN, .int (nI iw), .int (nI ow), .int (fq_b ih), .int (fq_b oh), .ref aB, .int (nI ca), .int (nI us), .int (fq_b cl), .int (fq_b fl), .ref aS, .int (nI (tk + 1)), .ref aL, .ref aX, .int (nI md), .int (nI gi), .int (nI su), .int (nI ps), .int (nI cs)])), (aK, .inl (cI, 5, .inl fK)), (aN, .inl (cI, 25, .inl fN)), (aB, .inl (cI, 120, .inl fB)), (aS, .inl (cI, 120, .inl (upd fS tk r1))), (aL, .inl (cI, 2300, .inl fL)), (aX, .inl (cI, 2300, .inl fX))]) := hD
        refine lv_aload_n K.1 K.2.1 dc_Mo_producerStep_117 rfl (lv_at hl 0 rfl) ?_
        refine lv_aload_n K.1 K.2.1 dc_Mo_producerStep_118 rfl (lv_at hl 0 rfl) ?_
        refine fq_get K hK cl_Mo hP 0 11 rfl (by decide) wd_781 rfl dc_Mo_producerStep_119 ?_
        refine lv_aload_n K.1 K.2.1 dc_Mo_producerStep_122 rfl (lv_at hl 0 rfl) ?_
        refine fq_get K hK cl_Mo hP 0 5 rfl (by decide) wd_775 rfl dc_Mo_producerStep_123 ?_
        refine lv_iadd K.1 K.2.1 dc_Mo_producerStep_126 ?_
        refine fq_asi (y := nI (us + iw)) (nI_add _ _) ?_
        refine fq_put K hK cl_Mo hP hD hS 0 11 rfl (by decide) wd_781 rfl rfl rfl (Nat.le_of_ble_eq_true rfl) dc_Mo_producerStep_127 (fun H locs hP hD hS => ?_)
        have hP : va_P D fq_cl ([(h, .inr (12, [.int (nI rm), .int (fq_b sd), .int (nI ns), .ref aK, .ref aN, .int (nI iw), .int (nI ow), .int (fq_b ih), .int (fq_b oh), .ref aB, .int (nI ca), .int (nI (us + iw)), .int (fq_b cl), .int (fq_b fl), .ref aS, .int (nI (tk + 1)), .ref aL, .ref aX, .int (nI md), .int (nI gi), .int (nI su), .int (nI ps), .int (nI cs)])), (aK, .inl (cI, 5, .inl fK)), (aN, .inl (cI, 25, .inl fN)), (aB, .inl (cI, 120, .inl fB)), (aS, .inl (cI, 120, .inl (upd fS tk r1))), (aL, .inl (cI, 2300, .inl fL)), (aX, .inl (cI, 2300, .inl fX))]) _ := hP
        have hD : va_D A ([(h, .inr (12, [.int (nI rm), .int (fq_b sd), .int (nI ns), .ref aK, .ref aN, .int (nI iw), .int (nI ow), .int (fq_b ih), .int (fq_b oh), .ref aB, .int (nI ca), .int (nI (us + iw)), .int (fq_b cl), .int (fq_b fl), .ref aS, .int (nI (tk + 1)), .ref aL, .ref aX, .int (nI md), .int (nI gi), .int (nI su), .int (nI ps), .int (nI cs)])), (aK, .inl (cI, 5, .inl fK)), (aN, .inl (cI, 25, .inl fN)), (aB, .inl (cI, 120, .inl fB)), (aS, .inl (cI, 120, .inl (upd fS tk r1))), (aL, .inl (cI, 2300, .inl fL)), (aX, .inl (cI, 2300, .inl fX))]) := hD
        refine lv_aload_n K.1 K.2.1 dc_Mo_producerStep_130 rfl (lv_at hl 0 rfl) ?_
        have hfin : fm_in (ns_s iw (ns_v iw ih Lb iw)) := pl_ns hiw (ns_lt hiw.2 (ns_bs hby (by omega)) (Nat.le_refl _))
        have hap : ∀ j, j < (X ++ [ns_s iw (ns_v iw ih Lb iw)]).length → (upd fS tk r1 j).toInt = (X ++ [ns_s iw (ns_v iw ih Lb iw)]).getD j 0 := by rw [htk]; exact mo_ap hSX hsa1
        have hc := fq_cut.of (wc := [(h, .inr (12, [.int (nI rm), .int (fq_b sd), .int (nI ns), .ref aK, .ref aN, .int (nI iw), .int (nI ow), .int (fq_b ih), .int (fq_b oh), .ref aB, .int (nI ca), .int (nI (us + iw)), .int (fq_b cl), .int (fq_b fl), .ref aS, .int (nI (tk + 1)), .ref aL, .ref aX, .int (nI md), .int (nI gi), .int (nI su), .int (nI ps), .int (nI cs)])), (aK, .inl (cI, 5, .inl fK)), (aN, .inl (cI, 25, .inl fN)), (aB, .inl (cI, 120, .inl fB)), (aS, .inl (cI, 120, .inl (upd fS tk r1))), (aL, .inl (cI, 2300, .inl fL)), (aX, .inl (cI, 2300, .inl fX))]) hP hD hS hA [0, 1, 2, 3, 4, 5, 6] (by decide) rfl
        refine fq_cv (wr := []) (fq_rV K hK hZ hS hc (ct_Mo_work l D cI cO tE h aK aN aB aS aL aX rm sd ns iw ow ih oh ca (us + iw) cl fl (tk + 1) md gi su ps cs fK fN fB (upd fS tk r1) fL fX sps (X ++ [ns_s iw (ns_v iw ih Lb iw)]) hpl hns hKN (by rw [List.length_append, List.length_singleton]; omega) (by rw [List.length_append, List.length_singleton, htk]) hap (fm_in_app hX2 hfin) _) yk_Mo_work wd_935 wd_17 wd_933 0 rfl rfl rfl ⟨⟨rfl, rfl⟩, ⟨Nat.le_of_ble_eq_true rfl, Nat.le_of_ble_eq_true rfl⟩, ⟨Nat.le_of_ble_eq_true rfl, Nat.le_of_ble_eq_true rfl⟩⟩ hl.1 rfl (Nat.le_of_ble_eq_true rfl) dc_Mo_producerStep_131) hP hD hS hc [0, 1, 2, 3, 4, 5, 6] [] rfl rfl (by decide) (by decide) (fun  w H locs hw3 hP hD hS => ?_)
        obtain ⟨gL2, gX2, rfl, hgL2⟩ := hw3
        have hP : va_P D fq_cl ([(h, .inr (12, [.int (nI rm), .int (fq_b sd), .int (nI ns), .ref aK, .ref aN, .int (nI iw), .int (nI ow), .int (fq_b ih), .int (fq_b oh), .ref aB, .int (nI ca), .int (nI (us + iw)), .int (fq_b cl), .int (fq_b fl), .ref aS, .int (nI (tk + 1)), .ref aL, .ref aX, .int (nI ((fm_O sps fl (X ++ [ns_s iw (ns_v iw ih Lb iw)])).length)), .int (nI gi), .int (nI su), .int (nI ps), .int (nI cs)])), (aK, .inl (cI, 5, .inl fK)), (aN, .inl (cI, 25, .inl fN)), (aB, .inl (cI, 120, .inl fB)), (aS, .inl (cI, 120, .inl (upd fS tk r1))), (aL, .inl (cI, 2300, .inl gL2)), (aX, .inl (cI, 2300, .inl gX2))]) _ := hP
        have hD : va_D A ([(h, .inr (12, [.int (nI rm), .int (fq_b sd), .int (nI ns), .ref aK, .ref aN, .int (nI iw), .int (nI ow), .int (fq_b ih), .int (fq_b oh), .ref aB, .int (nI ca), .int (nI (us + iw)), .int (fq_b cl), .int (fq_b fl), .ref aS, .int (nI (tk + 1)), .ref aL, .ref aX, .int (nI ((fm_O sps fl (X ++ [ns_s iw (ns_v iw ih Lb iw)])).length)), .int (nI gi), .int (nI su), .int (nI ps), .int (nI cs)])), (aK, .inl (cI, 5, .inl fK)), (aN, .inl (cI, 25, .inl fN)), (aB, .inl (cI, 120, .inl fB)), (aS, .inl (cI, 120, .inl (upd fS tk r1))), (aL, .inl (cI, 2300, .inl gL2)), (aX, .inl (cI, 2300, .inl gX2))]) := hD
        refine lv_iconst (v := 1) K.1 K.2.1 dc_Mo_producerStep_134 (by decide) ?_
        exact fq_retz K hret hlk hS hP hD (by first | exact Or.inl rfl | exact Or.inr rfl) (by rw [if_pos p1, if_neg hg, if_neg hcu]; exact ⟨rfl, _, _, _, hsa1, rfl, hgL2⟩) dc_Mo_producerStep_135 (Nat.le_of_ble_eq_true rfl) (Nat.le_of_ble_eq_true rfl)
    · skip
      have hg : gi < md := by rw [nI_leI (by omega) (by omega)] at b18; omega
      refine lv_aload_n K.1 K.2.1 dc_Mo_producerStep_21 rfl (lv_at hl 0 rfl) ?_
      refine fq_get K hK cl_Mo hP 0 22 rfl (by decide) wd_792 rfl dc_Mo_producerStep_22 ?_
      refine lv_iconst (v := 3) K.1 K.2.1 dc_Mo_producerStep_25 (by decide) ?_
      refine lv_icmp_ne (tgt := 44) K.1 K.2.1 dc_Mo_producerStep_26 rfl (fun b26 => ?_) (fun b26 => ?_)
      · skip
        have nc3 : ¬ cs = 3 := fun z => b26 (by rw [z]; rfl)
        refine lv_aload_n K.1 K.2.1 dc_Mo_producerStep_44 rfl (lv_at hl 0 rfl) ?_
        refine fq_get K hK cl_Mo hP 0 19 rfl (by decide) wd_789 rfl dc_Mo_producerStep_45 ?_
        refine lv_aload_n K.1 K.2.1 dc_Mo_producerStep_48 rfl (lv_at hl 0 rfl) ?_
        refine fq_get K hK cl_Mo hP 0 20 rfl (by decide) wd_790 rfl dc_Mo_producerStep_49 ?_
        refine lv_isub K.1 K.2.1 dc_Mo_producerStep_52 ?_
        refine fq_asi (y := nI (gi - su)) (pk_sub hsg) ?_
        refine lv_aload_n K.1 K.2.1 dc_Mo_producerStep_53 rfl (lv_at hl 0 rfl) ?_
        refine fq_get K hK cl_Mo hP 0 0 rfl (by decide) wd_770 rfl dc_Mo_producerStep_54 ?_
        refine lv_icmp_ne (tgt := 62) K.1 K.2.1 dc_Mo_producerStep_57 rfl (fun b57 => ?_) (fun b57 => ?_)
        · skip
          have hr : ¬ gi - su = rm := fun z => b57 (by rw [z])
          refine lv_aload_n K.1 K.2.1 dc_Mo_producerStep_62 rfl (lv_at hl 0 rfl) ?_
          refine lv_dup K.1 K.2.1 dc_Mo_producerStep_63 rfl ?_
          refine fq_get K hK cl_Mo hP 0 19 rfl (by decide) wd_789 rfl dc_Mo_producerStep_64 ?_
          refine lv_iconst (v := 1) K.1 K.2.1 dc_Mo_producerStep_67 (by decide) ?_
          refine lv_iadd K.1 K.2.1 dc_Mo_producerStep_68 ?_
          refine fq_asi (y := nI (gi + 1)) (nI_1 gi) ?_
          refine fq_put K hK cl_Mo hP hD hS 0 19 rfl (by decide) wd_789 rfl rfl rfl (Nat.le_of_ble_eq_true rfl) dc_Mo_producerStep_69 (fun H locs hP hD hS => ?_)
          have hP : va_P D fq_cl ([(h, .inr (12, [.int (nI rm), .int (fq_b sd), .int (nI ns), .ref aK, .ref aN, .int (nI iw), .int (nI ow), .int (fq_b ih), .int (fq_b oh), .ref aB, .int (nI ca), .int (nI us), .int (fq_b cl), .int (fq_b fl), .ref aS, .int (nI tk), .ref aL, .ref aX, .int (nI md), .int (nI (gi + 1)), .int (nI su), .int (nI ps), .int (nI cs)])), (aK, .inl (cI, 5, .inl fK)), (aN, .inl (cI, 25, .inl fN)), (aB, .inl (cI, 120, .inl fB)), (aS, .inl (cI, 120, .inl fS)), (aL, .inl (cI, 2300, .inl fL)), (aX, .inl (cI, 2300, .inl fX))]) _ := hP
          have hD : va_D A ([(h, .inr (12, [.int (nI rm), .int (fq_b sd), .int (nI ns), .ref aK, .ref aN, .int (nI iw), .int (nI ow), .int (fq_b ih), .int (fq_b oh), .ref aB, .int (nI ca), .int (nI us), .int (fq_b cl), .int (fq_b fl), .ref aS, .int (nI tk), .ref aL, .ref aX, .int (nI md), .int (nI (gi + 1)), .int (nI su), .int (nI ps), .int (nI cs)])), (aK, .inl (cI, 5, .inl fK)), (aN, .inl (cI, 25, .inl fN)), (aB, .inl (cI, 120, .inl fB)), (aS, .inl (cI, 120, .inl fS)), (aL, .inl (cI, 2300, .inl fL)), (aX, .inl (cI, 2300, .inl fX))]) := hD
          refine lv_iconst (v := 1) K.1 K.2.1 dc_Mo_producerStep_72 (by decide) ?_
          exact fq_retz K hret hlk hS hP hD (by first | exact Or.inl rfl | exact Or.inr rfl) (by rw [if_pos p1, if_pos hg, if_neg nc3, if_neg hr]; exact ⟨rfl, rfl⟩) dc_Mo_producerStep_73 (Nat.le_of_ble_eq_true rfl) (Nat.le_of_ble_eq_true rfl)
        · skip
          have hr : gi - su = rm := (nI_eq (by omega) (by omega)).mp b57
          refine lv_iconst (v := 0) K.1 K.2.1 dc_Mo_producerStep_60 (by decide) ?_
          exact fq_retz K hret hlk hS hP hD (by first | exact Or.inl rfl | exact Or.inr rfl) (by rw [if_pos p1, if_pos hg, if_neg nc3, if_pos hr]; exact ⟨rfl, rfl⟩) dc_Mo_producerStep_61 (Nat.le_of_ble_eq_true rfl) (Nat.le_of_ble_eq_true rfl)
      · skip
        have c3 : cs = 3 := (nI_eq (by omega) (by decide)).mp b26
        refine lv_aload_n K.1 K.2.1 dc_Mo_producerStep_29 rfl (lv_at hl 0 rfl) ?_
        refine lv_aload_n K.1 K.2.1 dc_Mo_producerStep_30 rfl (lv_at hl 0 rfl) ?_
        refine fq_get K hK cl_Mo hP 0 19 rfl (by decide) wd_789 rfl dc_Mo_producerStep_31 ?_
        refine fq_put K hK cl_Mo hP hD hS 0 18 rfl (by decide) wd_788 rfl rfl rfl (Nat.le_of_ble_eq_true rfl) dc_Mo_producerStep_34 (fun H locs hP hD hS => ?_)
        have hP : va_P D fq_cl ([(h, .inr (12, [.int (nI rm), .int (fq_b sd), .int (nI ns), .ref aK, .ref aN, .int (nI iw), .int (nI ow), .int (fq_b ih), .int (fq_b oh), .ref aB, .int (nI ca), .int (nI us), .int (fq_b cl), .int (fq_b fl), .ref aS, .int (nI tk), .ref aL, .ref aX, .int (nI gi), .int (nI gi), .int (nI su), .int (nI ps), .int (nI cs)])), (aK, .inl (cI, 5, .inl fK)), (aN, .inl (cI, 25, .inl fN)), (aB, .inl (cI, 120, .inl fB)), (aS, .inl (cI, 120, .inl fS)), (aL, .inl (cI, 2300, .inl fL)), (aX, .inl (cI, 2300, .inl fX))]) _ := hP
        have hD : va_D A ([(h, .inr (12, [.int (nI rm), .int (fq_b sd), .int (nI ns), .ref aK, .ref aN, .int (nI iw), .int (nI ow), .int (fq_b ih), .int (fq_b oh), .ref aB, .int (nI ca), .int (nI us), .int (fq_b cl), .int (fq_b fl), .ref aS, .int (nI tk), .ref aL, .ref aX, .int (nI gi), .int (nI gi), .int (nI su), .int (nI ps), .int (nI cs)])), (aK, .inl (cI, 5, .inl fK)), (aN, .inl (cI, 25, .inl fN)), (aB, .inl (cI, 120, .inl fB)), (aS, .inl (cI, 120, .inl fS)), (aL, .inl (cI, 2300, .inl fL)), (aX, .inl (cI, 2300, .inl fX))]) := hD
        refine lv_aload_n K.1 K.2.1 dc_Mo_producerStep_37 rfl (lv_at hl 0 rfl) ?_
        refine lv_iconst (v := 2) K.1 K.2.1 dc_Mo_producerStep_38 (by decide) ?_
        refine fq_put K hK cl_Mo hP hD hS 0 21 rfl (by decide) wd_791 rfl rfl rfl (Nat.le_of_ble_eq_true rfl) dc_Mo_producerStep_39 (fun H locs hP hD hS => ?_)
        have hP : va_P D fq_cl ([(h, .inr (12, [.int (nI rm), .int (fq_b sd), .int (nI ns), .ref aK, .ref aN, .int (nI iw), .int (nI ow), .int (fq_b ih), .int (fq_b oh), .ref aB, .int (nI ca), .int (nI us), .int (fq_b cl), .int (fq_b fl), .ref aS, .int (nI tk), .ref aL, .ref aX, .int (nI gi), .int (nI gi), .int (nI su), .int 2, .int (nI cs)])), (aK, .inl (cI, 5, .inl fK)), (aN, .inl (cI, 25, .inl fN)), (aB, .inl (cI, 120, .inl fB)), (aS, .inl (cI, 120, .inl fS)), (aL, .inl (cI, 2300, .inl fL)), (aX, .inl (cI, 2300, .inl fX))]) _ := hP
        have hD : va_D A ([(h, .inr (12, [.int (nI rm), .int (fq_b sd), .int (nI ns), .ref aK, .ref aN, .int (nI iw), .int (nI ow), .int (fq_b ih), .int (fq_b oh), .ref aB, .int (nI ca), .int (nI us), .int (fq_b cl), .int (fq_b fl), .ref aS, .int (nI tk), .ref aL, .ref aX, .int (nI gi), .int (nI gi), .int (nI su), .int 2, .int (nI cs)])), (aK, .inl (cI, 5, .inl fK)), (aN, .inl (cI, 25, .inl fN)), (aB, .inl (cI, 120, .inl fB)), (aS, .inl (cI, 120, .inl fS)), (aL, .inl (cI, 2300, .inl fL)), (aX, .inl (cI, 2300, .inl fX))]) := hD
        refine lv_iconst (v := 1) K.1 K.2.1 dc_Mo_producerStep_42 (by decide) ?_
        exact fq_retz K hret hlk hS hP hD (by first | exact Or.inl rfl | exact Or.inr rfl) (by rw [if_pos p1, if_pos hg, if_pos c3]; exact ⟨rfl, rfl⟩) dc_Mo_producerStep_43 (Nat.le_of_ble_eq_true rfl) (Nat.le_of_ble_eq_true rfl)
  · skip
    have np1 : ¬ ps = 1 := fun z => b5 (by rw [z]; rfl)
    refine lv_iconst (v := 0) K.1 K.2.1 dc_Mo_producerStep_8 (by decide) ?_
    exact fq_retz K hret hlk hS hP hD (by first | exact Or.inl rfl | exact Or.inr rfl) (by rw [if_neg np1]; exact ⟨rfl, rfl⟩) dc_Mo_producerStep_9 (Nat.le_of_ble_eq_true rfl) (Nat.le_of_ble_eq_true rfl)
