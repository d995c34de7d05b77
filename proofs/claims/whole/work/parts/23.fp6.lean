theorem wd_51 : Cond.instanceMethod my_FP_init ∈ fq_TB := fq_in 51 (by decide +kernel) rfl
theorem wd_52 : Cond.code my_FP_init cb_FP_init 2 none ∈ fq_TB := fq_in 52 (by decide +kernel) rfl
theorem wd_53 : Cond.methodLink cn_FP 1 my_Oj_init ∈ fq_TB := fq_in 53 (by decide +kernel) rfl
theorem wd_56 : Cond.classLink cn_FP 7 cn_Chain ∈ fq_TB := fq_in 56 (by decide +kernel) rfl
theorem wd_57 : Cond.instantiable cn_Chain 3 ∈ fq_TB := fq_in 57 (by decide +kernel) rfl
theorem wn_58 : Cond.methodLinkNest cn_FP 9 my_Chain_init cn_FP ∈ lw_tbl := List.mem_of_getElem? (i := 58) (by decide +kernel)
theorem wd_115 : Cond.classLink cn_FP 16 cn_Source ∈ fq_TB := fq_in 115 (by decide +kernel) rfl
theorem wd_116 : Cond.instantiable cn_Source 4 ∈ fq_TB := fq_in 116 (by decide +kernel) rfl
theorem wn_117 : Cond.methodLinkNest cn_FP 18 my_Source_init cn_FP ∈ lw_tbl := List.mem_of_getElem? (i := 117) (by decide +kernel)
theorem wd_154 : Cond.classLink cn_FP 23 cn_Row ∈ fq_TB := fq_in 154 (by decide +kernel) rfl
theorem wd_155 : Cond.methodLink cn_FP 25 my_Row_init ∈ fq_TB := fq_in 155 (by decide +kernel) rfl
theorem wd_156 : Cond.classLink cn_FP 32 cn_Sink ∈ fq_TB := fq_in 156 (by decide +kernel) rfl
theorem wd_157 : Cond.instantiable cn_Sink 2 ∈ fq_TB := fq_in 157 (by decide +kernel) rfl
theorem wn_158 : Cond.methodLinkNest cn_FP 34 my_Sink_init cn_FP ∈ lw_tbl := List.mem_of_getElem? (i := 158) (by decide +kernel)
theorem wd_175 : Cond.methodLink cn_FP 46 my_Ma_min ∈ fq_TB := fq_in 175 (by decide +kernel) rfl
theorem wd_178 : Cond.methodLink cn_FP 52 my_Ma_max ∈ fq_TB := fq_in 178 (by decide +kernel) rfl
theorem wd_482 : Cond.instanceMethod my_Section_responseAt ∈ fq_TB := fq_in 482 (by decide +kernel) rfl
theorem wd_483 : Cond.selects cn_Section my_Section_responseAt my_Section_responseAt ∈ fq_TB := fq_in 483 (by decide +kernel) rfl
theorem wd_484 : Cond.code my_Section_responseAt cb_Section_responseAt 8 (some .int) ∈ fq_TB := fq_in 484 (by decide +kernel) rfl
theorem wd_485 : Cond.constantLong cn_Section 54 256 ∈ fq_TB := fq_in 485 (by decide +kernel) rfl
theorem wd_486 : Cond.methodLink cn_Section 56 my_Section_squaredSize ∈ fq_TB := fq_in 486 (by decide +kernel) rfl
theorem wd_487 : Cond.static my_Section_squaredSize ∈ fq_TB := fq_in 487 (by decide +kernel) rfl
theorem wd_488 : Cond.code my_Section_squaredSize cb_Section_squaredSize 12 (some .long) ∈ fq_TB := fq_in 488 (by decide +kernel) rfl
theorem wd_489 : Cond.constantLong cn_Section 64 2 ∈ fq_TB := fq_in 489 (by decide +kernel) rfl
theorem wd_491 : Cond.methodLink cn_Section 60 my_Section_scaledRatio ∈ fq_TB := fq_in 491 (by decide +kernel) rfl
theorem wd_492 : Cond.static my_Section_scaledRatio ∈ fq_TB := fq_in 492 (by decide +kernel) rfl
theorem wd_493 : Cond.code my_Section_scaledRatio cb_Section_scaledRatio 9 (some .int) ∈ fq_TB := fq_in 493 (by decide +kernel) rfl
theorem wd_494 : Cond.constantLong cn_Section 66 524287 ∈ fq_TB := fq_in 494 (by decide +kernel) rfl
theorem wd_495 : Cond.constant cn_Section 68 2147483647 ∈ fq_TB := fq_in 495 (by decide +kernel) rfl

def in_r (x : Int32) : Nat := if x.toInt < 1 then 1 else if 12 < x.toInt then 12 else x.toInt.toNat
theorem in_12 (x : Int32) : in_r x ≤ 12 := by
  unfold in_r; split
  · decide
  · split <;> omega
theorem in_0 (x : Int32) : 0 < in_r x := by
  unfold in_r; split
  · decide
  · split <;> omega
theorem in_5 (x : Int32) : in_r x ≤ 5000 := Nat.le_trans (in_12 x) (by decide)
theorem in_e (x : Int32) : (if 1 < (if 12 < x then (12 : Int32) else x) then (if 12 < x then (12 : Int32) else x) else 1) = nI (in_r x) := by
  have e1 : (1 : Int32).toInt = 1 := by decide
  have e2 : (12 : Int32).toInt = 12 := by decide
  unfold in_r
  by_cases c : 12 < x
  · have c' := c
    rw [Int32.lt_iff_toInt_lt, e2] at c'
    rw [if_pos c, if_pos (by decide), if_neg (by omega), if_pos c']; rfl
  · have c' := c
    rw [Int32.lt_iff_toInt_lt, e2] at c'
    rw [if_neg c]
    by_cases d : 1 < x
    · have d' := d
      rw [Int32.lt_iff_toInt_lt, e1] at d'
      rw [if_pos d, if_neg (by omega), if_neg c']; exact fz_n (by omega)
    · have d' := d
      rw [Int32.lt_iff_toInt_lt, e1] at d'
      rw [if_neg d]
      by_cases f : x.toInt < 1
      · rw [if_pos f]; rfl
      · rw [if_neg f, if_neg c', show x.toInt.toNat = 1 by omega]; rfl
theorem ch_nil {cI : ClassId} : ch_ok cI [] [] := ⟨rfl, fun k s g h => by simp at h⟩
def sq_s (p q t u v : Int64) : Int64 := (p * p + q * q + t * t) * v * v + 2 * q * (p + t) * u * v + 2 * p * t * (2 * u * u - v * v)
def sr_1 (y : Int64) (z : Int64 × Int64) : Int64 × Int64 := if 2 * z.2 < y then (2 * z.1, 2 * z.2) else (2 * z.1 + 1, 2 * z.2 - y)
def sr_it (y : Int64) (z : Int64 × Int64) : Nat → Int64 × Int64
  | 0 => z
  | n + 1 => sr_1 y (sr_it y z n)
def sr_v (x y : Int64) : Int32 := if y ≤ 0 ∨ 524287 < x / y then 2147483647 else (sr_it y (x / y, x - x / y * y) 12).1.toInt32
theorem lg_le {x y : Int64} : lg_cmp x y ≤ 0 ↔ x ≤ y := by
  rw [lg_cmp_le]
theorem sr_s {y ra re : Int64} {z : Int64 × Int64} {n : Nat} (h : n ≤ 12 ∧ (ra, re) = sr_it y z n) : sr_it y z (n + 1) = sr_1 y (ra, re) := by rw [h.2]; rfl
theorem sr_b {y ra re v3 v4 : Int64} {z : Int64 × Int64} {n : Nat} (h : n ≤ 12 ∧ (ra, re) = sr_it y z n) (hn : n < 12) (e3 : v3 = 2 * ra) (e4 : v4 = 2 * re) (hb : lg_cmp v4 y < 0) : n + 1 ≤ 12 ∧ (v3, v4) = sr_it y z (n + 1) := by
  refine ⟨hn, ?_⟩
  rw [lg_cmp_lt, e4] at hb
  rw [sr_s h, e3, e4]
  exact (if_pos hb).symm
theorem sr_a {y ra re v3 v4 v5 v6 : Int64} {z : Int64 × Int64} {n : Nat} (h : n ≤ 12 ∧ (ra, re) = sr_it y z n) (hn : n < 12) (e3 : v3 = 2 * ra) (e4 : v4 = 2 * re) (e5 : v5 = v3 + 1) (e6 : v6 = v4 - y) (hb : ¬ lg_cmp v4 y < 0) : n + 1 ≤ 12 ∧ (v5, v6) = sr_it y z (n + 1) := by
  refine ⟨hn, ?_⟩
  rw [lg_cmp_lt, e4] at hb
  rw [sr_s h, e5, e6, e3, e4]
  exact (if_neg hb).symm
theorem sr_c {n : Nat} (hn : n ≤ 12) (h : (12 : Int32) ≤ nI n) : n = 12 := by
  rw [show (12 : Int32) = nI 12 from rfl, nI_leI (by decide) (by omega)] at h; omega
theorem sr_d {n : Nat} (hn : n ≤ 12) (h : ¬ (12 : Int32) ≤ nI n) : n < 12 := by
  rw [show (12 : Int32) = nI 12 from rfl, nI_leI (by decide) (by omega)] at h; omega
/-- the answer of a section's response -/
def rp_q (x : Int32) : Int64 := x.toInt64 * x.toInt64
def rp_v (b0 b1 b2 a1 a2 x : Int32) : Int32 := sr_v (sq_s b0.toInt64 b1.toInt64 b2.toInt64 (256 - rp_q x) (256 + rp_q x)) (sq_s 16384 a1.toInt64 a2.toInt64 (256 - rp_q x) (256 + rp_q x))

theorem dc_FP_init_0 : decode cb_FP_init 0 = .ok (.aload_n 0, 1) := by decide +kernel
theorem dc_FP_init_1 : decode cb_FP_init 1 = .ok (.invokespecial 1, 3) := by decide +kernel
theorem dc_FP_init_4 : decode cb_FP_init 4 = .ok (.aload_n 0, 1) := by decide +kernel
theorem dc_FP_init_5 : decode cb_FP_init 5 = .ok (.new 7, 3) := by decide +kernel
theorem dc_FP_init_8 : decode cb_FP_init 8 = .ok (.dup, 1) := by decide +kernel
theorem dc_FP_init_9 : decode cb_FP_init 9 = .ok (.invokespecial 9, 3) := by decide +kernel
theorem dc_FP_init_12 : decode cb_FP_init 12 = .ok (.putfield 10, 3) := by decide +kernel
theorem dc_FP_init_15 : decode cb_FP_init 15 = .ok (.aload_n 0, 1) := by decide +kernel
theorem dc_FP_init_16 : decode cb_FP_init 16 = .ok (.new 16, 3) := by decide +kernel
theorem dc_FP_init_19 : decode cb_FP_init 19 = .ok (.dup, 1) := by decide +kernel
theorem dc_FP_init_20 : decode cb_FP_init 20 = .ok (.invokespecial 18, 3) := by decide +kernel
theorem dc_FP_init_23 : decode cb_FP_init 23 = .ok (.putfield 19, 3) := by decide +kernel
theorem dc_FP_init_26 : decode cb_FP_init 26 = .ok (.aload_n 0, 1) := by decide +kernel
theorem dc_FP_init_27 : decode cb_FP_init 27 = .ok (.new 23, 3) := by decide +kernel
theorem dc_FP_init_30 : decode cb_FP_init 30 = .ok (.dup, 1) := by decide +kernel
theorem dc_FP_init_31 : decode cb_FP_init 31 = .ok (.sipush 366, 3) := by decide +kernel
theorem dc_FP_init_34 : decode cb_FP_init 34 = .ok (.invokespecial 25, 3) := by decide +kernel
theorem dc_FP_init_37 : decode cb_FP_init 37 = .ok (.putfield 28, 3) := by decide +kernel
theorem dc_FP_init_40 : decode cb_FP_init 40 = .ok (.aload_n 0, 1) := by decide +kernel
theorem dc_FP_init_41 : decode cb_FP_init 41 = .ok (.new 32, 3) := by decide +kernel
theorem dc_FP_init_44 : decode cb_FP_init 44 = .ok (.dup, 1) := by decide +kernel
theorem dc_FP_init_45 : decode cb_FP_init 45 = .ok (.invokespecial 34, 3) := by decide +kernel
theorem dc_FP_init_48 : decode cb_FP_init 48 = .ok (.putfield 35, 3) := by decide +kernel
theorem dc_FP_init_51 : decode cb_FP_init 51 = .ok (.aload_n 0, 1) := by decide +kernel
theorem dc_FP_init_52 : decode cb_FP_init 52 = .ok (.iconst 0, 1) := by decide +kernel
theorem dc_FP_init_53 : decode cb_FP_init 53 = .ok (.putfield 39, 3) := by decide +kernel
theorem dc_FP_init_56 : decode cb_FP_init 56 = .ok (.aload_n 0, 1) := by decide +kernel
theorem dc_FP_init_57 : decode cb_FP_init 57 = .ok (.iconst 0, 1) := by decide +kernel
theorem dc_FP_init_58 : decode cb_FP_init 58 = .ok (.putfield 43, 3) := by decide +kernel
theorem dc_FP_init_61 : decode cb_FP_init 61 = .ok (.aload_n 0, 1) := by decide +kernel
theorem dc_FP_init_62 : decode cb_FP_init 62 = .ok (.new 23, 3) := by decide +kernel
theorem dc_FP_init_65 : decode cb_FP_init 65 = .ok (.dup, 1) := by decide +kernel
theorem dc_FP_init_66 : decode cb_FP_init 66 = .ok (.iconst 1, 1) := by decide +kernel
theorem dc_FP_init_67 : decode cb_FP_init 67 = .ok (.iload_n 1, 1) := by decide +kernel
theorem dc_FP_init_68 : decode cb_FP_init 68 = .ok (.bipush 12, 2) := by decide +kernel
theorem dc_FP_init_70 : decode cb_FP_init 70 = .ok (.invokestatic 46, 3) := by decide +kernel
theorem dc_FP_init_73 : decode cb_FP_init 73 = .ok (.invokestatic 52, 3) := by decide +kernel
theorem dc_FP_init_76 : decode cb_FP_init 76 = .ok (.invokespecial 25, 3) := by decide +kernel
theorem dc_FP_init_79 : decode cb_FP_init 79 = .ok (.putfield 55, 3) := by decide +kernel
theorem dc_FP_init_82 : decode cb_FP_init 82 = .ok (.return_, 1) := by decide +kernel
theorem yk_FP_init : fq_Y my_FP_init cb_FP_init 2 none 1 := ⟨wd_52, wd_26, by decide +kernel⟩
theorem dc_Section_squaredSize_0 : decode cb_Section_squaredSize 0 = .ok (.ldc2_w 64, 3) := by decide +kernel
theorem dc_Section_squaredSize_3 : decode cb_Section_squaredSize 3 = .ok (.lload 6, 2) := by decide +kernel
theorem dc_Section_squaredSize_5 : decode cb_Section_squaredSize 5 = .ok (.lmul, 1) := by decide +kernel
theorem dc_Section_squaredSize_6 : decode cb_Section_squaredSize 6 = .ok (.lload 6, 2) := by decide +kernel
theorem dc_Section_squaredSize_8 : decode cb_Section_squaredSize 8 = .ok (.lmul, 1) := by decide +kernel
theorem dc_Section_squaredSize_9 : decode cb_Section_squaredSize 9 = .ok (.lload 8, 2) := by decide +kernel
theorem dc_Section_squaredSize_11 : decode cb_Section_squaredSize 11 = .ok (.lload 8, 2) := by decide +kernel
theorem dc_Section_squaredSize_13 : decode cb_Section_squaredSize 13 = .ok (.lmul, 1) := by decide +kernel
theorem dc_Section_squaredSize_14 : decode cb_Section_squaredSize 14 = .ok (.lsub, 1) := by decide +kernel
theorem dc_Section_squaredSize_15 : decode cb_Section_squaredSize 15 = .ok (.lstore 10, 2) := by decide +kernel
theorem dc_Section_squaredSize_17 : decode cb_Section_squaredSize 17 = .ok (.lload_n 0, 1) := by decide +kernel
theorem dc_Section_squaredSize_18 : decode cb_Section_squaredSize 18 = .ok (.lload_n 0, 1) := by decide +kernel
theorem dc_Section_squaredSize_19 : decode cb_Section_squaredSize 19 = .ok (.lmul, 1) := by decide +kernel
theorem dc_Section_squaredSize_20 : decode cb_Section_squaredSize 20 = .ok (.lload_n 2, 1) := by decide +kernel
theorem dc_Section_squaredSize_21 : decode cb_Section_squaredSize 21 = .ok (.lload_n 2, 1) := by decide +kernel
theorem dc_Section_squaredSize_22 : decode cb_Section_squaredSize 22 = .ok (.lmul, 1) := by decide +kernel
theorem dc_Section_squaredSize_23 : decode cb_Section_squaredSize 23 = .ok (.ladd, 1) := by decide +kernel
theorem dc_Section_squaredSize_24 : decode cb_Section_squaredSize 24 = .ok (.lload 4, 2) := by decide +kernel
theorem dc_Section_squaredSize_26 : decode cb_Section_squaredSize 26 = .ok (.lload 4, 2) := by decide +kernel
theorem dc_Section_squaredSize_28 : decode cb_Section_squaredSize 28 = .ok (.lmul, 1) := by decide +kernel
theorem dc_Section_squaredSize_29 : decode cb_Section_squaredSize 29 = .ok (.ladd, 1) := by decide +kernel
theorem dc_Section_squaredSize_30 : decode cb_Section_squaredSize 30 = .ok (.lload 8, 2) := by decide +kernel
theorem dc_Section_squaredSize_32 : decode cb_Section_squaredSize 32 = .ok (.lmul, 1) := by decide +kernel
theorem dc_Section_squaredSize_33 : decode cb_Section_squaredSize 33 = .ok (.lload 8, 2) := by decide +kernel
theorem dc_Section_squaredSize_35 : decode cb_Section_squaredSize 35 = .ok (.lmul, 1) := by decide +kernel
theorem dc_Section_squaredSize_36 : decode cb_Section_squaredSize 36 = .ok (.ldc2_w 64, 3) := by decide +kernel
theorem dc_Section_squaredSize_39 : decode cb_Section_squaredSize 39 = .ok (.lload_n 2, 1) := by decide +kernel
theorem dc_Section_squaredSize_40 : decode cb_Section_squaredSize 40 = .ok (.lmul, 1) := by decide +kernel
theorem dc_Section_squaredSize_41 : decode cb_Section_squaredSize 41 = .ok (.lload_n 0, 1) := by decide +kernel
theorem dc_Section_squaredSize_42 : decode cb_Section_squaredSize 42 = .ok (.lload 4, 2) := by decide +kernel
theorem dc_Section_squaredSize_44 : decode cb_Section_squaredSize 44 = .ok (.ladd, 1) := by decide +kernel
theorem dc_Section_squaredSize_45 : decode cb_Section_squaredSize 45 = .ok (.lmul, 1) := by decide +kernel
theorem dc_Section_squaredSize_46 : decode cb_Section_squaredSize 46 = .ok (.lload 6, 2) := by decide +kernel
theorem dc_Section_squaredSize_48 : decode cb_Section_squaredSize 48 = .ok (.lmul, 1) := by decide +kernel
theorem dc_Section_squaredSize_49 : decode cb_Section_squaredSize 49 = .ok (.lload 8, 2) := by decide +kernel
theorem dc_Section_squaredSize_51 : decode cb_Section_squaredSize 51 = .ok (.lmul, 1) := by decide +kernel
theorem dc_Section_squaredSize_52 : decode cb_Section_squaredSize 52 = .ok (.ladd, 1) := by decide +kernel
theorem dc_Section_squaredSize_53 : decode cb_Section_squaredSize 53 = .ok (.ldc2_w 64, 3) := by decide +kernel
theorem dc_Section_squaredSize_56 : decode cb_Section_squaredSize 56 = .ok (.lload_n 0, 1) := by decide +kernel
theorem dc_Section_squaredSize_57 : decode cb_Section_squaredSize 57 = .ok (.lmul, 1) := by decide +kernel
theorem dc_Section_squaredSize_58 : decode cb_Section_squaredSize 58 = .ok (.lload 4, 2) := by decide +kernel
theorem dc_Section_squaredSize_60 : decode cb_Section_squaredSize 60 = .ok (.lmul, 1) := by decide +kernel
theorem dc_Section_squaredSize_61 : decode cb_Section_squaredSize 61 = .ok (.lload 10, 2) := by decide +kernel
theorem dc_Section_squaredSize_63 : decode cb_Section_squaredSize 63 = .ok (.lmul, 1) := by decide +kernel
theorem dc_Section_squaredSize_64 : decode cb_Section_squaredSize 64 = .ok (.ladd, 1) := by decide +kernel
theorem dc_Section_squaredSize_65 : decode cb_Section_squaredSize 65 = .ok (.lreturn, 1) := by decide +kernel
theorem yk_Section_squaredSize : fq_Y my_Section_squaredSize cb_Section_squaredSize 12 (some .long) 5 := ⟨wd_488, wd_38, by decide +kernel⟩
theorem dc_Section_scaledRatio_0 : decode cb_Section_scaledRatio 0 = .ok (.lload_n 2, 1) := by decide +kernel
theorem dc_Section_scaledRatio_1 : decode cb_Section_scaledRatio 1 = .ok (.lconst 0, 1) := by decide +kernel
theorem dc_Section_scaledRatio_2 : decode cb_Section_scaledRatio 2 = .ok (.lcmp, 1) := by decide +kernel
theorem dc_Section_scaledRatio_3 : decode cb_Section_scaledRatio 3 = .ok (.ifCond .le 13, 3) := by decide +kernel
theorem dc_Section_scaledRatio_6 : decode cb_Section_scaledRatio 6 = .ok (.lload_n 0, 1) := by decide +kernel
theorem dc_Section_scaledRatio_7 : decode cb_Section_scaledRatio 7 = .ok (.lload_n 2, 1) := by decide +kernel
theorem dc_Section_scaledRatio_8 : decode cb_Section_scaledRatio 8 = .ok (.ldiv, 1) := by decide +kernel
theorem dc_Section_scaledRatio_9 : decode cb_Section_scaledRatio 9 = .ok (.ldc2_w 66, 3) := by decide +kernel
theorem dc_Section_scaledRatio_12 : decode cb_Section_scaledRatio 12 = .ok (.lcmp, 1) := by decide +kernel
theorem dc_Section_scaledRatio_13 : decode cb_Section_scaledRatio 13 = .ok (.ifCond .le 6, 3) := by decide +kernel
theorem dc_Section_scaledRatio_16 : decode cb_Section_scaledRatio 16 = .ok (.ldc 68, 2) := by decide +kernel
theorem dc_Section_scaledRatio_18 : decode cb_Section_scaledRatio 18 = .ok (.ireturn, 1) := by decide +kernel
theorem dc_Section_scaledRatio_19 : decode cb_Section_scaledRatio 19 = .ok (.lload_n 0, 1) := by decide +kernel
theorem dc_Section_scaledRatio_20 : decode cb_Section_scaledRatio 20 = .ok (.lload_n 2, 1) := by decide +kernel
theorem dc_Section_scaledRatio_21 : decode cb_Section_scaledRatio 21 = .ok (.ldiv, 1) := by decide +kernel
theorem dc_Section_scaledRatio_22 : decode cb_Section_scaledRatio 22 = .ok (.lstore 4, 2) := by decide +kernel
theorem dc_Section_scaledRatio_24 : decode cb_Section_scaledRatio 24 = .ok (.lload_n 0, 1) := by decide +kernel
theorem dc_Section_scaledRatio_25 : decode cb_Section_scaledRatio 25 = .ok (.lload_n 2, 1) := by decide +kernel
theorem dc_Section_scaledRatio_26 : decode cb_Section_scaledRatio 26 = .ok (.lrem, 1) := by decide +kernel
theorem dc_Section_scaledRatio_27 : decode cb_Section_scaledRatio 27 = .ok (.lstore 6, 2) := by decide +kernel
theorem dc_Section_scaledRatio_29 : decode cb_Section_scaledRatio 29 = .ok (.iconst 0, 1) := by decide +kernel
theorem dc_Section_scaledRatio_30 : decode cb_Section_scaledRatio 30 = .ok (.istore 8, 2) := by decide +kernel
theorem dc_Section_scaledRatio_32 : decode cb_Section_scaledRatio 32 = .ok (.iload 8, 2) := by decide +kernel
theorem dc_Section_scaledRatio_34 : decode cb_Section_scaledRatio 34 = .ok (.bipush 12, 2) := by decide +kernel
theorem dc_Section_scaledRatio_36 : decode cb_Section_scaledRatio 36 = .ok (.if_icmp .ge 44, 3) := by decide +kernel
theorem dc_Section_scaledRatio_39 : decode cb_Section_scaledRatio 39 = .ok (.ldc2_w 64, 3) := by decide +kernel
theorem dc_Section_scaledRatio_42 : decode cb_Section_scaledRatio 42 = .ok (.lload 4, 2) := by decide +kernel
theorem dc_Section_scaledRatio_44 : decode cb_Section_scaledRatio 44 = .ok (.lmul, 1) := by decide +kernel
theorem dc_Section_scaledRatio_45 : decode cb_Section_scaledRatio 45 = .ok (.lstore 4, 2) := by decide +kernel
theorem dc_Section_scaledRatio_47 : decode cb_Section_scaledRatio 47 = .ok (.ldc2_w 64, 3) := by decide +kernel
theorem dc_Section_scaledRatio_50 : decode cb_Section_scaledRatio 50 = .ok (.lload 6, 2) := by decide +kernel
theorem dc_Section_scaledRatio_52 : decode cb_Section_scaledRatio 52 = .ok (.lmul, 1) := by decide +kernel
theorem dc_Section_scaledRatio_53 : decode cb_Section_scaledRatio 53 = .ok (.lstore 6, 2) := by decide +kernel
theorem dc_Section_scaledRatio_55 : decode cb_Section_scaledRatio 55 = .ok (.lload 6, 2) := by decide +kernel
theorem dc_Section_scaledRatio_57 : decode cb_Section_scaledRatio 57 = .ok (.lload_n 2, 1) := by decide +kernel
theorem dc_Section_scaledRatio_58 : decode cb_Section_scaledRatio 58 = .ok (.lcmp, 1) := by decide +kernel
theorem dc_Section_scaledRatio_59 : decode cb_Section_scaledRatio 59 = .ok (.ifCond .lt 15, 3) := by decide +kernel
theorem dc_Section_scaledRatio_62 : decode cb_Section_scaledRatio 62 = .ok (.lload 4, 2) := by decide +kernel
theorem dc_Section_scaledRatio_64 : decode cb_Section_scaledRatio 64 = .ok (.lconst 1, 1) := by decide +kernel
theorem dc_Section_scaledRatio_65 : decode cb_Section_scaledRatio 65 = .ok (.ladd, 1) := by decide +kernel
theorem dc_Section_scaledRatio_66 : decode cb_Section_scaledRatio 66 = .ok (.lstore 4, 2) := by decide +kernel
theorem dc_Section_scaledRatio_68 : decode cb_Section_scaledRatio 68 = .ok (.lload 6, 2) := by decide +kernel
theorem dc_Section_scaledRatio_70 : decode cb_Section_scaledRatio 70 = .ok (.lload_n 2, 1) := by decide +kernel
theorem dc_Section_scaledRatio_71 : decode cb_Section_scaledRatio 71 = .ok (.lsub, 1) := by decide +kernel
theorem dc_Section_scaledRatio_72 : decode cb_Section_scaledRatio 72 = .ok (.lstore 6, 2) := by decide +kernel
theorem dc_Section_scaledRatio_74 : decode cb_Section_scaledRatio 74 = .ok (.iinc 8 1, 3) := by decide +kernel
theorem dc_Section_scaledRatio_77 : decode cb_Section_scaledRatio 77 = .ok (.goto (-45), 3) := by decide +kernel
theorem dc_Section_scaledRatio_80 : decode cb_Section_scaledRatio 80 = .ok (.lload 4, 2) := by decide +kernel
theorem dc_Section_scaledRatio_82 : decode cb_Section_scaledRatio 82 = .ok (.l2i, 1) := by decide +kernel
theorem dc_Section_scaledRatio_83 : decode cb_Section_scaledRatio 83 = .ok (.ireturn, 1) := by decide +kernel
theorem yk_Section_scaledRatio : fq_Y my_Section_scaledRatio cb_Section_scaledRatio 9 (some .int) 2 := ⟨wd_493, wd_38, by decide +kernel⟩
theorem dc_Section_responseAt_0 : decode cb_Section_responseAt 0 = .ok (.iload_n 1, 1) := by decide +kernel
theorem dc_Section_responseAt_1 : decode cb_Section_responseAt 1 = .ok (.i2l, 1) := by decide +kernel
theorem dc_Section_responseAt_2 : decode cb_Section_responseAt 2 = .ok (.iload_n 1, 1) := by decide +kernel
theorem dc_Section_responseAt_3 : decode cb_Section_responseAt 3 = .ok (.i2l, 1) := by decide +kernel
theorem dc_Section_responseAt_4 : decode cb_Section_responseAt 4 = .ok (.lmul, 1) := by decide +kernel
theorem dc_Section_responseAt_5 : decode cb_Section_responseAt 5 = .ok (.lstore_n 2, 1) := by decide +kernel
theorem dc_Section_responseAt_6 : decode cb_Section_responseAt 6 = .ok (.aload_n 0, 1) := by decide +kernel
theorem dc_Section_responseAt_7 : decode cb_Section_responseAt 7 = .ok (.getfield 9, 3) := by decide +kernel
theorem dc_Section_responseAt_10 : decode cb_Section_responseAt 10 = .ok (.i2l, 1) := by decide +kernel
theorem dc_Section_responseAt_11 : decode cb_Section_responseAt 11 = .ok (.aload_n 0, 1) := by decide +kernel
theorem dc_Section_responseAt_12 : decode cb_Section_responseAt 12 = .ok (.getfield 15, 3) := by decide +kernel
theorem dc_Section_responseAt_15 : decode cb_Section_responseAt 15 = .ok (.i2l, 1) := by decide +kernel
theorem dc_Section_responseAt_16 : decode cb_Section_responseAt 16 = .ok (.aload_n 0, 1) := by decide +kernel
theorem dc_Section_responseAt_17 : decode cb_Section_responseAt 17 = .ok (.getfield 18, 3) := by decide +kernel
theorem dc_Section_responseAt_20 : decode cb_Section_responseAt 20 = .ok (.i2l, 1) := by decide +kernel
theorem dc_Section_responseAt_21 : decode cb_Section_responseAt 21 = .ok (.ldc2_w 54, 3) := by decide +kernel
theorem dc_Section_responseAt_24 : decode cb_Section_responseAt 24 = .ok (.lload_n 2, 1) := by decide +kernel
theorem dc_Section_responseAt_25 : decode cb_Section_responseAt 25 = .ok (.lsub, 1) := by decide +kernel
theorem dc_Section_responseAt_26 : decode cb_Section_responseAt 26 = .ok (.ldc2_w 54, 3) := by decide +kernel
theorem dc_Section_responseAt_29 : decode cb_Section_responseAt 29 = .ok (.lload_n 2, 1) := by decide +kernel
theorem dc_Section_responseAt_30 : decode cb_Section_responseAt 30 = .ok (.ladd, 1) := by decide +kernel
theorem dc_Section_responseAt_31 : decode cb_Section_responseAt 31 = .ok (.invokestatic 56, 3) := by decide +kernel
theorem dc_Section_responseAt_34 : decode cb_Section_responseAt 34 = .ok (.lstore 4, 2) := by decide +kernel
theorem dc_Section_responseAt_36 : decode cb_Section_responseAt 36 = .ok (.ldc2_w 42, 3) := by decide +kernel
theorem dc_Section_responseAt_39 : decode cb_Section_responseAt 39 = .ok (.aload_n 0, 1) := by decide +kernel
theorem dc_Section_responseAt_40 : decode cb_Section_responseAt 40 = .ok (.getfield 21, 3) := by decide +kernel
theorem dc_Section_responseAt_43 : decode cb_Section_responseAt 43 = .ok (.i2l, 1) := by decide +kernel
theorem dc_Section_responseAt_44 : decode cb_Section_responseAt 44 = .ok (.aload_n 0, 1) := by decide +kernel
theorem dc_Section_responseAt_45 : decode cb_Section_responseAt 45 = .ok (.getfield 24, 3) := by decide +kernel
theorem dc_Section_responseAt_48 : decode cb_Section_responseAt 48 = .ok (.i2l, 1) := by decide +kernel
theorem dc_Section_responseAt_49 : decode cb_Section_responseAt 49 = .ok (.ldc2_w 54, 3) := by decide +kernel
theorem dc_Section_responseAt_52 : decode cb_Section_responseAt 52 = .ok (.lload_n 2, 1) := by decide +kernel
theorem dc_Section_responseAt_53 : decode cb_Section_responseAt 53 = .ok (.lsub, 1) := by decide +kernel
theorem dc_Section_responseAt_54 : decode cb_Section_responseAt 54 = .ok (.ldc2_w 54, 3) := by decide +kernel
theorem dc_Section_responseAt_57 : decode cb_Section_responseAt 57 = .ok (.lload_n 2, 1) := by decide +kernel
theorem dc_Section_responseAt_58 : decode cb_Section_responseAt 58 = .ok (.ladd, 1) := by decide +kernel
theorem dc_Section_responseAt_59 : decode cb_Section_responseAt 59 = .ok (.invokestatic 56, 3) := by decide +kernel
theorem dc_Section_responseAt_62 : decode cb_Section_responseAt 62 = .ok (.lstore 6, 2) := by decide +kernel
theorem dc_Section_responseAt_64 : decode cb_Section_responseAt 64 = .ok (.lload 4, 2) := by decide +kernel
theorem dc_Section_responseAt_66 : decode cb_Section_responseAt 66 = .ok (.lload 6, 2) := by decide +kernel
theorem dc_Section_responseAt_68 : decode cb_Section_responseAt 68 = .ok (.invokestatic 60, 3) := by decide +kernel
theorem dc_Section_responseAt_71 : decode cb_Section_responseAt 71 = .ok (.ireturn, 1) := by decide +kernel
theorem yk_Section_responseAt : fq_Y my_Section_responseAt cb_Section_responseAt 8 (some .int) 1 := ⟨wd_484, wd_38, by decide +kernel⟩
set_option maxHeartbeats 4000000 in
set_option maxRecDepth 100000 in
theorem ct_FP_init (l : Launch) (D : va_G) (cI cO : ClassId) (tE : Nat) (h : Nat) (x : Int32) (sz : Nat) : Met l my_FP_init (fq_w my_FP_init cb_FP_init 2 none) ({ frames := 5, cells := 16, slots := 3187, locals := 92 }) (va_Pc ([.ref h, .int x]) (fq_Pre D cI cO tE sz ([(h, .inr (10, [.null, .null, .null, .null, .null, .int 0, .int 0, .int 0]))]))) (va_Qv (S := va_W) (fun w => fp_W cI cO tE h [] 0 false 0 0 0 false 2 false [] [] [] (in_r x) 2 false [] w) (fq_Bw D (va_A ([(h, .inr (10, [.null, .null, .null, .null, .null, .int 0, .int 0, .int 0]))]) sz)) (va_A ([(h, .inr (10, [.null, .null, .null, .null, .null, .int 0, .int 0, .int 0]))]) sz)) (16) (3187) (va_A ([(h, .inr (10, [.null, .null, .null, .null, .null, .int 0, .int 0, .int 0]))]) sz) := by
  refine fq_open (by decide +kernel) (Nat.le_of_ble_eq_true rfl) ?_
  intro pg ev s mt below meth cd ls K hret hlk hin hK hZ hP hD hA hS hl
  generalize va_A ([(h, .inr (10, [.null, .null, .null, .null, .null, .int 0, .int 0, .int 0]))]) sz = A at hZ hD hA hS ⊢
  have K : fq_Ctx pg mt cd cb_FP_init 2 s _ cn_FP := K
  have hin : meth.name = "<init>" := hin
  have hl : lv_has ls 2 [(0, .ref h), (1, .int x)] := hl
  refine lv_aload_n K.1 K.2.1 dc_FP_init_0 rfl (lv_at hl 0 rfl) ?_
  refine W.objInit K.1 K.2.1 K.2.2.2.1 (K.2.2.2.2 _ wd_53) (K.2.2.2.2 _ wd_54) (K.2.2.2.2 _ wd_55) rfl (by rw [K.2.2.1]; exact hl.1) rfl dc_FP_init_1 (Nat.le_of_ble_eq_true rfl) (Nat.le_of_ble_eq_true rfl) ?_
  refine W.eq (g2 := F0 mt 4 ls []) rfl ?_
  refine lv_aload_n K.1 K.2.1 dc_FP_init_4 rfl (lv_at hl 0 rfl) ?_
  refine fq_new (fs := [.null, .null, .int 0]) K hK cl_Chain wd_56 wd_57 wd_27 hP hD hS hA (by decide) (Nat.le_of_ble_eq_true rfl) (Nat.le_of_ble_eq_true rfl) dc_FP_init_5 (fun q1 H hP hD hS => ?_)
  have hP : va_P D fq_cl ([(h, .inr (10, [.null, .null, .null, .null, .null, .int 0, .int 0, .int 0])), (q1, .inr (6, [.null, .null, .int 0]))]) _ := hP
  have hD : va_D A ([(h, .inr (10, [.null, .null, .null, .null, .null, .int 0, .int 0, .int 0])), (q1, .inr (6, [.null, .null, .int 0]))]) := hD
  refine lv_dup K.1 K.2.1 dc_FP_init_8 rfl ?_
  have hc := fq_cut.of (wc := [(q1, .inr (6, [.null, .null, .int 0]))]) hP hD hS hA [1] (by decide) rfl
  refine fq_cv (wr := [(h, .inr (10, [.null, .null, .null, .null, .null, .int 0, .int 0, .int 0]))]) (fq_rIN K hK hZ hS hc (ct_Chain_init l D cI cO tE q1 _) yk_Chain_init wd_59 rfl wn_58 ⟨⟨rfl, rfl⟩, ⟨Nat.le_of_ble_eq_true rfl, Nat.le_of_ble_eq_true rfl⟩, ⟨Nat.le_of_ble_eq_true rfl, Nat.le_of_ble_eq_true rfl⟩⟩ hl.1 rfl (Nat.le_of_ble_eq_true rfl) dc_FP_init_9) hP hD hS hc [1] [0] rfl rfl (by decide) (by decide) (fun  w H locs hw1 hP hD hS => ?_)
  obtain ⟨qL1, qR1, qA1, rfl⟩ := hw1
  have hP : va_P D fq_cl ([(h, .inr (10, [.null, .null, .null, .null, .null, .int 0, .int 0, .int 0])), (q1, .inr (6, [.ref qL1, .ref qR1, .int 0])), (qL1, .inr (11, [.ref tE, .int 0, .int 0])), (qR1, .inr (0, [.ref qA1, .int 0, .int 0])), (qA1, .inl (cI, 366, .inl (fun _ => 0)))]) _ := hP
  have hD : va_D A ([(h, .inr (10, [.null, .null, .null, .null, .null, .int 0, .int 0, .int 0])), (q1, .inr (6, [.ref qL1, .ref qR1, .int 0])), (qL1, .inr (11, [.ref tE, .int 0, .int 0])), (qR1, .inr (0, [.ref qA1, .int 0, .int 0])), (qA1, .inl (cI, 366, .inl (fun _ => 0)))]) := hD
  refine fq_putF K hK cl_FP hP hD hS hin 0 0 rfl (by decide) wd_181 rfl rfl rfl rfl (Nat.le_of_ble_eq_true rfl) dc_FP_init_12 (fun H locs hP hD hS => ?_)
  have hP : va_P D fq_cl ([(h, .inr (10, [.ref q1, .null, .null, .null, .null, .int 0, .int 0, .int 0])), (q1, .inr (6, [.ref qL1, .ref qR1, .int 0])), (qL1, .inr (11, [.ref tE, .int 0, .int 0])), (qR1, .inr (0, [.ref qA1, .int 0, .int 0])), (qA1, .inl (cI, 366, .inl (fun _ => 0)))]) _ := hP
  have hD : va_D A ([(h, .inr (10, [.ref q1, .null, .null, .null, .null, .int 0, .int 0, .int 0])), (q1, .inr (6, [.ref qL1, .ref qR1, .int 0])), (qL1, .inr (11, [.ref tE, .int 0, .int 0])), (qR1, .inr (0, [.ref qA1, .int 0, .int 0])), (qA1, .inl (cI, 366, .inl (fun _ => 0)))]) := hD
  refine lv_aload_n K.1 K.2.1 dc_FP_init_15 rfl (lv_at hl 0 rfl) ?_
  refine fq_new (fs := [.null, .null, .int 0, .int 0]) K hK cl_Source wd_115 wd_116 wd_32 hP hD hS hA (by decide) (Nat.le_of_ble_eq_true rfl) (Nat.le_of_ble_eq_true rfl) dc_FP_init_16 (fun q2 H hP hD hS => ?_)
  have hP : va_P D fq_cl ([(h, .inr (10, [.ref q1, .null, .null, .null, .null, .int 0, .int 0, .int 0])), (q1, .inr (6, [.ref qL1, .ref qR1, .int 0])), (qL1, .inr (11, [.ref tE, .int 0, .int 0])), (qR1, .inr (0, [.ref qA1, .int 0, .int 0])), (qA1, .inl (cI, 366, .inl (fun _ => 0))), (q2, .inr (8, [.null, .null, .int 0, .int 0]))]) _ := hP
  have hD : va_D A ([(h, .inr (10, [.ref q1, .null, .null, .null, .null, .int 0, .int 0, .int 0])), (q1, .inr (6, [.ref qL1, .ref qR1, .int 0])), (qL1, .inr (11, [.ref tE, .int 0, .int 0])), (qR1, .inr (0, [.ref qA1, .int 0, .int 0])), (qA1, .inl (cI, 366, .inl (fun _ => 0))), (q2, .inr (8, [.null, .null, .int 0, .int 0]))]) := hD
  refine lv_dup K.1 K.2.1 dc_FP_init_19 rfl ?_
  have hc := fq_cut.of (wc := [(q2, .inr (8, [.null, .null, .int 0, .int 0]))]) hP hD hS hA [5] (by decide) rfl
  refine fq_cv (wr := [(h, .inr (10, [.ref q1, .null, .null, .null, .null, .int 0, .int 0, .int 0])), (q1, .inr (6, [.ref qL1, .ref qR1, .int 0])), (qL1, .inr (11, [.ref tE, .int 0, .int 0])), (qR1, .inr (0, [.ref qA1, .int 0, .int 0])), (qA1, .inl (cI, 366, .inl (fun _ => 0)))]) (fq_rIN K hK hZ hS hc (ct_Source_init l D cI cO tE q2 _) yk_Source_init wd_118 rfl wn_117 ⟨⟨rfl, rfl⟩, ⟨Nat.le_of_ble_eq_true rfl, Nat.le_of_ble_eq_true rfl⟩, ⟨Nat.le_of_ble_eq_true rfl, Nat.le_of_ble_eq_true rfl⟩⟩ hl.1 rfl (Nat.le_of_ble_eq_true rfl) dc_FP_init_20) hP hD hS hc [5] [0, 1, 2, 3, 4] rfl rfl (by decide) (by decide) (fun  w H locs hw2 hP hD hS => ?_)
  obtain ⟨qy1, qw1, qa1, rfl⟩ := hw2
  have hP : va_P D fq_cl ([(h, .inr (10, [.ref q1, .null, .null, .null, .null, .int 0, .int 0, .int 0])), (q1, .inr (6, [.ref qL1, .ref qR1, .int 0])), (qL1, .inr (11, [.ref tE, .int 0, .int 0])), (qR1, .inr (0, [.ref qA1, .int 0, .int 0])), (qA1, .inl (cI, 366, .inl (fun _ => 0))), (q2, .inr (8, [.ref qy1, .ref qw1, .int 0, .int 0])), (qy1, .inr (7, [.int 2, .int 0])), (qw1, .inr (0, [.ref qa1, .int 0, .int 0])), (qa1, .inl (cI, 120, .inl (fun _ => 0)))]) _ := hP
  have hD : va_D A ([(h, .inr (10, [.ref q1, .null, .null, .null, .null, .int 0, .int 0, .int 0])), (q1, .inr (6, [.ref qL1, .ref qR1, .int 0])), (qL1, .inr (11, [.ref tE, .int 0, .int 0])), (qR1, .inr (0, [.ref qA1, .int 0, .int 0])), (qA1, .inl (cI, 366, .inl (fun _ => 0))), (q2, .inr (8, [.ref qy1, .ref qw1, .int 0, .int 0])), (qy1, .inr (7, [.int 2, .int 0])), (qw1, .inr (0, [.ref qa1, .int 0, .int 0])), (qa1, .inl (cI, 120, .inl (fun _ => 0)))]) := hD
  refine fq_putF K hK cl_FP hP hD hS hin 0 1 rfl (by decide) wd_182 rfl rfl rfl rfl (Nat.le_of_ble_eq_true rfl) dc_FP_init_23 (fun H locs hP hD hS => ?_)
  have hP : va_P D fq_cl ([(h, .inr (10, [.ref q1, .ref q2, .null, .null, .null, .int 0, .int 0, .int 0])), (q1, .inr (6, [.ref qL1, .ref qR1, .int 0])), (qL1, .inr (11, [.ref tE, .int 0, .int 0])), (qR1, .inr (0, [.ref qA1, .int 0, .int 0])), (qA1, .inl (cI, 366, .inl (fun _ => 0))), (q2, .inr (8, [.ref qy1, .ref qw1, .int 0, .int 0])), (qy1, .inr (7, [.int 2, .int 0])), (qw1, .inr (0, [.ref qa1, .int 0, .int 0])), (qa1, .inl (cI, 120, .inl (fun _ => 0)))]) _ := hP
  have hD : va_D A ([(h, .inr (10, [.ref q1, .ref q2, .null, .null, .null, .int 0, .int 0, .int 0])), (q1, .inr (6, [.ref qL1, .ref qR1, .int 0])), (qL1, .inr (11, [.ref tE, .int 0, .int 0])), (qR1, .inr (0, [.ref qA1, .int 0, .int 0])), (qA1, .inl (cI, 366, .inl (fun _ => 0))), (q2, .inr (8, [.ref qy1, .ref qw1, .int 0, .int 0])), (qy1, .inr (7, [.int 2, .int 0])), (qw1, .inr (0, [.ref qa1, .int 0, .int 0])), (qa1, .inl (cI, 120, .inl (fun _ => 0)))]) := hD
  refine lv_aload_n K.1 K.2.1 dc_FP_init_26 rfl (lv_at hl 0 rfl) ?_
  refine fq_new (fs := [.null, .int 0, .int 0]) K hK cl_Row wd_154 wd_89 wd_31 hP hD hS hA (by decide) (Nat.le_of_ble_eq_true rfl) (Nat.le_of_ble_eq_true rfl) dc_FP_init_27 (fun q3 H hP hD hS => ?_)
  have hP : va_P D fq_cl ([(h, .inr (10, [.ref q1, .ref q2, .null, .null, .null, .int 0, .int 0, .int 0])), (q1, .inr (6, [.ref qL1, .ref qR1, .int 0])), (qL1, .inr (11, [.ref tE, .int 0, .int 0])), (qR1, .inr (0, [.ref qA1, .int 0, .int 0])), (qA1, .inl (cI, 366, .inl (fun _ => 0))), (q2, .inr (8, [.ref qy1, .ref qw1, .int 0, .int 0])), (qy1, .inr (7, [.int 2, .int 0])), (qw1, .inr (0, [.ref qa1, .int 0, .int 0])), (qa1, .inl (cI, 120, .inl (fun _ => 0))), (q3, .inr (0, [.null, .int 0, .int 0]))]) _ := hP
  have hD : va_D A ([(h, .inr (10, [.ref q1, .ref q2, .null, .null, .null, .int 0, .int 0, .int 0])), (q1, .inr (6, [.ref qL1, .ref qR1, .int 0])), (qL1, .inr (11, [.ref tE, .int 0, .int 0])), (qR1, .inr (0, [.ref qA1, .int 0, .int 0])), (qA1, .inl (cI, 366, .inl (fun _ => 0))), (q2, .inr (8, [.ref qy1, .ref qw1, .int 0, .int 0])), (qy1, .inr (7, [.int 2, .int 0])), (qw1, .inr (0, [.ref qa1, .int 0, .int 0])), (qa1, .inl (cI, 120, .inl (fun _ => 0))), (q3, .inr (0, [.null, .int 0, .int 0]))]) := hD
  refine lv_dup K.1 K.2.1 dc_FP_init_30 rfl ?_
  refine lv_sipush (v := 366) K.1 K.2.1 dc_FP_init_31 (by decide) ?_
  refine fq_asi (y := nI 366) (by decide) ?_
  have hc := fq_cut.of (wc := [(q3, .inr (0, [.null, .int 0, .int 0]))]) hP hD hS hA [9] (by decide) rfl
  refine fq_cv (wr := [(h, .inr (10, [.ref q1, .ref q2, .null, .null, .null, .int 0, .int 0, .int 0])), (q1, .inr (6, [.ref qL1, .ref qR1, .int 0])), (qL1, .inr (11, [.ref tE, .int 0, .int 0])), (qR1, .inr (0, [.ref qA1, .int 0, .int 0])), (qA1, .inl (cI, 366, .inl (fun _ => 0))), (q2, .inr (8, [.ref qy1, .ref qw1, .int 0, .int 0])), (qy1, .inr (7, [.int 2, .int 0])), (qw1, .inr (0, [.ref qa1, .int 0, .int 0])), (qa1, .inl (cI, 120, .inl (fun _ => 0)))]) (fq_rI K hK hZ hS hc (ct_Row_init l D cI cO tE q3 366 (by decide) _) yk_Row_init wd_91 rfl wd_155 ⟨⟨rfl, rfl⟩, ⟨Nat.le_of_ble_eq_true rfl, Nat.le_of_ble_eq_true rfl⟩, ⟨Nat.le_of_ble_eq_true rfl, Nat.le_of_ble_eq_true rfl⟩⟩ hl.1 rfl (Nat.le_of_ble_eq_true rfl) dc_FP_init_34) hP hD hS hc [9] [0, 1, 2, 3, 4, 5, 6, 7, 8] rfl rfl (by decide) (by decide) (fun  w H locs hw3 hP hD hS => ?_)
  obtain ⟨q4, rfl⟩ := hw3
  have hP : va_P D fq_cl ([(h, .inr (10, [.ref q1, .ref q2, .null, .null, .null, .int 0, .int 0, .int 0])), (q1, .inr (6, [.ref qL1, .ref qR1, .int 0])), (qL1, .inr (11, [.ref tE, .int 0, .int 0])), (qR1, .inr (0, [.ref qA1, .int 0, .int 0])), (qA1, .inl (cI, 366, .inl (fun _ => 0))), (q2, .inr (8, [.ref qy1, .ref qw1, .int 0, .int 0])), (qy1, .inr (7, [.int 2, .int 0])), (qw1, .inr (0, [.ref qa1, .int 0, .int 0])), (qa1, .inl (cI, 120, .inl (fun _ => 0))), (q3, .inr (0, [.ref q4, .int 0, .int 0])), (q4, .inl (cI, 366, .inl (fun _ => 0)))]) _ := hP
  have hD : va_D A ([(h, .inr (10, [.ref q1, .ref q2, .null, .null, .null, .int 0, .int 0, .int 0])), (q1, .inr (6, [.ref qL1, .ref qR1, .int 0])), (qL1, .inr (11, [.ref tE, .int 0, .int 0])), (qR1, .inr (0, [.ref qA1, .int 0, .int 0])), (qA1, .inl (cI, 366, .inl (fun _ => 0))), (q2, .inr (8, [.ref qy1, .ref qw1, .int 0, .int 0])), (qy1, .inr (7, [.int 2, .int 0])), (qw1, .inr (0, [.ref qa1, .int 0, .int 0])), (qa1, .inl (cI, 120, .inl (fun _ => 0))), (q3, .inr (0, [.ref q4, .int 0, .int 0])), (q4, .inl (cI, 366, .inl (fun _ => 0)))]) := hD
  refine fq_putF K hK cl_FP hP hD hS hin 0 2 rfl (by decide) wd_183 rfl rfl rfl rfl (Nat.le_of_ble_eq_true rfl) dc_FP_init_37 (fun H locs hP hD hS => ?_)
  have hP : va_P D fq_cl ([(h, .inr (10, [.ref q1, .ref q2, .ref q3, .null, .null, .int 0, .int 0, .int 0])), (q1, .inr (6, [.ref qL1, .ref qR1, .int 0])), (qL1, .inr (11, [.ref tE, .int 0, .int 0])), (qR1, .inr (0, [.ref qA1, .int 0, .int 0])), (qA1, .inl (cI, 366, .inl (fun _ => 0))), (q2, .inr (8, [.ref qy1, .ref qw1, .int 0, .int 0])), (qy1, .inr (7, [.int 2, .int 0])), (qw1, .inr (0, [.ref qa1, .int 0, .int 0])), (qa1, .inl (cI, 120, .inl (fun _ => 0))), (q3, .inr (0, [.ref q4, .int 0, .int 0])), (q4, .inl (cI, 366, .inl (fun _ => 0)))]) _ := hP
  have hD : va_D A ([(h, .inr (10, [.ref q1, .ref q2, .ref q3, .null, .null, .int 0, .int 0, .int 0])), (q1, .inr (6, [.ref qL1, .ref qR1, .int 0])), (qL1, .inr (11, [.ref tE, .int 0, .int 0])), (qR1, .inr (0, [.ref qA1, .int 0, .int 0])), (qA1, .inl (cI, 366, .inl (fun _ => 0))), (q2, .inr (8, [.ref qy1, .ref qw1, .int 0, .int 0])), (qy1, .inr (7, [.int 2, .int 0])), (qw1, .inr (0, [.ref qa1, .int 0, .int 0])), (qa1, .inl (cI, 120, .inl (fun _ => 0))), (q3, .inr (0, [.ref q4, .int 0, .int 0])), (q4, .inl (cI, 366, .inl (fun _ => 0)))]) := hD
  refine lv_aload_n K.1 K.2.1 dc_FP_init_40 rfl (lv_at hl 0 rfl) ?_
  refine fq_new (fs := [.null, .null]) K hK cl_Sink wd_156 wd_157 wd_34 hP hD hS hA (by decide) (Nat.le_of_ble_eq_true rfl) (Nat.le_of_ble_eq_true rfl) dc_FP_init_41 (fun q5 H hP hD hS => ?_)
  have hP : va_P D fq_cl ([(h, .inr (10, [.ref q1, .ref q2, .ref q3, .null, .null, .int 0, .int 0, .int 0])), (q1, .inr (6, [.ref qL1, .ref qR1, .int 0])), (qL1, .inr (11, [.ref tE, .int 0, .int 0])), (qR1, .inr (0, [.ref qA1, .int 0, .int 0])), (qA1, .inl (cI, 366, .inl (fun _ => 0))), (q2, .inr (8, [.ref qy1, .ref qw1, .int 0, .int 0])), (qy1, .inr (7, [.int 2, .int 0])), (qw1, .inr (0, [.ref qa1, .int 0, .int 0])), (qa1, .inl (cI, 120, .inl (fun _ => 0))), (q3, .inr (0, [.ref q4, .int 0, .int 0])), (q4, .inl (cI, 366, .inl (fun _ => 0))), (q5, .inr (9, [.null, .null]))]) _ := hP
  have hD : va_D A ([(h, .inr (10, [.ref q1, .ref q2, .ref q3, .null, .null, .int 0, .int 0, .int 0])), (q1, .inr (6, [.ref qL1, .ref qR1, .int 0])), (qL1, .inr (11, [.ref tE, .int 0, .int 0])), (qR1, .inr (0, [.ref qA1, .int 0, .int 0])), (qA1, .inl (cI, 366, .inl (fun _ => 0))), (q2, .inr (8, [.ref qy1, .ref qw1, .int 0, .int 0])), (qy1, .inr (7, [.int 2, .int 0])), (qw1, .inr (0, [.ref qa1, .int 0, .int 0])), (qa1, .inl (cI, 120, .inl (fun _ => 0))), (q3, .inr (0, [.ref q4, .int 0, .int 0])), (q4, .inl (cI, 366, .inl (fun _ => 0))), (q5, .inr (9, [.null, .null]))]) := hD
  refine lv_dup K.1 K.2.1 dc_FP_init_44 rfl ?_
  have hc := fq_cut.of (wc := [(q5, .inr (9, [.null, .null]))]) hP hD hS hA [11] (by decide) rfl
  refine fq_cv (wr := [(h, .inr (10, [.ref q1, .ref q2, .ref q3, .null, .null, .int 0, .int 0, .int 0])), (q1, .inr (6, [.ref qL1, .ref qR1, .int 0])), (qL1, .inr (11, [.ref tE, .int 0, .int 0])), (qR1, .inr (0, [.ref qA1, .int 0, .int 0])), (qA1, .inl (cI, 366, .inl (fun _ => 0))), (q2, .inr (8, [.ref qy1, .ref qw1, .int 0, .int 0])), (qy1, .inr (7, [.int 2, .int 0])), (qw1, .inr (0, [.ref qa1, .int 0, .int 0])), (qa1, .inl (cI, 120, .inl (fun _ => 0))), (q3, .inr (0, [.ref q4, .int 0, .int 0])), (q4, .inl (cI, 366, .inl (fun _ => 0)))]) (fq_rIN K hK hZ hS hc (ct_Sink_init l D cI cO tE q5 _) yk_Sink_init wd_159 rfl wn_158 ⟨⟨rfl, rfl⟩, ⟨Nat.le_of_ble_eq_true rfl, Nat.le_of_ble_eq_true rfl⟩, ⟨Nat.le_of_ble_eq_true rfl, Nat.le_of_ble_eq_true rfl⟩⟩ hl.1 rfl (Nat.le_of_ble_eq_true rfl) dc_FP_init_45) hP hD hS hc [11] [0, 1, 2, 3, 4, 5, 6, 7, 8, 9, 10] rfl rfl (by decide) (by decide) (fun  w H locs hw4 hP hD hS => ?_)
  obtain ⟨qy2, qw2, qa2, rfl⟩ := hw4
  have hP : va_P D fq_cl ([(h, .inr (10, [.ref q1, .ref q2, .ref q3, .null, .null, .int 0, .int 0, .int 0])), (q1, .inr (6, [.ref qL1, .ref qR1, .int 0])), (qL1, .inr (11, [.ref tE, .int 0, .int 0])), (qR1, .inr (0, [.ref qA1, .int 0, .int 0])), (qA1, .inl (cI, 366, .inl (fun _ => 0))), (q2, .inr (8, [.ref qy1, .ref qw1, .int 0, .int 0])), (qy1, .inr (7, [.int 2, .int 0])), (qw1, .inr (0, [.ref qa1, .int 0, .int 0])), (qa1, .inl (cI, 120, .inl (fun _ => 0))), (q3, .inr (0, [.ref q4, .int 0, .int 0])), (q4, .inl (cI, 366, .inl (fun _ => 0))), (q5, .inr (9, [.ref qy2, .ref qw2])), (qy2, .inr (7, [.int 2, .int 0])), (qw2, .inr (0, [.ref qa2, .int 0, .int 0])), (qa2, .inl (cI, 2286, .inl (fun _ => 0)))]) _ := hP
  have hD : va_D A ([(h, .inr (10, [.ref q1, .ref q2, .ref q3, .null, .null, .int 0, .int 0, .int 0])), (q1, .inr (6, [.ref qL1, .ref qR1, .int 0])), (qL1, .inr (11, [.ref tE, .int 0, .int 0])), (qR1, .inr (0, [.ref qA1, .int 0, .int 0])), (qA1, .inl (cI, 366, .inl (fun _ => 0))), (q2, .inr (8, [.ref qy1, .ref qw1, .int 0, .int 0])), (qy1, .inr (7, [.int 2, .int 0])), (qw1, .inr (0, [.ref qa1, .int 0, .int 0])), (qa1, .inl (cI, 120, .inl (fun _ => 0))), (q3, .inr (0, [.ref q4, .int 0, .int 0])), (q4, .inl (cI, 366, .inl (fun _ => 0))), (q5, .inr (9, [.ref qy2, .ref qw2])), (qy2, .inr (7, [.int 2, .int 0])), (qw2, .inr (0, [.ref qa2, .int 0, .int 0])), (qa2, .inl (cI, 2286, .inl (fun _ => 0)))]) := hD
  refine fq_putF K hK cl_FP hP hD hS hin 0 4 rfl (by decide) wd_185 rfl rfl rfl rfl (Nat.le_of_ble_eq_true rfl) dc_FP_init_48 (fun H locs hP hD hS => ?_)
  have hP : va_P D fq_cl ([(h, .inr (10, [.ref q1, .ref q2, .ref q3, .null, .ref q5, .int 0, .int 0, .int 0])), (q1, .inr (6, [.ref qL1, .ref qR1, .int 0])), (qL1, .inr (11, [.ref tE, .int 0, .int 0])), (qR1, .inr (0, [.ref qA1, .int 0, .int 0])), (qA1, .inl (cI, 366, .inl (fun _ => 0))), (q2, .inr (8, [.ref qy1, .ref qw1, .int 0, .int 0])), (qy1, .inr (7, [.int 2, .int 0])), (qw1, .inr (0, [.ref qa1, .int 0, .int 0])), (qa1, .inl (cI, 120, .inl (fun _ => 0))), (q3, .inr (0, [.ref q4, .int 0, .int 0])), (q4, .inl (cI, 366, .inl (fun _ => 0))), (q5, .inr (9, [.ref qy2, .ref qw2])), (qy2, .inr (7, [.int 2, .int 0])), (qw2, .inr (0, [.ref qa2, .int 0, .int 0])), (qa2, .inl (cI, 2286, .inl (fun _ => 0)))]) _ := hP
  have hD : va_D A ([(h, .inr (10, [.ref q1, .ref q2, .ref q3, .null, .ref q5, .int 0, .int 0, .int 0])), (q1, .inr (6, [.ref qL1, .ref qR1, .int 0])), (qL1, .inr (11, [.ref tE, .int 0, .int 0])), (qR1, .inr (0, [.ref qA1, .int 0, .int 0])), (qA1, .inl (cI, 366, .inl (fun _ => 0))), (q2, .inr (8, [.ref qy1, .ref qw1, .int 0, .int 0])), (qy1, .inr (7, [.int 2, .int 0])), (qw1, .inr (0, [.ref qa1, .int 0, .int 0])), (qa1, .inl (cI, 120, .inl (fun _ => 0))), (q3, .inr (0, [.ref q4, .int 0, .int 0])), (q4, .inl (cI, 366, .inl (fun _ => 0))), (q5, .inr (9, [.ref qy2, .ref qw2])), (qy2, .inr (7, [.int 2, .int 0])), (qw2, .inr (0, [.ref qa2, .int 0, .int 0])), (qa2, .inl (cI, 2286, .inl (fun _ => 0)))]) := hD
  refine lv_aload_n K.1 K.2.1 dc_FP_init_51 rfl (lv_at hl 0 rfl) ?_
  refine lv_iconst (v := 0) K.1 K.2.1 dc_FP_init_52 (by decide) ?_
  refine fq_put K hK cl_FP hP hD hS 0 6 rfl (by decide) wd_187 rfl rfl rfl (Nat.le_of_ble_eq_true rfl) dc_FP_init_53 (fun H locs hP hD hS => ?_)
  have hP : va_P D fq_cl ([(h, .inr (10, [.ref q1, .ref q2, .ref q3, .null, .ref q5, .int 0, .int 0, .int 0])), (q1, .inr (6, [.ref qL1, .ref qR1, .int 0])), (qL1, .inr (11, [.ref tE, .int 0, .int 0])), (qR1, .inr (0, [.ref qA1, .int 0, .int 0])), (qA1, .inl (cI, 366, .inl (fun _ => 0))), (q2, .inr (8, [.ref qy1, .ref qw1, .int 0, .int 0])), (qy1, .inr (7, [.int 2, .int 0])), (qw1, .inr (0, [.ref qa1, .int 0, .int 0])), (qa1, .inl (cI, 120, .inl (fun _ => 0))), (q3, .inr (0, [.ref q4, .int 0, .int 0])), (q4, .inl (cI, 366, .inl (fun _ => 0))), (q5, .inr (9, [.ref qy2, .ref qw2])), (qy2, .inr (7, [.int 2, .int 0])), (qw2, .inr (0, [.ref qa2, .int 0, .int 0])), (qa2, .inl (cI, 2286, .inl (fun _ => 0)))]) _ := hP
  have hD : va_D A ([(h, .inr (10, [.ref q1, .ref q2, .ref q3, .null, .ref q5, .int 0, .int 0, .int 0])), (q1, .inr (6, [.ref qL1, .ref qR1, .int 0])), (qL1, .inr (11, [.ref tE, .int 0, .int 0])), (qR1, .inr (0, [.ref qA1, .int 0, .int 0])), (qA1, .inl (cI, 366, .inl (fun _ => 0))), (q2, .inr (8, [.ref qy1, .ref qw1, .int 0, .int 0])), (qy1, .inr (7, [.int 2, .int 0])), (qw1, .inr (0, [.ref qa1, .int 0, .int 0])), (qa1, .inl (cI, 120, .inl (fun _ => 0))), (q3, .inr (0, [.ref q4, .int 0, .int 0])), (q4, .inl (cI, 366, .inl (fun _ => 0))), (q5, .inr (9, [.ref qy2, .ref qw2])), (qy2, .inr (7, [.int 2, .int 0])), (qw2, .inr (0, [.ref qa2, .int 0, .int 0])), (qa2, .inl (cI, 2286, .inl (fun _ => 0)))]) := hD
  refine lv_aload_n K.1 K.2.1 dc_FP_init_56 rfl (lv_at hl 0 rfl) ?_
  refine lv_iconst (v := 0) K.1 K.2.1 dc_FP_init_57 (by decide) ?_
  refine fq_put K hK cl_FP hP hD hS 0 7 rfl (by decide) wd_188 rfl rfl rfl (Nat.le_of_ble_eq_true rfl) dc_FP_init_58 (fun H locs hP hD hS => ?_)
  have hP : va_P D fq_cl ([(h, .inr (10, [.ref q1, .ref q2, .ref q3, .null, .ref q5, .int 0, .int 0, .int 0])), (q1, .inr (6, [.ref qL1, .ref qR1, .int 0])), (qL1, .inr (11, [.ref tE, .int 0, .int 0])), (qR1, .inr (0, [.ref qA1, .int 0, .int 0])), (qA1, .inl (cI, 366, .inl (fun _ => 0))), (q2, .inr (8, [.ref qy1, .ref qw1, .int 0, .int 0])), (qy1, .inr (7, [.int 2, .int 0])), (qw1, .inr (0, [.ref qa1, .int 0, .int 0])), (qa1, .inl (cI, 120, .inl (fun _ => 0))), (q3, .inr (0, [.ref q4, .int 0, .int 0])), (q4, .inl (cI, 366, .inl (fun _ => 0))), (q5, .inr (9, [.ref qy2, .ref qw2])), (qy2, .inr (7, [.int 2, .int 0])), (qw2, .inr (0, [.ref qa2, .int 0, .int 0])), (qa2, .inl (cI, 2286, .inl (fun _ => 0)))]) _ := hP
  have hD : va_D A ([(h, .inr (10, [.ref q1, .ref q2, .ref q3, .null, .ref q5, .int 0, .int 0, .int 0])), (q1, .inr (6, [.ref qL1, .ref qR1, .int 0])), (qL1, .inr (11, [.ref tE, .int 0, .int 0])), (qR1, .inr (0, [.ref qA1, .int 0, .int 0])), (qA1, .inl (cI, 366, .inl (fun _ => 0))), (q2, .inr (8, [.ref qy1, .ref qw1, .int 0, .int 0])), (qy1, .inr (7, [.int 2, .int 0])), (qw1, .inr (0, [.ref qa1, .int 0, .int 0])), (qa1, .inl (cI, 120, .inl (fun _ => 0))), (q3, .inr (0, [.ref q4, .int 0, .int 0])), (q4, .inl (cI, 366, .inl (fun _ => 0))), (q5, .inr (9, [.ref qy2, .ref qw2])), (qy2, .inr (7, [.int 2, .int 0])), (qw2, .inr (0, [.ref qa2, .int 0, .int 0])), (qa2, .inl (cI, 2286, .inl (fun _ => 0)))]) := hD
  refine lv_aload_n K.1 K.2.1 dc_FP_init_61 rfl (lv_at hl 0 rfl) ?_
  refine fq_new (fs := [.null, .int 0, .int 0]) K hK cl_Row wd_154 wd_89 wd_31 hP hD hS hA (by decide) (Nat.le_of_ble_eq_true rfl) (Nat.le_of_ble_eq_true rfl) dc_FP_init_62 (fun q6 H hP hD hS => ?_)
  have hP : va_P D fq_cl ([(h, .inr (10, [.ref q1, .ref q2, .ref q3, .null, .ref q5, .int 0, .int 0, .int 0])), (q1, .inr (6, [.ref qL1, .ref qR1, .int 0])), (qL1, .inr (11, [.ref tE, .int 0, .int 0])), (qR1, .inr (0, [.ref qA1, .int 0, .int 0])), (qA1, .inl (cI, 366, .inl (fun _ => 0))), (q2, .inr (8, [.ref qy1, .ref qw1, .int 0, .int 0])), (qy1, .inr (7, [.int 2, .int 0])), (qw1, .inr (0, [.ref qa1, .int 0, .int 0])), (qa1, .inl (cI, 120, .inl (fun _ => 0))), (q3, .inr (0, [.ref q4, .int 0, .int 0])), (q4, .inl (cI, 366, .inl (fun _ => 0))), (q5, .inr (9, [.ref qy2, .ref qw2])), (qy2, .inr (7, [.int 2, .int 0])), (qw2, .inr (0, [.ref qa2, .int 0, .int 0])), (qa2, .inl (cI, 2286, .inl (fun _ => 0))), (q6, .inr (0, [.null, .int 0, .int 0]))]) _ := hP
  have hD : va_D A ([(h, .inr (10, [.ref q1, .ref q2, .ref q3, .null, .ref q5, .int 0, .int 0, .int 0])), (q1, .inr (6, [.ref qL1, .ref qR1, .int 0])), (qL1, .inr (11, [.ref tE, .int 0, .int 0])), (qR1, .inr (0, [.ref qA1, .int 0, .int 0])), (qA1, .inl (cI, 366, .inl (fun _ => 0))), (q2, .inr (8, [.ref qy1, .ref qw1, .int 0, .int 0])), (qy1, .inr (7, [.int 2, .int 0])), (qw1, .inr (0, [.ref qa1, .int 0, .int 0])), (qa1, .inl (cI, 120, .inl (fun _ => 0))), (q3, .inr (0, [.ref q4, .int 0, .int 0])), (q4, .inl (cI, 366, .inl (fun _ => 0))), (q5, .inr (9, [.ref qy2, .ref qw2])), (qy2, .inr (7, [.int 2, .int 0])), (qw2, .inr (0, [.ref qa2, .int 0, .int 0])), (qa2, .inl (cI, 2286, .inl (fun _ => 0))), (q6, .inr (0, [.null, .int 0, .int 0]))]) := hD
  refine lv_dup K.1 K.2.1 dc_FP_init_65 rfl ?_
  refine lv_iconst (v := 1) K.1 K.2.1 dc_FP_init_66 (by decide) ?_
  refine lv_iload_n K.1 K.2.1 dc_FP_init_67 rfl (lv_at hl 1 rfl) ?_
  refine lv_bipush (v := 12) K.1 K.2.1 dc_FP_init_68 (by decide) ?_
  refine va_mmin K.1 K.2.1 (K.2.2.1.trans hl.1.symm) K.2.2.2.1 (K.2.2.2.2 _ wd_175) (K.2.2.2.2 _ wd_176) (K.2.2.2.2 _ wd_35) (K.2.2.2.2 _ wd_177) (Nat.le_of_ble_eq_true rfl) (Nat.le_of_ble_eq_true rfl) (Nat.le_of_ble_eq_true rfl) (Nat.le_of_ble_eq_true rfl) dc_FP_init_70 ?_
  refine va_mmax K.1 K.2.1 (K.2.2.1.trans hl.1.symm) K.2.2.2.1 (K.2.2.2.2 _ wd_178) (K.2.2.2.2 _ wd_179) (K.2.2.2.2 _ wd_35) (K.2.2.2.2 _ wd_180) (Nat.le_of_ble_eq_true rfl) (Nat.le_of_ble_eq_true rfl) (Nat.le_of_ble_eq_true rfl) (Nat.le_of_ble_eq_true rfl) dc_FP_init_73 ?_
  refine fq_asi (y := nI (in_r x)) (in_e x) ?_
  have hc := fq_cut.of (wc := [(q6, .inr (0, [.null, .int 0, .int 0]))]) hP hD hS hA [15] (by decide) rfl
  refine fq_cv (wr := [(h, .inr (10, [.ref q1, .ref q2, .ref q3, .null, .ref q5, .int 0, .int 0, .int 0])), (q1, .inr (6, [.ref qL1, .ref qR1, .int 0])), (qL1, .inr (11, [.ref tE, .int 0, .int 0])), (qR1, .inr (0, [.ref qA1, .int 0, .int 0])), (qA1, .inl (cI, 366, .inl (fun _ => 0))), (q2, .inr (8, [.ref qy1, .ref qw1, .int 0, .int 0])), (qy1, .inr (7, [.int 2, .int 0])), (qw1, .inr (0, [.ref qa1, .int 0, .int 0])), (qa1, .inl (cI, 120, .inl (fun _ => 0))), (q3, .inr (0, [.ref q4, .int 0, .int 0])), (q4, .inl (cI, 366, .inl (fun _ => 0))), (q5, .inr (9, [.ref qy2, .ref qw2])), (qy2, .inr (7, [.int 2, .int 0])), (qw2, .inr (0, [.ref qa2, .int 0, .int 0])), (qa2, .inl (cI, 2286, .inl (fun _ => 0)))]) (fq_rI K hK hZ hS hc (ct_Row_init l D cI cO tE q6 (in_r x) (in_5 x) _) yk_Row_init wd_91 rfl wd_155 ⟨⟨rfl, rfl⟩, ⟨Nat.le_of_ble_eq_true rfl, Nat.le_of_ble_eq_true rfl⟩, ⟨Nat.le_of_ble_eq_true rfl, (Nat.le_trans (Nat.add_le_add_left (in_12 x) _) (Nat.le_of_ble_eq_true rfl))⟩⟩ hl.1 rfl (Nat.le_of_ble_eq_true rfl) dc_FP_init_76) hP hD hS hc [15] [0, 1, 2, 3, 4, 5, 6, 7, 8, 9, 10, 11, 12, 13, 14] rfl rfl (by decide) (by decide) (fun  w H locs hw5 hP hD hS => ?_)
  obtain ⟨q7, rfl⟩ := hw5
  have hP : va_P D fq_cl ([(h, .inr (10, [.ref q1, .ref q2, .ref q3, .null, .ref q5, .int 0, .int 0, .int 0])), (q1, .inr (6, [.ref qL1, .ref qR1, .int 0])), (qL1, .inr (11, [.ref tE, .int 0, .int 0])), (qR1, .inr (0, [.ref qA1, .int 0, .int 0])), (qA1, .inl (cI, 366, .inl (fun _ => 0))), (q2, .inr (8, [.ref qy1, .ref qw1, .int 0, .int 0])), (qy1, .inr (7, [.int 2, .int 0])), (qw1, .inr (0, [.ref qa1, .int 0, .int 0])), (qa1, .inl (cI, 120, .inl (fun _ => 0))), (q3, .inr (0, [.ref q4, .int 0, .int 0])), (q4, .inl (cI, 366, .inl (fun _ => 0))), (q5, .inr (9, [.ref qy2, .ref qw2])), (qy2, .inr (7, [.int 2, .int 0])), (qw2, .inr (0, [.ref qa2, .int 0, .int 0])), (qa2, .inl (cI, 2286, .inl (fun _ => 0))), (q6, .inr (0, [.ref q7, .int 0, .int 0])), (q7, .inl (cI, in_r x, .inl (fun _ => 0)))]) _ := hP
  have hD : va_D A ([(h, .inr (10, [.ref q1, .ref q2, .ref q3, .null, .ref q5, .int 0, .int 0, .int 0])), (q1, .inr (6, [.ref qL1, .ref qR1, .int 0])), (qL1, .inr (11, [.ref tE, .int 0, .int 0])), (qR1, .inr (0, [.ref qA1, .int 0, .int 0])), (qA1, .inl (cI, 366, .inl (fun _ => 0))), (q2, .inr (8, [.ref qy1, .ref qw1, .int 0, .int 0])), (qy1, .inr (7, [.int 2, .int 0])), (qw1, .inr (0, [.ref qa1, .int 0, .int 0])), (qa1, .inl (cI, 120, .inl (fun _ => 0))), (q3, .inr (0, [.ref q4, .int 0, .int 0])), (q4, .inl (cI, 366, .inl (fun _ => 0))), (q5, .inr (9, [.ref qy2, .ref qw2])), (qy2, .inr (7, [.int 2, .int 0])), (qw2, .inr (0, [.ref qa2, .int 0, .int 0])), (qa2, .inl (cI, 2286, .inl (fun _ => 0))), (q6, .inr (0, [.ref q7, .int 0, .int 0])), (q7, .inl (cI, in_r x, .inl (fun _ => 0)))]) := hD
  refine fq_putF K hK cl_FP hP hD hS hin 0 3 rfl (by decide) wd_184 rfl rfl rfl rfl (Nat.le_of_ble_eq_true rfl) dc_FP_init_79 (fun H locs hP hD hS => ?_)
  have hP : va_P D fq_cl ([(h, .inr (10, [.ref q1, .ref q2, .ref q3, .ref q6, .ref q5, .int 0, .int 0, .int 0])), (q1, .inr (6, [.ref qL1, .ref qR1, .int 0])), (qL1, .inr (11, [.ref tE, .int 0, .int 0])), (qR1, .inr (0, [.ref qA1, .int 0, .int 0])), (qA1, .inl (cI, 366, .inl (fun _ => 0))), (q2, .inr (8, [.ref qy1, .ref qw1, .int 0, .int 0])), (qy1, .inr (7, [.int 2, .int 0])), (qw1, .inr (0, [.ref qa1, .int 0, .int 0])), (qa1, .inl (cI, 120, .inl (fun _ => 0))), (q3, .inr (0, [.ref q4, .int 0, .int 0])), (q4, .inl (cI, 366, .inl (fun _ => 0))), (q5, .inr (9, [.ref qy2, .ref qw2])), (qy2, .inr (7, [.int 2, .int 0])), (qw2, .inr (0, [.ref qa2, .int 0, .int 0])), (qa2, .inl (cI, 2286, .inl (fun _ => 0))), (q6, .inr (0, [.ref q7, .int 0, .int 0])), (q7, .inl (cI, in_r x, .inl (fun _ => 0)))]) _ := hP
  have hD : va_D A ([(h, .inr (10, [.ref q1, .ref q2, .ref q3, .ref q6, .ref q5, .int 0, .int 0, .int 0])), (q1, .inr (6, [.ref qL1, .ref qR1, .int 0])), (qL1, .inr (11, [.ref tE, .int 0, .int 0])), (qR1, .inr (0, [.ref qA1, .int 0, .int 0])), (qA1, .inl (cI, 366, .inl (fun _ => 0))), (q2, .inr (8, [.ref qy1, .ref qw1, .int 0, .int 0])), (qy1, .inr (7, [.int 2, .int 0])), (qw1, .inr (0, [.ref qa1, .int 0, .int 0])), (qa1, .inl (cI, 120, .inl (fun _ => 0))), (q3, .inr (0, [.ref q4, .int 0, .int 0])), (q4, .inl (cI, 366, .inl (fun _ => 0))), (q5, .inr (9, [.ref qy2, .ref qw2])), (qy2, .inr (7, [.int 2, .int 0])), (qw2, .inr (0, [.ref qa2, .int 0, .int 0])), (qa2, .inl (cI, 2286, .inl (fun _ => 0))), (q6, .inr (0, [.ref q7, .int 0, .int 0])), (q7, .inl (cI, in_r x, .inl (fun _ => 0)))]) := hD
  have hP := hP.sub (ws' := [(h, .inr (10, [.ref q1, .ref q2, .ref q3, .ref q6, .ref q5, .int 0, .int 0, .int 0])), (q1, .inr (6, [.ref qL1, .ref qR1, .int 0])), (qR1, .inr (0, [.ref qA1, .int 0, .int 0])), (qA1, .inl (cI, 366, .inl (fun _ => 0))), (q2, .inr (8, [.ref qy1, .ref qw1, .int 0, .int 0])), (qy1, .inr (7, [.int 2, .int 0])), (qw1, .inr (0, [.ref qa1, .int 0, .int 0])), (qa1, .inl (cI, 120, .inl (fun _ => 0))), (q3, .inr (0, [.ref q4, .int 0, .int 0])), (q4, .inl (cI, 366, .inl (fun _ => 0))), (q6, .inr (0, [.ref q7, .int 0, .int 0])), (q7, .inl (cI, in_r x, .inl (fun _ => 0))), (q5, .inr (9, [.ref qy2, .ref qw2])), (qy2, .inr (7, [.int 2, .int 0])), (qw2, .inr (0, [.ref qa2, .int 0, .int 0])), (qa2, .inl (cI, 2286, .inl (fun _ => 0))), (qL1, .inr (11, [.ref tE, .int 0, .int 0]))]) [0, 1, 3, 4, 5, 6, 7, 8, 9, 10, 15, 16, 11, 12, 13, 14, 2] rfl
  have hD := hD.sub (ws' := [(h, .inr (10, [.ref q1, .ref q2, .ref q3, .ref q6, .ref q5, .int 0, .int 0, .int 0])), (q1, .inr (6, [.ref qL1, .ref qR1, .int 0])), (qR1, .inr (0, [.ref qA1, .int 0, .int 0])), (qA1, .inl (cI, 366, .inl (fun _ => 0))), (q2, .inr (8, [.ref qy1, .ref qw1, .int 0, .int 0])), (qy1, .inr (7, [.int 2, .int 0])), (qw1, .inr (0, [.ref qa1, .int 0, .int 0])), (qa1, .inl (cI, 120, .inl (fun _ => 0))), (q3, .inr (0, [.ref q4, .int 0, .int 0])), (q4, .inl (cI, 366, .inl (fun _ => 0))), (q6, .inr (0, [.ref q7, .int 0, .int 0])), (q7, .inl (cI, in_r x, .inl (fun _ => 0))), (q5, .inr (9, [.ref qy2, .ref qw2])), (qy2, .inr (7, [.int 2, .int 0])), (qw2, .inr (0, [.ref qa2, .int 0, .int 0])), (qa2, .inl (cI, 2286, .inl (fun _ => 0))), (qL1, .inr (11, [.ref tE, .int 0, .int 0]))]) [0, 1, 3, 4, 5, 6, 7, 8, 9, 10, 15, 16, 11, 12, 13, 14, 2] (by decide) rfl
  exact fq_retv K hret hlk hS hP hD ⟨_, _, _, _, _, _, _, _, _, _, _, _, _, _, _, _, _, _, _, _, _, _, _, _, _, _, [(qL1, .inr (11, [.ref tE, .int 0, .int 0]))], [], rfl, rw_nil (by decide) (by decide), rw_nil (by decide) (by decide), rw_nil (by decide) (by decide), rw_nil (in_0 x) (in_5 x), rw_nil (by decide) (by decide), Or.inl ⟨rfl, _, rfl⟩, ch_nil, ⟨by decide, by decide, by decide, ⟨by decide, by decide⟩, ⟨by decide, by decide⟩, by decide⟩⟩ dc_FP_init_82 (Nat.le_of_ble_eq_true rfl) (Nat.le_trans (Nat.add_le_add_left (in_12 x) _) (Nat.le_of_ble_eq_true rfl))
set_option maxHeartbeats 4000000 in
set_option maxRecDepth 100000 in
theorem ct_Section_squaredSize (l : Launch) (D : va_G) (cI cO : ClassId) (tE : Nat) (p q t u v : Int64) (sz : Nat) : Met l my_Section_squaredSize (fq_w my_Section_squaredSize cb_Section_squaredSize 12 (some .long)) ({ frames := 0, cells := 0, slots := 0, locals := 0 }) (va_Pc ([.long p, .long q, .long t, .long u, .long v]) (fq_Pre D cI cO tE sz ([]))) (va_Ql (S := va_W) (fun r w => w = [] ∧ r = sq_s p q t u v) (fq_Bw D (va_A ([]) sz)) (va_A ([]) sz)) (0) (0) (va_A ([]) sz) := by
  refine fq_open (by decide +kernel) (Nat.le_of_ble_eq_true rfl) ?_
  intro pg ev s mt below meth cd ls K hret hlk hin hK hZ hP hD hA hS hl
  generalize va_A ([]) sz = A at hZ hD hA hS ⊢
  have K : fq_Ctx pg mt cd cb_Section_squaredSize 12 s _ cn_Section := K
  have hl : lv_has ls 12 [(0, .long p), (2, .long q), (4, .long t), (6, .long u), (8, .long v)] := hl
  refine lv_ldc2 (v := 2) K.1 K.2.1 K.2.2.2.1 (K.2.2.2.2 _ wd_489) dc_Section_squaredSize_0 ?_
  refine lv_lload K.1 K.2.1 dc_Section_squaredSize_3 (lv_at hl 3 rfl) ?_
  refine lv_lmul K.1 K.2.1 dc_Section_squaredSize_5 ?_
  refine lv_lload K.1 K.2.1 dc_Section_squaredSize_6 (lv_at hl 3 rfl) ?_
  refine lv_lmul K.1 K.2.1 dc_Section_squaredSize_8 ?_
  refine lv_lload K.1 K.2.1 dc_Section_squaredSize_9 (lv_at hl 4 rfl) ?_
  refine lv_lload K.1 K.2.1 dc_Section_squaredSize_11 (lv_at hl 4 rfl) ?_
  refine lv_lmul K.1 K.2.1 dc_Section_squaredSize_13 ?_
  refine lv_lsub K.1 K.2.1 dc_Section_squaredSize_14 ?_
  refine lv_topl (fun v1 e_v1 => ?_)
  refine lv_lstore K.1 K.2.1 dc_Section_squaredSize_15 hl (by decide) rfl (fun ls hl => ?_)
  have hl : lv_has ls 12 [(10, .long v1), (0, .long p), (2, .long q), (4, .long t), (6, .long u), (8, .long v)] := hl
  refine lv_lload_n K.1 K.2.1 dc_Section_squaredSize_17 rfl (lv_at hl 1 rfl) ?_
  refine lv_lload_n K.1 K.2.1 dc_Section_squaredSize_18 rfl (lv_at hl 1 rfl) ?_
  refine lv_lmul K.1 K.2.1 dc_Section_squaredSize_19 ?_
  refine lv_lload_n K.1 K.2.1 dc_Section_squaredSize_20 rfl (lv_at hl 2 rfl) ?_
  refine lv_lload_n K.1 K.2.1 dc_Section_squaredSize_21 rfl (lv_at hl 2 rfl) ?_
  refine lv_lmul K.1 K.2.1 dc_Section_squaredSize_22 ?_
  refine lv_ladd K.1 K.2.1 dc_Section_squaredSize_23 ?_
  refine lv_lload K.1 K.2.1 dc_Section_squaredSize_24 (lv_at hl 3 rfl) ?_
  refine lv_lload K.1 K.2.1 dc_Section_squaredSize_26 (lv_at hl 3 rfl) ?_
  refine lv_lmul K.1 K.2.1 dc_Section_squaredSize_28 ?_
  refine lv_ladd K.1 K.2.1 dc_Section_squaredSize_29 ?_
  refine lv_lload K.1 K.2.1 dc_Section_squaredSize_30 (lv_at hl 5 rfl) ?_
  refine lv_lmul K.1 K.2.1 dc_Section_squaredSize_32 ?_
  refine lv_lload K.1 K.2.1 dc_Section_squaredSize_33 (lv_at hl 5 rfl) ?_
  refine lv_lmul K.1 K.2.1 dc_Section_squaredSize_35 ?_
  refine lv_ldc2 (v := 2) K.1 K.2.1 K.2.2.2.1 (K.2.2.2.2 _ wd_489) dc_Section_squaredSize_36 ?_
  refine lv_lload_n K.1 K.2.1 dc_Section_squaredSize_39 rfl (lv_at hl 2 rfl) ?_
  refine lv_lmul K.1 K.2.1 dc_Section_squaredSize_40 ?_
  refine lv_lload_n K.1 K.2.1 dc_Section_squaredSize_41 rfl (lv_at hl 1 rfl) ?_
  refine lv_lload K.1 K.2.1 dc_Section_squaredSize_42 (lv_at hl 3 rfl) ?_
  refine lv_ladd K.1 K.2.1 dc_Section_squaredSize_44 ?_
  refine lv_lmul K.1 K.2.1 dc_Section_squaredSize_45 ?_
  refine lv_lload K.1 K.2.1 dc_Section_squaredSize_46 (lv_at hl 4 rfl) ?_
  refine lv_lmul K.1 K.2.1 dc_Section_squaredSize_48 ?_
  refine lv_lload K.1 K.2.1 dc_Section_squaredSize_49 (lv_at hl 5 rfl) ?_
  refine lv_lmul K.1 K.2.1 dc_Section_squaredSize_51 ?_
  refine lv_ladd K.1 K.2.1 dc_Section_squaredSize_52 ?_
  refine lv_ldc2 (v := 2) K.1 K.2.1 K.2.2.2.1 (K.2.2.2.2 _ wd_489) dc_Section_squaredSize_53 ?_
  refine lv_lload_n K.1 K.2.1 dc_Section_squaredSize_56 rfl (lv_at hl 1 rfl) ?_
  refine lv_lmul K.1 K.2.1 dc_Section_squaredSize_57 ?_
  refine lv_lload K.1 K.2.1 dc_Section_squaredSize_58 (lv_at hl 3 rfl) ?_
  refine lv_lmul K.1 K.2.1 dc_Section_squaredSize_60 ?_
  refine lv_lload K.1 K.2.1 dc_Section_squaredSize_61 (lv_at hl 0 rfl) ?_
  refine lv_lmul K.1 K.2.1 dc_Section_squaredSize_63 ?_
  refine lv_ladd K.1 K.2.1 dc_Section_squaredSize_64 ?_
  exact fq_retl K hret hlk hS hP hD ⟨rfl, by rw [e_v1]; rfl⟩ dc_Section_squaredSize_65 (Nat.le_of_ble_eq_true rfl) (Nat.le_of_ble_eq_true rfl)
set_option maxHeartbeats 4000000 in
set_option maxRecDepth 100000 in
theorem ct_Section_scaledRatio (l : Launch) (D : va_G) (cI cO : ClassId) (tE : Nat) (x0 y : Int64) (sz : Nat) : Met l my_Section_scaledRatio (fq_w my_Section_scaledRatio cb_Section_scaledRatio 9 (some .int)) ({ frames := 0, cells := 0, slots := 0, locals := 0 }) (va_Pc ([.long x0, .long y]) (fq_Pre D cI cO tE sz ([]))) (va_Qi (S := va_W) (fun r w => w = [] ∧ r = sr_v x0 y) (fq_Bw D (va_A ([]) sz)) (va_A ([]) sz)) (0) (0) (va_A ([]) sz) := by
  refine fq_open (by decide +kernel) (Nat.le_of_ble_eq_true rfl) ?_
  intro pg ev s mt below meth cd ls K hret hlk hin hK hZ hP hD hA hS hl
  generalize va_A ([]) sz = A at hZ hD hA hS ⊢
  have K : fq_Ctx pg mt cd cb_Section_scaledRatio 9 s _ cn_Section := K
  have hl : lv_has ls 9 [(0, .long x0), (2, .long y)] := hl
  refine lv_lload_n K.1 K.2.1 dc_Section_scaledRatio_0 rfl (lv_at hl 1 rfl) ?_
  refine lv_lconst (v := 0) K.1 K.2.1 dc_Section_scaledRatio_1 (by decide) ?_
  refine W.lcmp K.1 K.2.1 dc_Section_scaledRatio_2 ?_
  refine lv_if_le (tgt := 16) K.1 K.2.1 dc_Section_scaledRatio_3 rfl (fun b3 => ?_) (fun b3 => ?_)
  · skip
    have hc : y ≤ 0 ∨ 524287 < x0 / y := Or.inl (lg_le.mp b3)
    refine lv_ldc (v := 2147483647) K.1 K.2.1 K.2.2.2.1 (K.2.2.2.2 _ wd_495) dc_Section_scaledRatio_16 ?_
    exact fq_reti K hret hlk hS hP hD ⟨rfl, by unfold sr_v; rw [if_pos hc]⟩ dc_Section_scaledRatio_18 (Nat.le_of_ble_eq_true rfl) (Nat.le_of_ble_eq_true rfl)
  · skip
    have hy : ¬ y ≤ 0 := fun z => b3 (lg_le.mpr z)
    have hy0 : y ≠ 0 := fun z => hy (by rw [z]; decide)
    refine lv_lload_n K.1 K.2.1 dc_Section_scaledRatio_6 rfl (lv_at hl 0 rfl) ?_
    refine lv_lload_n K.1 K.2.1 dc_Section_scaledRatio_7 rfl (lv_at hl 1 rfl) ?_
    refine lv_ldiv K.1 K.2.1 dc_Section_scaledRatio_8 hy0 ?_
    refine lv_ldc2 (v := 524287) K.1 K.2.1 K.2.2.2.1 (K.2.2.2.2 _ wd_494) dc_Section_scaledRatio_9 ?_
    refine W.lcmp K.1 K.2.1 dc_Section_scaledRatio_12 ?_
    refine lv_if_le (tgt := 19) K.1 K.2.1 dc_Section_scaledRatio_13 rfl (fun b13 => ?_) (fun b13 => ?_)
    · skip
      have hc : ¬ (y ≤ 0 ∨ 524287 < x0 / y) := fun z => z.elim hy (fun z2 => absurd (lg_le.mp b13) (Int64.not_le.mpr z2))
      refine lv_lload_n K.1 K.2.1 dc_Section_scaledRatio_19 rfl (lv_at hl 0 rfl) ?_
      refine lv_lload_n K.1 K.2.1 dc_Section_scaledRatio_20 rfl (lv_at hl 1 rfl) ?_
      refine lv_ldiv K.1 K.2.1 dc_Section_scaledRatio_21 hy0 ?_
      refine lv_topl (fun v1 e_v1 => ?_)
      refine lv_lstore K.1 K.2.1 dc_Section_scaledRatio_22 hl (by decide) rfl (fun ls hl => ?_)
      have hl : lv_has ls 9 [(4, .long v1), (0, .long x0), (2, .long y)] := hl
      refine lv_lload_n K.1 K.2.1 dc_Section_scaledRatio_24 rfl (lv_at hl 1 rfl) ?_
      refine lv_lload_n K.1 K.2.1 dc_Section_scaledRatio_25 rfl (lv_at hl 2 rfl) ?_
      refine lv_lrem K.1 K.2.1 dc_Section_scaledRatio_26 hy0 ?_
      refine lv_topl (fun v2 e_v2 => ?_)
      refine lv_lstore K.1 K.2.1 dc_Section_scaledRatio_27 hl (by decide) rfl (fun ls hl => ?_)
      have hl : lv_has ls 9 [(6, .long v2), (4, .long v1), (0, .long x0), (2, .long y)] := hl
      refine lv_iconst (v := 0) K.1 K.2.1 dc_Section_scaledRatio_29 (by decide) ?_
      refine lv_istore K.1 K.2.1 dc_Section_scaledRatio_30 hl (by decide) rfl (fun ls hl => ?_)
      have hl : lv_has ls 9 [(8, .int 0), (6, .long v2), (4, .long v1), (0, .long x0), (2, .long y)] := hl
      refine fq_lp (σ := Nat × Int64 × Int64) (fun x => 12 - x.1) (fun x H locs ls => (x.1 ≤ 12 ∧ (x.2.1, x.2.2) = sr_it y (x0 / y, x0 - x0 / y * y) x.1) ∧ lv_has ls 9 [(0, .long x0), (2, .long y), (4, .long x.2.1), (6, .long x.2.2), (8, .int (nI x.1))] ∧ va_P D fq_cl ([]) H ∧ va_D A ([]) ∧ va_S A s.heap H locs) ?_ (0, v1, v2) _ _ _ ⟨⟨Nat.zero_le _, by rw [e_v1, e_v2]; rfl⟩, lv_sub hl [3, 4, 2, 1, 0] rfl, hP, hD, hS⟩
      rintro ⟨n, ra, re⟩ H locs ls ⟨hI32, hl, hP, hD, hS⟩ ih32
      have hI32 : n ≤ 12 ∧ (ra, re) = sr_it y (x0 / y, x0 - x0 / y * y) n := hI32
      have hl : lv_has ls 9 [(0, .long x0), (2, .long y), (4, .long ra), (6, .long re), (8, .int (nI n))] := hl
      have hP : va_P D fq_cl ([]) _ := hP
      have hD : va_D A ([]) := hD
      refine lv_iload K.1 K.2.1 dc_Section_scaledRatio_32 (lv_at hl 4 rfl) ?_
      refine lv_bipush (v := 12) K.1 K.2.1 dc_Section_scaledRatio_34 (by decide) ?_
      refine lv_icmp_ge (tgt := 80) K.1 K.2.1 dc_Section_scaledRatio_36 rfl (fun b36 => ?_) (fun b36 => ?_)
      · skip
        have hn : n = 12 := sr_c hI32.1 b36
        refine lv_lload K.1 K.2.1 dc_Section_scaledRatio_80 (lv_at hl 2 rfl) ?_
        refine lv_l2i K.1 K.2.1 dc_Section_scaledRatio_82 rfl ?_
        exact fq_reti K hret hlk hS hP hD ⟨rfl, by unfold sr_v; rw [if_neg hc, ← hn, ← hI32.2]⟩ dc_Section_scaledRatio_83 (Nat.le_of_ble_eq_true rfl) (Nat.le_of_ble_eq_true rfl)
      · skip
        have hn : n < 12 := sr_d hI32.1 b36
        refine lv_ldc2 (v := 2) K.1 K.2.1 K.2.2.2.1 (K.2.2.2.2 _ wd_489) dc_Section_scaledRatio_39 ?_
        refine lv_lload K.1 K.2.1 dc_Section_scaledRatio_42 (lv_at hl 2 rfl) ?_
        refine lv_lmul K.1 K.2.1 dc_Section_scaledRatio_44 ?_
        refine lv_topl (fun v3 e_v3 => ?_)
        refine lv_lstore K.1 K.2.1 dc_Section_scaledRatio_45 hl (by decide) rfl (fun ls hl => ?_)
        have hl : lv_has ls 9 [(4, .long v3), (0, .long x0), (2, .long y), (6, .long re), (8, .int (nI n))] := hl
        refine lv_ldc2 (v := 2) K.1 K.2.1 K.2.2.2.1 (K.2.2.2.2 _ wd_489) dc_Section_scaledRatio_47 ?_
        refine lv_lload K.1 K.2.1 dc_Section_scaledRatio_50 (lv_at hl 3 rfl) ?_
        refine lv_lmul K.1 K.2.1 dc_Section_scaledRatio_52 ?_
        refine lv_topl (fun v4 e_v4 => ?_)
        refine lv_lstore K.1 K.2.1 dc_Section_scaledRatio_53 hl (by decide) rfl (fun ls hl => ?_)
        have hl : lv_has ls 9 [(6, .long v4), (4, .long v3), (0, .long x0), (2, .long y), (8, .int (nI n))] := hl
        refine lv_lload K.1 K.2.1 dc_Section_scaledRatio_55 (lv_at hl 0 rfl) ?_
        refine lv_lload_n K.1 K.2.1 dc_Section_scaledRatio_57 rfl (lv_at hl 3 rfl) ?_
        refine W.lcmp K.1 K.2.1 dc_Section_scaledRatio_58 ?_
        refine lv_if_lt (tgt := 74) K.1 K.2.1 dc_Section_scaledRatio_59 rfl (fun b59 => ?_) (fun b59 => ?_)
        · skip
          refine lv_iinc (v := nI (n + 1)) K.1 K.2.1 dc_Section_scaledRatio_74 hl (k := 4) rfl (nI_1 n) (by decide) rfl (fun ls hl => ?_)
          have hl : lv_has ls 9 [(8, .int (nI (n + 1))), (6, .long v4), (4, .long v3), (0, .long x0), (2, .long y)] := hl
          refine lv_goto (tgt := 32) K.1 K.2.1 dc_Section_scaledRatio_77 rfl ?_
          exact ih32 (n + 1, v3, v4) _ _ _ (by show 12 - (n + 1) < 12 - n; omega) ⟨sr_b hI32 hn e_v3 e_v4  b59, lv_sub hl [3, 4, 2, 1, 0] rfl, hP, hD, hS⟩
        · skip
          refine lv_lload K.1 K.2.1 dc_Section_scaledRatio_62 (lv_at hl 1 rfl) ?_
          refine lv_lconst (v := 1) K.1 K.2.1 dc_Section_scaledRatio_64 (by decide) ?_
          refine lv_ladd K.1 K.2.1 dc_Section_scaledRatio_65 ?_
          refine lv_topl (fun v5 e_v5 => ?_)
          refine lv_lstore K.1 K.2.1 dc_Section_scaledRatio_66 hl (by decide) rfl (fun ls hl => ?_)
          have hl : lv_has ls 9 [(4, .long v5), (6, .long v4), (0, .long x0), (2, .long y), (8, .int (nI n))] := hl
          refine lv_lload K.1 K.2.1 dc_Section_scaledRatio_68 (lv_at hl 1 rfl) ?_
          refine lv_lload_n K.1 K.2.1 dc_Section_scaledRatio_70 rfl (lv_at hl 3 rfl) ?_
          refine lv_lsub K.1 K.2.1 dc_Section_scaledRatio_71 ?_
          refine lv_topl (fun v6 e_v6 => ?_)
          refine lv_lstore K.1 K.2.1 dc_Section_scaledRatio_72 hl (by decide) rfl (fun ls hl => ?_)
          have hl : lv_has ls 9 [(6, .long v6), (4, .long v5), (0, .long x0), (2, .long y), (8, .int (nI n))] := hl
          refine lv_iinc (v := nI (n + 1)) K.1 K.2.1 dc_Section_scaledRatio_74 hl (k := 4) rfl (nI_1 n) (by decide) rfl (fun ls hl => ?_)
          have hl : lv_has ls 9 [(8, .int (nI (n + 1))), (6, .long v6), (4, .long v5), (0, .long x0), (2, .long y)] := hl
          refine lv_goto (tgt := 32) K.1 K.2.1 dc_Section_scaledRatio_77 rfl ?_
          exact ih32 (n + 1, v5, v6) _ _ _ (by show 12 - (n + 1) < 12 - n; omega) ⟨sr_a hI32 hn e_v3 e_v4 e_v5 e_v6 b59, lv_sub hl [3, 4, 2, 1, 0] rfl, hP, hD, hS⟩
    · skip
      have hc : y ≤ 0 ∨ 524287 < x0 / y := Or.inr (Int64.not_le.mp (fun z => b13 (lg_le.mpr z)))
      refine lv_ldc (v := 2147483647) K.1 K.2.1 K.2.2.2.1 (K.2.2.2.2 _ wd_495) dc_Section_scaledRatio_16 ?_
      exact fq_reti K hret hlk hS hP hD ⟨rfl, by unfold sr_v; rw [if_pos hc]⟩ dc_Section_scaledRatio_18 (Nat.le_of_ble_eq_true rfl) (Nat.le_of_ble_eq_true rfl)
set_option maxHeartbeats 4000000 in
set_option maxRecDepth 100000 in
theorem ct_Section_responseAt (l : Launch) (D : va_G) (cI cO : ClassId) (tE : Nat) (h : Nat) (b0 b1 b2 a1 a2 x0 x1 x2 y1 y2 : Int32) (x : Int32) (sz : Nat) : Met l my_Section_responseAt (fq_w my_Section_responseAt cb_Section_responseAt 8 (some .int)) ({ frames := 1, cells := 0, slots := 0, locals := 31 }) (va_Pc ([.ref h, .int x]) (fq_Pre D cI cO tE sz ([(h, .inr (2, [.int b0, .int b1, .int b2, .int a1, .int a2, .int x0, .int x1, .int x2, .int y1, .int y2]))]))) (va_Qi (S := va_W) (fun r w' => w' = [(h, .inr (2, [.int b0, .int b1, .int b2, .int a1, .int a2, .int x0, .int x1, .int x2, .int y1, .int y2]))] ∧ r = rp_v b0 b1 b2 a1 a2 x) (fq_Bw D (va_A ([(h, .inr (2, [.int b0, .int b1, .int b2, .int a1, .int a2, .int x0, .int x1, .int x2, .int y1, .int y2]))]) sz)) (va_A ([(h, .inr (2, [.int b0, .int b1, .int b2, .int a1, .int a2, .int x0, .int x1, .int x2, .int y1, .int y2]))]) sz)) (0) (0) (va_A ([(h, .inr (2, [.int b0, .int b1, .int b2, .int a1, .int a2, .int x0, .int x1, .int x2, .int y1, .int y2]))]) sz) := by
  refine fq_open (by decide +kernel) (Nat.le_of_ble_eq_true rfl) ?_
  intro pg ev s mt below meth cd ls K hret hlk hin hK hZ hP hD hA hS hl
  generalize va_A ([(h, .inr (2, [.int b0, .int b1, .int b2, .int a1, .int a2, .int x0, .int x1, .int x2, .int y1, .int y2]))]) sz = A at hZ hD hA hS ⊢
  have K : fq_Ctx pg mt cd cb_Section_responseAt 8 s _ cn_Section := K
  have hl : lv_has ls 8 [(0, .ref h), (1, .int x)] := hl
  refine lv_iload_n K.1 K.2.1 dc_Section_responseAt_0 rfl (lv_at hl 1 rfl) ?_
  refine lv_i2l K.1 K.2.1 dc_Section_responseAt_1 rfl ?_
  refine lv_iload_n K.1 K.2.1 dc_Section_responseAt_2 rfl (lv_at hl 1 rfl) ?_
  refine lv_i2l K.1 K.2.1 dc_Section_responseAt_3 rfl ?_
  refine lv_lmul K.1 K.2.1 dc_Section_responseAt_4 ?_
  refine lv_topl (fun v1 e_v1 => ?_)
  refine lv_lstore_n K.1 K.2.1 dc_Section_responseAt_5 rfl hl (by decide) rfl (fun ls hl => ?_)
  have hl : lv_has ls 8 [(2, .long v1), (0, .ref h), (1, .int x)] := hl
  refine lv_aload_n K.1 K.2.1 dc_Section_responseAt_6 rfl (lv_at hl 1 rfl) ?_
  refine fq_get K hK cl_Section hP 0 0 rfl (by decide) wd_241 rfl dc_Section_responseAt_7 ?_
  refine lv_i2l K.1 K.2.1 dc_Section_responseAt_10 rfl ?_
  refine lv_aload_n K.1 K.2.1 dc_Section_responseAt_11 rfl (lv_at hl 1 rfl) ?_
  refine fq_get K hK cl_Section hP 0 1 rfl (by decide) wd_242 rfl dc_Section_responseAt_12 ?_
  refine lv_i2l K.1 K.2.1 dc_Section_responseAt_15 rfl ?_
  refine lv_aload_n K.1 K.2.1 dc_Section_responseAt_16 rfl (lv_at hl 1 rfl) ?_
  refine fq_get K hK cl_Section hP 0 2 rfl (by decide) wd_243 rfl dc_Section_responseAt_17 ?_
  refine lv_i2l K.1 K.2.1 dc_Section_responseAt_20 rfl ?_
  refine lv_ldc2 (v := 256) K.1 K.2.1 K.2.2.2.1 (K.2.2.2.2 _ wd_485) dc_Section_responseAt_21 ?_
  refine lv_lload_n K.1 K.2.1 dc_Section_responseAt_24 rfl (lv_at hl 0 rfl) ?_
  refine lv_lsub K.1 K.2.1 dc_Section_responseAt_25 ?_
  refine lv_ldc2 (v := 256) K.1 K.2.1 K.2.2.2.1 (K.2.2.2.2 _ wd_485) dc_Section_responseAt_26 ?_
  refine lv_lload_n K.1 K.2.1 dc_Section_responseAt_29 rfl (lv_at hl 0 rfl) ?_
  refine lv_ladd K.1 K.2.1 dc_Section_responseAt_30 ?_
  have hc := fq_cut.of (wc := []) hP hD hS hA [] (by decide) rfl
  refine fq_cl_ (wr := [(h, .inr (2, [.int b0, .int b1, .int b2, .int a1, .int a2, .int x0, .int x1, .int x2, .int y1, .int y2]))]) (fq_rS K hK hZ hS hc (ct_Section_squaredSize l D cI cO tE b0.toInt64 b1.toInt64 b2.toInt64 (256 - v1) (256 + v1) _) yk_Section_squaredSize wd_487 wd_486 ⟨⟨rfl, rfl⟩, ⟨Nat.le_of_ble_eq_true rfl, Nat.le_of_ble_eq_true rfl⟩, ⟨Nat.le_of_ble_eq_true rfl, Nat.le_of_ble_eq_true rfl⟩⟩ hl.1 rfl (Nat.le_of_ble_eq_true rfl) dc_Section_responseAt_31) hP hD hS hc [] [0] rfl rfl (by decide) (by decide) (fun r1 w H locs hw1 hP hD hS => ?_)
  obtain ⟨rfl, rfl⟩ := hw1
  have hP : va_P D fq_cl ([(h, .inr (2, [.int b0, .int b1, .int b2, .int a1, .int a2, .int x0, .int x1, .int x2, .int y1, .int y2]))]) _ := hP
  have hD : va_D A ([(h, .inr (2, [.int b0, .int b1, .int b2, .int a1, .int a2, .int x0, .int x1, .int x2, .int y1, .int y2]))]) := hD
  refine lv_topl (fun v2 e_v2 => ?_)
  refine lv_lstore K.1 K.2.1 dc_Section_responseAt_34 hl (by decide) rfl (fun ls hl => ?_)
  have hl : lv_has ls 8 [(4, .long v2), (2, .long v1), (0, .ref h), (1, .int x)] := hl
  refine lv_ldc2 (v := 16384) K.1 K.2.1 K.2.2.2.1 (K.2.2.2.2 _ wd_490) dc_Section_responseAt_36 ?_
  refine lv_aload_n K.1 K.2.1 dc_Section_responseAt_39 rfl (lv_at hl 2 rfl) ?_
  refine fq_get K hK cl_Section hP 0 3 rfl (by decide) wd_244 rfl dc_Section_responseAt_40 ?_
  refine lv_i2l K.1 K.2.1 dc_Section_responseAt_43 rfl ?_
  refine lv_aload_n K.1 K.2.1 dc_Section_responseAt_44 rfl (lv_at hl 2 rfl) ?_
  refine fq_get K hK cl_Section hP 0 4 rfl (by decide) wd_245 rfl dc_Section_responseAt_45 ?_
  refine lv_i2l K.1 K.2.1 dc_Section_responseAt_48 rfl ?_
  refine lv_ldc2 (v := 256) K.1 K.2.1 K.2.2.2.1 (K.2.2.2.2 _ wd_485) dc_Section_responseAt_49 ?_
  refine lv_lload_n K.1 K.2.1 dc_Section_responseAt_52 rfl (lv_at hl 1 rfl) ?_
  refine lv_lsub K.1 K.2.1 dc_Section_responseAt_53 ?_
  refine lv_ldc2 (v := 256) K.1 K.2.1 K.2.2.2.1 (K.2.2.2.2 _ wd_485) dc_Section_responseAt_54 ?_
  refine lv_lload_n K.1 K.2.1 dc_Section_responseAt_57 rfl (lv_at hl 1 rfl) ?_
  refine lv_ladd K.1 K.2.1 dc_Section_responseAt_58 ?_
  have hc := fq_cut.of (wc := []) hP hD hS hA [] (by decide) rfl
  refine fq_cl_ (wr := [(h, .inr (2, [.int b0, .int b1, .int b2, .int a1, .int a2, .int x0, .int x1, .int x2, .int y1, .int y2]))]) (fq_rS K hK hZ hS hc (ct_Section_squaredSize l D cI cO tE 16384 a1.toInt64 a2.toInt64 (256 - v1) (256 + v1) _) yk_Section_squaredSize wd_487 wd_486 ⟨⟨rfl, rfl⟩, ⟨Nat.le_of_ble_eq_true rfl, Nat.le_of_ble_eq_true rfl⟩, ⟨Nat.le_of_ble_eq_true rfl, Nat.le_of_ble_eq_true rfl⟩⟩ hl.1 rfl (Nat.le_of_ble_eq_true rfl) dc_Section_responseAt_59) hP hD hS hc [] [0] rfl rfl (by decide) (by decide) (fun r2 w H locs hw2 hP hD hS => ?_)
  obtain ⟨rfl, rfl⟩ := hw2
  have hP : va_P D fq_cl ([(h, .inr (2, [.int b0, .int b1, .int b2, .int a1, .int a2, .int x0, .int x1, .int x2, .int y1, .int y2]))]) _ := hP
  have hD : va_D A ([(h, .inr (2, [.int b0, .int b1, .int b2, .int a1, .int a2, .int x0, .int x1, .int x2, .int y1, .int y2]))]) := hD
  refine lv_topl (fun v3 e_v3 => ?_)
  refine lv_lstore K.1 K.2.1 dc_Section_responseAt_62 hl (by decide) rfl (fun ls hl => ?_)
  have hl : lv_has ls 8 [(6, .long v3), (4, .long v2), (2, .long v1), (0, .ref h), (1, .int x)] := hl
  refine lv_lload K.1 K.2.1 dc_Section_responseAt_64 (lv_at hl 1 rfl) ?_
  refine lv_lload K.1 K.2.1 dc_Section_responseAt_66 (lv_at hl 0 rfl) ?_
  have hc := fq_cut.of (wc := []) hP hD hS hA [] (by decide) rfl
  refine fq_ci (wr := [(h, .inr (2, [.int b0, .int b1, .int b2, .int a1, .int a2, .int x0, .int x1, .int x2, .int y1, .int y2]))]) (fq_rS K hK hZ hS hc (ct_Section_scaledRatio l D cI cO tE v2 v3 _) yk_Section_scaledRatio wd_492 wd_491 ⟨⟨rfl, rfl⟩, ⟨Nat.le_of_ble_eq_true rfl, Nat.le_of_ble_eq_true rfl⟩, ⟨Nat.le_of_ble_eq_true rfl, Nat.le_of_ble_eq_true rfl⟩⟩ hl.1 rfl (Nat.le_of_ble_eq_true rfl) dc_Section_responseAt_68) hP hD hS hc [] [0] rfl rfl (by decide) (by decide) (fun r3 w H locs hw3 hP hD hS => ?_)
  obtain ⟨rfl, rfl⟩ := hw3
  have hP : va_P D fq_cl ([(h, .inr (2, [.int b0, .int b1, .int b2, .int a1, .int a2, .int x0, .int x1, .int x2, .int y1, .int y2]))]) _ := hP
  have hD : va_D A ([(h, .inr (2, [.int b0, .int b1, .int b2, .int a1, .int a2, .int x0, .int x1, .int x2, .int y1, .int y2]))]) := hD
  exact fq_reti K hret hlk hS hP hD ⟨rfl, by rw [e_v2, e_v3, e_v1]; rfl⟩ dc_Section_responseAt_71 (Nat.le_of_ble_eq_true rfl) (Nat.le_of_ble_eq_true rfl)
