theorem wd_767 : Cond.instanceMethod my_Mo_init ∈ fq_TB := fq_in 767 (by decide +kernel) rfl
theorem wd_768 : Cond.code my_Mo_init cb_Mo_init 2 none ∈ fq_TB := fq_in 768 (by decide +kernel) rfl
theorem wd_769 : Cond.methodLink cn_Mo 1 my_Oj_init ∈ fq_TB := fq_in 769 (by decide +kernel) rfl
theorem wd_841 : Cond.instanceMethod my_Mo_section ∈ fq_TB := fq_in 841 (by decide +kernel) rfl
theorem wd_842 : Cond.selects cn_Mo my_Mo_section my_Mo_section ∈ fq_TB := fq_in 842 (by decide +kernel) rfl
theorem wd_843 : Cond.code my_Mo_section cb_Mo_section 6 (some .boolean) ∈ fq_TB := fq_in 843 (by decide +kernel) rfl
theorem wd_848 : Cond.methodLink cn_Mo 61 my_Mo_small ∈ fq_TB := fq_in 848 (by decide +kernel) rfl
theorem wd_856 : Cond.instanceMethod my_Mo_halfPower ∈ fq_TB := fq_in 856 (by decide +kernel) rfl
theorem wd_857 : Cond.selects cn_Mo my_Mo_halfPower my_Mo_halfPower ∈ fq_TB := fq_in 857 (by decide +kernel) rfl
theorem wd_858 : Cond.code my_Mo_halfPower cb_Mo_halfPower 10 (some .boolean) ∈ fq_TB := fq_in 858 (by decide +kernel) rfl
theorem wd_859 : Cond.constantLong cn_Mo 69 65536 ∈ fq_TB := fq_in 859 (by decide +kernel) rfl
theorem wd_861 : Cond.constantLong cn_Mo 73 1482912 ∈ fq_TB := fq_in 861 (by decide +kernel) rfl
theorem wd_862 : Cond.constantLong cn_Mo 75 274877906944 ∈ fq_TB := fq_in 862 (by decide +kernel) rfl
theorem wd_863 : Cond.methodLink cn_Mo 77 my_Mo_near ∈ fq_TB := fq_in 863 (by decide +kernel) rfl
theorem wd_870 : Cond.constantLong cn_Mo 81 1073741824 ∈ fq_TB := fq_in 870 (by decide +kernel) rfl
theorem wd_871 : Cond.constantLong cn_Mo 83 2147483648 ∈ fq_TB := fq_in 871 (by decide +kernel) rfl
theorem wd_882 : Cond.instanceMethod my_Mo_resample ∈ fq_TB := fq_in 882 (by decide +kernel) rfl
theorem wd_883 : Cond.selects cn_Mo my_Mo_resample my_Mo_resample ∈ fq_TB := fq_in 883 (by decide +kernel) rfl
theorem wd_884 : Cond.code my_Mo_resample cb_Mo_resample 5 (some .boolean) ∈ fq_TB := fq_in 884 (by decide +kernel) rfl
theorem wd_885 : Cond.methodLink cn_Mo 87 my_Mo_divisor ∈ fq_TB := fq_in 885 (by decide +kernel) rfl
theorem wd_886 : Cond.static my_Mo_divisor ∈ fq_TB := fq_in 886 (by decide +kernel) rfl
theorem wd_887 : Cond.code my_Mo_divisor cb_Mo_divisor 4 (some .int) ∈ fq_TB := fq_in 887 (by decide +kernel) rfl
def dv_b (a b : Nat) : Nat → Nat
  | 0 => 1
  | k + 1 => if a % (k + 1) = 0 ∧ b % (k + 1) = 0 then k + 1 else dv_b a b k
theorem dv_4 (a b : Nat) : dv_b a b 4 = rs_g a b := by
  unfold rs_g
  show (if a % 4 = 0 ∧ b % 4 = 0 then 4 else if a % 3 = 0 ∧ b % 3 = 0 then 3 else if a % 2 = 0 ∧ b % 2 = 0 then 2 else if a % 1 = 0 ∧ b % 1 = 0 then 1 else 1) = _
  rw [if_pos (show a % 1 = 0 ∧ b % 1 = 0 from ⟨Nat.mod_one a, Nat.mod_one b⟩)]
theorem dv_y {a b j : Nat} (h1 : nI (a % (j + 1)) = 0) (h2 : nI (b % (j + 1)) = 0) (hj : j ≤ 4) : j + 1 = dv_b a b (j + 1) := by
  have e1 : a % (j + 1) = 0 := (nI_eq (by have := Nat.mod_lt a (show 0 < j + 1 by omega); omega) (by decide)).mp h1
  have e2 : b % (j + 1) = 0 := (nI_eq (by have := Nat.mod_lt b (show 0 < j + 1 by omega); omega) (by decide)).mp h2
  show _ = if a % (j + 1) = 0 ∧ b % (j + 1) = 0 then j + 1 else dv_b a b j
  rw [if_pos ⟨e1, e2⟩]
theorem dv_n {a b j q : Nat} (hq : q = dv_b a b j) (h : ¬ nI (a % (j + 1)) = 0 ∨ ¬ nI (b % (j + 1)) = 0) : q = dv_b a b (j + 1) := by
  show _ = if a % (j + 1) = 0 ∧ b % (j + 1) = 0 then j + 1 else dv_b a b j
  rw [if_neg (fun z => h.elim (fun k => k (by rw [z.1]; rfl)) (fun k => k (by rw [z.2]; rfl)))]
  exact hq
/-- how many resamplers there are -/
def ot_n (f : Nat → Int32) : Nat → Nat
  | 0 => 0
  | k + 1 => ot_n f k + (if f k = 3 then 1 else 0)
theorem ot_y {f : Nat → Int32} {k q : Nat} (hq : q = ot_n f k) (h : f k = 3) : q + 1 = ot_n f (k + 1) := by
  show _ = ot_n f k + (if f k = 3 then 1 else 0)
  rw [if_pos h, hq]
theorem ot_x {f : Nat → Int32} {k q : Nat} (hq : q = ot_n f k) (h : ¬ f k = 3) : q = ot_n f (k + 1) := by
  show _ = ot_n f k + (if f k = 3 then 1 else 0)
  rw [if_neg h, hq]; rfl
theorem ot_le (f : Nat → Int32) : ∀ k, ot_n f k ≤ k
  | 0 => Nat.le_refl 0
  | k + 1 => by
    have := ot_le f k
    show ot_n f k + (if f k = 3 then 1 else 0) ≤ k + 1
    split <;> omega
theorem ot_s {fK fN : Nat → Int32} {P : List fm_S} (h : mo_K fK fN P) (hok : ∀ sp ∈ P, fm_ok sp) : ∀ k, k ≤ P.length → ot_n fK k = pl_s (P.take k)
  | 0, _ => rfl
  | k + 1, hk => by
    have ih := ot_s h hok k (by omega)
    obtain ⟨sp, hsp⟩ : ∃ sp, P[k]? = some sp := ⟨_, List.getElem?_eq_getElem (show k < P.length by omega)⟩
    have h1 := (h k sp hsp).1
    have h3 := (hok sp (List.mem_of_getElem? hsp)).1
    show ot_n fK k + (if fK k = 3 then 1 else 0) = _
    rw [pl_tk hsp, ih]
    unfold pl_s
    rw [List.countP_append, List.countP_singleton]
    congr 1
    by_cases e : sp.1 = 3
    · rw [if_pos (by rw [h1, e]; rfl), if_pos (by rw [e]; rfl)]
    · rw [if_neg (fun z : fK k = 3 => e ((nI_eq (b := 3) (by omega) (by decide)).mp (h1.symm.trans z))), if_neg (by simpa using e)]
theorem sa_p {a : Int32} (h : fs_c a.toInt) : (16384 + a).toInt = 16384 + a.toInt ∧ (-(16384 + a)).toInt = -(16384 + a.toInt) := by
  have e : (16384 : Int32).toInt = 16384 := by decide
  have h1 : (16384 + a).toInt = 16384 + a.toInt := by
    unfold fs_c at h
    rw [Kit.i32_add (by rw [e]; omega) (by rw [e]; omega), e]
  refine ⟨h1, ?_⟩
  unfold fs_c at h
  rw [Kit.i32_neg (by rw [h1]; omega), h1]
theorem in_m1 {x : Int32} (h : ¬ (1 : Int32) ≤ x) : (1 : Int32) = nI (in_r x) := by
  rw [Int32.le_iff_toInt_le, show (1 : Int32).toInt = 1 by decide] at h
  unfold in_r; rw [if_pos (by omega)]; rfl
theorem in_m2 {x : Int32} (h1 : (1 : Int32) ≤ x) (h : ¬ x ≤ (12 : Int32)) : (12 : Int32) = nI (in_r x) := by
  rw [Int32.le_iff_toInt_le, show (1 : Int32).toInt = 1 by decide] at h1
  rw [Int32.le_iff_toInt_le, show (12 : Int32).toInt = 12 by decide] at h
  unfold in_r; rw [if_neg (by omega), if_pos (by omega)]; rfl
theorem in_m3 {x : Int32} (h1 : (1 : Int32) ≤ x) (h : x ≤ (12 : Int32)) : x = nI (in_r x) := by
  rw [Int32.le_iff_toInt_le, show (1 : Int32).toInt = 1 by decide] at h1
  rw [Int32.le_iff_toInt_le, show (12 : Int32).toInt = 12 by decide] at h
  unfold in_r; rw [if_neg (by omega), if_neg (by omega)]; exact fz_n (by omega)


theorem dc_Mo_init_0 : decode cb_Mo_init 0 = .ok (.aload_n 0, 1) := by decide +kernel
theorem dc_Mo_init_1 : decode cb_Mo_init 1 = .ok (.invokespecial 1, 3) := by decide +kernel
theorem dc_Mo_init_4 : decode cb_Mo_init 4 = .ok (.aload_n 0, 1) := by decide +kernel
theorem dc_Mo_init_5 : decode cb_Mo_init 5 = .ok (.iconst 5, 1) := by decide +kernel
theorem dc_Mo_init_6 : decode cb_Mo_init 6 = .ok (.newarray .int, 2) := by decide +kernel
theorem dc_Mo_init_8 : decode cb_Mo_init 8 = .ok (.putfield 7, 3) := by decide +kernel
theorem dc_Mo_init_11 : decode cb_Mo_init 11 = .ok (.aload_n 0, 1) := by decide +kernel
theorem dc_Mo_init_12 : decode cb_Mo_init 12 = .ok (.bipush 25, 2) := by decide +kernel
theorem dc_Mo_init_14 : decode cb_Mo_init 14 = .ok (.newarray .int, 2) := by decide +kernel
theorem dc_Mo_init_16 : decode cb_Mo_init 16 = .ok (.putfield 13, 3) := by decide +kernel
theorem dc_Mo_init_19 : decode cb_Mo_init 19 = .ok (.aload_n 0, 1) := by decide +kernel
theorem dc_Mo_init_20 : decode cb_Mo_init 20 = .ok (.iconst 2, 1) := by decide +kernel
theorem dc_Mo_init_21 : decode cb_Mo_init 21 = .ok (.putfield 16, 3) := by decide +kernel
theorem dc_Mo_init_24 : decode cb_Mo_init 24 = .ok (.aload_n 0, 1) := by decide +kernel
theorem dc_Mo_init_25 : decode cb_Mo_init 25 = .ok (.iconst 2, 1) := by decide +kernel
theorem dc_Mo_init_26 : decode cb_Mo_init 26 = .ok (.putfield 20, 3) := by decide +kernel
theorem dc_Mo_init_29 : decode cb_Mo_init 29 = .ok (.aload_n 0, 1) := by decide +kernel
theorem dc_Mo_init_30 : decode cb_Mo_init 30 = .ok (.bipush 120, 2) := by decide +kernel
theorem dc_Mo_init_32 : decode cb_Mo_init 32 = .ok (.newarray .int, 2) := by decide +kernel
theorem dc_Mo_init_34 : decode cb_Mo_init 34 = .ok (.putfield 23, 3) := by decide +kernel
theorem dc_Mo_init_37 : decode cb_Mo_init 37 = .ok (.aload_n 0, 1) := by decide +kernel
theorem dc_Mo_init_38 : decode cb_Mo_init 38 = .ok (.bipush 120, 2) := by decide +kernel
theorem dc_Mo_init_40 : decode cb_Mo_init 40 = .ok (.newarray .int, 2) := by decide +kernel
theorem dc_Mo_init_42 : decode cb_Mo_init 42 = .ok (.putfield 26, 3) := by decide +kernel
theorem dc_Mo_init_45 : decode cb_Mo_init 45 = .ok (.aload_n 0, 1) := by decide +kernel
theorem dc_Mo_init_46 : decode cb_Mo_init 46 = .ok (.sipush 2300, 3) := by decide +kernel
theorem dc_Mo_init_49 : decode cb_Mo_init 49 = .ok (.newarray .int, 2) := by decide +kernel
theorem dc_Mo_init_51 : decode cb_Mo_init 51 = .ok (.putfield 29, 3) := by decide +kernel
theorem dc_Mo_init_54 : decode cb_Mo_init 54 = .ok (.aload_n 0, 1) := by decide +kernel
theorem dc_Mo_init_55 : decode cb_Mo_init 55 = .ok (.sipush 2300, 3) := by decide +kernel
theorem dc_Mo_init_58 : decode cb_Mo_init 58 = .ok (.newarray .int, 2) := by decide +kernel
theorem dc_Mo_init_60 : decode cb_Mo_init 60 = .ok (.putfield 32, 3) := by decide +kernel
theorem dc_Mo_init_63 : decode cb_Mo_init 63 = .ok (.aload_n 0, 1) := by decide +kernel
theorem dc_Mo_init_64 : decode cb_Mo_init 64 = .ok (.iload_n 1, 1) := by decide +kernel
theorem dc_Mo_init_65 : decode cb_Mo_init 65 = .ok (.iconst 1, 1) := by decide +kernel
theorem dc_Mo_init_66 : decode cb_Mo_init 66 = .ok (.if_icmp .ge 7, 3) := by decide +kernel
theorem dc_Mo_init_69 : decode cb_Mo_init 69 = .ok (.iconst 1, 1) := by decide +kernel
theorem dc_Mo_init_70 : decode cb_Mo_init 70 = .ok (.goto 15, 3) := by decide +kernel
theorem dc_Mo_init_73 : decode cb_Mo_init 73 = .ok (.iload_n 1, 1) := by decide +kernel
theorem dc_Mo_init_74 : decode cb_Mo_init 74 = .ok (.bipush 12, 2) := by decide +kernel
theorem dc_Mo_init_76 : decode cb_Mo_init 76 = .ok (.if_icmp .le 8, 3) := by decide +kernel
theorem dc_Mo_init_79 : decode cb_Mo_init 79 = .ok (.bipush 12, 2) := by decide +kernel
theorem dc_Mo_init_81 : decode cb_Mo_init 81 = .ok (.goto 4, 3) := by decide +kernel
theorem dc_Mo_init_84 : decode cb_Mo_init 84 = .ok (.iload_n 1, 1) := by decide +kernel
theorem dc_Mo_init_85 : decode cb_Mo_init 85 = .ok (.putfield 35, 3) := by decide +kernel
theorem dc_Mo_init_88 : decode cb_Mo_init 88 = .ok (.return_, 1) := by decide +kernel
theorem yk_Mo_init : fq_Y my_Mo_init cb_Mo_init 2 none 1 := ⟨wd_768, wd_36, by decide +kernel⟩
theorem dc_Mo_divisor_0 : decode cb_Mo_divisor 0 = .ok (.iconst 1, 1) := by decide +kernel
theorem dc_Mo_divisor_1 : decode cb_Mo_divisor 1 = .ok (.istore_n 2, 1) := by decide +kernel
theorem dc_Mo_divisor_2 : decode cb_Mo_divisor 2 = .ok (.iconst 1, 1) := by decide +kernel
theorem dc_Mo_divisor_3 : decode cb_Mo_divisor 3 = .ok (.istore_n 3, 1) := by decide +kernel
theorem dc_Mo_divisor_4 : decode cb_Mo_divisor 4 = .ok (.iload_n 3, 1) := by decide +kernel
theorem dc_Mo_divisor_5 : decode cb_Mo_divisor 5 = .ok (.iconst 4, 1) := by decide +kernel
theorem dc_Mo_divisor_6 : decode cb_Mo_divisor 6 = .ok (.if_icmp .gt 23, 3) := by decide +kernel
theorem dc_Mo_divisor_9 : decode cb_Mo_divisor 9 = .ok (.iload_n 0, 1) := by decide +kernel
theorem dc_Mo_divisor_10 : decode cb_Mo_divisor 10 = .ok (.iload_n 3, 1) := by decide +kernel
theorem dc_Mo_divisor_11 : decode cb_Mo_divisor 11 = .ok (.irem, 1) := by decide +kernel
theorem dc_Mo_divisor_12 : decode cb_Mo_divisor 12 = .ok (.ifCond .ne 11, 3) := by decide +kernel
theorem dc_Mo_divisor_15 : decode cb_Mo_divisor 15 = .ok (.iload_n 1, 1) := by decide +kernel
theorem dc_Mo_divisor_16 : decode cb_Mo_divisor 16 = .ok (.iload_n 3, 1) := by decide +kernel
theorem dc_Mo_divisor_17 : decode cb_Mo_divisor 17 = .ok (.irem, 1) := by decide +kernel
theorem dc_Mo_divisor_18 : decode cb_Mo_divisor 18 = .ok (.ifCond .ne 5, 3) := by decide +kernel
theorem dc_Mo_divisor_21 : decode cb_Mo_divisor 21 = .ok (.iload_n 3, 1) := by decide +kernel
theorem dc_Mo_divisor_22 : decode cb_Mo_divisor 22 = .ok (.istore_n 2, 1) := by decide +kernel
theorem dc_Mo_divisor_23 : decode cb_Mo_divisor 23 = .ok (.iinc 3 1, 3) := by decide +kernel
theorem dc_Mo_divisor_26 : decode cb_Mo_divisor 26 = .ok (.goto (-22), 3) := by decide +kernel
theorem dc_Mo_divisor_29 : decode cb_Mo_divisor 29 = .ok (.iload_n 2, 1) := by decide +kernel
theorem dc_Mo_divisor_30 : decode cb_Mo_divisor 30 = .ok (.ireturn, 1) := by decide +kernel
theorem yk_Mo_divisor : fq_Y my_Mo_divisor cb_Mo_divisor 4 (some .int) 2 := ⟨wd_887, wd_36, by decide +kernel⟩
theorem dc_Mo_section_0 : decode cb_Mo_section 0 = .ok (.aload_n 0, 1) := by decide +kernel
theorem dc_Mo_section_1 : decode cb_Mo_section 1 = .ok (.invokevirtual 57, 3) := by decide +kernel
theorem dc_Mo_section_4 : decode cb_Mo_section 4 = .ok (.ifCond .eq 40, 3) := by decide +kernel
theorem dc_Mo_section_7 : decode cb_Mo_section 7 = .ok (.iload_n 1, 1) := by decide +kernel
theorem dc_Mo_section_8 : decode cb_Mo_section 8 = .ok (.invokestatic 61, 3) := by decide +kernel
theorem dc_Mo_section_11 : decode cb_Mo_section 11 = .ok (.ifCond .eq 33, 3) := by decide +kernel
theorem dc_Mo_section_14 : decode cb_Mo_section 14 = .ok (.iload_n 2, 1) := by decide +kernel
theorem dc_Mo_section_15 : decode cb_Mo_section 15 = .ok (.invokestatic 61, 3) := by decide +kernel
theorem dc_Mo_section_18 : decode cb_Mo_section 18 = .ok (.ifCond .eq 26, 3) := by decide +kernel
theorem dc_Mo_section_21 : decode cb_Mo_section 21 = .ok (.iload_n 3, 1) := by decide +kernel
theorem dc_Mo_section_22 : decode cb_Mo_section 22 = .ok (.invokestatic 61, 3) := by decide +kernel
theorem dc_Mo_section_25 : decode cb_Mo_section 25 = .ok (.ifCond .eq 19, 3) := by decide +kernel
theorem dc_Mo_section_28 : decode cb_Mo_section 28 = .ok (.iload 4, 2) := by decide +kernel
theorem dc_Mo_section_30 : decode cb_Mo_section 30 = .ok (.invokestatic 61, 3) := by decide +kernel
theorem dc_Mo_section_33 : decode cb_Mo_section 33 = .ok (.ifCond .eq 11, 3) := by decide +kernel
theorem dc_Mo_section_36 : decode cb_Mo_section 36 = .ok (.iload 5, 2) := by decide +kernel
theorem dc_Mo_section_38 : decode cb_Mo_section 38 = .ok (.invokestatic 61, 3) := by decide +kernel
theorem dc_Mo_section_41 : decode cb_Mo_section 41 = .ok (.ifCond .ne 5, 3) := by decide +kernel
theorem dc_Mo_section_44 : decode cb_Mo_section 44 = .ok (.iconst 0, 1) := by decide +kernel
theorem dc_Mo_section_45 : decode cb_Mo_section 45 = .ok (.ireturn, 1) := by decide +kernel
theorem dc_Mo_section_46 : decode cb_Mo_section 46 = .ok (.iload 5, 2) := by decide +kernel
theorem dc_Mo_section_48 : decode cb_Mo_section 48 = .ok (.sipush (-16384), 3) := by decide +kernel
theorem dc_Mo_section_51 : decode cb_Mo_section 51 = .ok (.if_icmp .le 34, 3) := by decide +kernel
theorem dc_Mo_section_54 : decode cb_Mo_section 54 = .ok (.iload 5, 2) := by decide +kernel
theorem dc_Mo_section_56 : decode cb_Mo_section 56 = .ok (.sipush 16384, 3) := by decide +kernel
theorem dc_Mo_section_59 : decode cb_Mo_section 59 = .ok (.if_icmp .ge 26, 3) := by decide +kernel
theorem dc_Mo_section_62 : decode cb_Mo_section 62 = .ok (.iload 4, 2) := by decide +kernel
theorem dc_Mo_section_64 : decode cb_Mo_section 64 = .ok (.sipush 16384, 3) := by decide +kernel
theorem dc_Mo_section_67 : decode cb_Mo_section 67 = .ok (.iload 5, 2) := by decide +kernel
theorem dc_Mo_section_69 : decode cb_Mo_section 69 = .ok (.iadd, 1) := by decide +kernel
theorem dc_Mo_section_70 : decode cb_Mo_section 70 = .ok (.ineg, 1) := by decide +kernel
theorem dc_Mo_section_71 : decode cb_Mo_section 71 = .ok (.if_icmp .le 14, 3) := by decide +kernel
theorem dc_Mo_section_74 : decode cb_Mo_section 74 = .ok (.iload 4, 2) := by decide +kernel
theorem dc_Mo_section_76 : decode cb_Mo_section 76 = .ok (.sipush 16384, 3) := by decide +kernel
theorem dc_Mo_section_79 : decode cb_Mo_section 79 = .ok (.iload 5, 2) := by decide +kernel
theorem dc_Mo_section_81 : decode cb_Mo_section 81 = .ok (.iadd, 1) := by decide +kernel
theorem dc_Mo_section_82 : decode cb_Mo_section 82 = .ok (.if_icmp .lt 5, 3) := by decide +kernel
theorem dc_Mo_section_85 : decode cb_Mo_section 85 = .ok (.iconst 0, 1) := by decide +kernel
theorem dc_Mo_section_86 : decode cb_Mo_section 86 = .ok (.ireturn, 1) := by decide +kernel
theorem dc_Mo_section_87 : decode cb_Mo_section 87 = .ok (.aload_n 0, 1) := by decide +kernel
theorem dc_Mo_section_88 : decode cb_Mo_section 88 = .ok (.iconst 0, 1) := by decide +kernel
theorem dc_Mo_section_89 : decode cb_Mo_section 89 = .ok (.iload_n 1, 1) := by decide +kernel
theorem dc_Mo_section_90 : decode cb_Mo_section 90 = .ok (.iload_n 2, 1) := by decide +kernel
theorem dc_Mo_section_91 : decode cb_Mo_section 91 = .ok (.iload_n 3, 1) := by decide +kernel
theorem dc_Mo_section_92 : decode cb_Mo_section 92 = .ok (.iload 4, 2) := by decide +kernel
theorem dc_Mo_section_94 : decode cb_Mo_section 94 = .ok (.iload 5, 2) := by decide +kernel
theorem dc_Mo_section_96 : decode cb_Mo_section 96 = .ok (.invokevirtual 65, 3) := by decide +kernel
theorem dc_Mo_section_99 : decode cb_Mo_section 99 = .ok (.iconst 1, 1) := by decide +kernel
theorem dc_Mo_section_100 : decode cb_Mo_section 100 = .ok (.ireturn, 1) := by decide +kernel
theorem yk_Mo_section : fq_Y my_Mo_section cb_Mo_section 6 (some .boolean) 5 := ⟨wd_843, wd_36, by decide +kernel⟩
theorem dc_Mo_halfPower_0 : decode cb_Mo_halfPower 0 = .ok (.aload_n 0, 1) := by decide +kernel
theorem dc_Mo_halfPower_1 : decode cb_Mo_halfPower 1 = .ok (.invokevirtual 57, 3) := by decide +kernel
theorem dc_Mo_halfPower_4 : decode cb_Mo_halfPower 4 = .ok (.ifCond .eq 14, 3) := by decide +kernel
theorem dc_Mo_halfPower_7 : decode cb_Mo_halfPower 7 = .ok (.iload_n 1, 1) := by decide +kernel
theorem dc_Mo_halfPower_8 : decode cb_Mo_halfPower 8 = .ok (.iconst 1, 1) := by decide +kernel
theorem dc_Mo_halfPower_9 : decode cb_Mo_halfPower 9 = .ok (.if_icmp .lt 9, 3) := by decide +kernel
theorem dc_Mo_halfPower_12 : decode cb_Mo_halfPower 12 = .ok (.iload_n 1, 1) := by decide +kernel
theorem dc_Mo_halfPower_13 : decode cb_Mo_halfPower 13 = .ok (.bipush 96, 2) := by decide +kernel
theorem dc_Mo_halfPower_15 : decode cb_Mo_halfPower 15 = .ok (.if_icmp .le 5, 3) := by decide +kernel
theorem dc_Mo_halfPower_18 : decode cb_Mo_halfPower 18 = .ok (.iconst 0, 1) := by decide +kernel
theorem dc_Mo_halfPower_19 : decode cb_Mo_halfPower 19 = .ok (.ireturn, 1) := by decide +kernel
theorem dc_Mo_halfPower_20 : decode cb_Mo_halfPower 20 = .ok (.iload_n 1, 1) := by decide +kernel
theorem dc_Mo_halfPower_21 : decode cb_Mo_halfPower 21 = .ok (.i2l, 1) := by decide +kernel
theorem dc_Mo_halfPower_22 : decode cb_Mo_halfPower 22 = .ok (.iload_n 1, 1) := by decide +kernel
theorem dc_Mo_halfPower_23 : decode cb_Mo_halfPower 23 = .ok (.i2l, 1) := by decide +kernel
theorem dc_Mo_halfPower_24 : decode cb_Mo_halfPower 24 = .ok (.lmul, 1) := by decide +kernel
theorem dc_Mo_halfPower_25 : decode cb_Mo_halfPower 25 = .ok (.lstore_n 3, 1) := by decide +kernel
theorem dc_Mo_halfPower_26 : decode cb_Mo_halfPower 26 = .ok (.ldc2_w 69, 3) := by decide +kernel
theorem dc_Mo_halfPower_29 : decode cb_Mo_halfPower 29 = .ok (.ldc2_w 71, 3) := by decide +kernel
theorem dc_Mo_halfPower_32 : decode cb_Mo_halfPower 32 = .ok (.lload_n 3, 1) := by decide +kernel
theorem dc_Mo_halfPower_33 : decode cb_Mo_halfPower 33 = .ok (.ladd, 1) := by decide +kernel
theorem dc_Mo_halfPower_34 : decode cb_Mo_halfPower 34 = .ok (.lmul, 1) := by decide +kernel
theorem dc_Mo_halfPower_35 : decode cb_Mo_halfPower 35 = .ok (.ldc2_w 73, 3) := by decide +kernel
theorem dc_Mo_halfPower_38 : decode cb_Mo_halfPower 38 = .ok (.iload_n 1, 1) := by decide +kernel
theorem dc_Mo_halfPower_39 : decode cb_Mo_halfPower 39 = .ok (.i2l, 1) := by decide +kernel
theorem dc_Mo_halfPower_40 : decode cb_Mo_halfPower 40 = .ok (.lmul, 1) := by decide +kernel
theorem dc_Mo_halfPower_41 : decode cb_Mo_halfPower 41 = .ok (.ladd, 1) := by decide +kernel
theorem dc_Mo_halfPower_42 : decode cb_Mo_halfPower 42 = .ok (.lstore 5, 2) := by decide +kernel
theorem dc_Mo_halfPower_44 : decode cb_Mo_halfPower 44 = .ok (.iload_n 2, 1) := by decide +kernel
theorem dc_Mo_halfPower_45 : decode cb_Mo_halfPower 45 = .ok (.ifCond .eq 14, 3) := by decide +kernel
theorem dc_Mo_halfPower_48 : decode cb_Mo_halfPower 48 = .ok (.ldc2_w 75, 3) := by decide +kernel
theorem dc_Mo_halfPower_51 : decode cb_Mo_halfPower 51 = .ok (.lload 5, 2) := by decide +kernel
theorem dc_Mo_halfPower_53 : decode cb_Mo_halfPower 53 = .ok (.invokestatic 77, 3) := by decide +kernel
theorem dc_Mo_halfPower_56 : decode cb_Mo_halfPower 56 = .ok (.goto 13, 3) := by decide +kernel
theorem dc_Mo_halfPower_59 : decode cb_Mo_halfPower 59 = .ok (.ldc2_w 81, 3) := by decide +kernel
theorem dc_Mo_halfPower_62 : decode cb_Mo_halfPower 62 = .ok (.lload_n 3, 1) := by decide +kernel
theorem dc_Mo_halfPower_63 : decode cb_Mo_halfPower 63 = .ok (.lmul, 1) := by decide +kernel
theorem dc_Mo_halfPower_64 : decode cb_Mo_halfPower 64 = .ok (.lload 5, 2) := by decide +kernel
theorem dc_Mo_halfPower_66 : decode cb_Mo_halfPower 66 = .ok (.invokestatic 77, 3) := by decide +kernel
theorem dc_Mo_halfPower_69 : decode cb_Mo_halfPower 69 = .ok (.istore 7, 2) := by decide +kernel
theorem dc_Mo_halfPower_71 : decode cb_Mo_halfPower 71 = .ok (.ldc2_w 83, 3) := by decide +kernel
theorem dc_Mo_halfPower_74 : decode cb_Mo_halfPower 74 = .ok (.lload_n 3, 1) := by decide +kernel
theorem dc_Mo_halfPower_75 : decode cb_Mo_halfPower 75 = .ok (.ldc2_w 71, 3) := by decide +kernel
theorem dc_Mo_halfPower_78 : decode cb_Mo_halfPower 78 = .ok (.lsub, 1) := by decide +kernel
theorem dc_Mo_halfPower_79 : decode cb_Mo_halfPower 79 = .ok (.lmul, 1) := by decide +kernel
theorem dc_Mo_halfPower_80 : decode cb_Mo_halfPower 80 = .ok (.lload 5, 2) := by decide +kernel
theorem dc_Mo_halfPower_82 : decode cb_Mo_halfPower 82 = .ok (.invokestatic 77, 3) := by decide +kernel
theorem dc_Mo_halfPower_85 : decode cb_Mo_halfPower 85 = .ok (.istore 8, 2) := by decide +kernel
theorem dc_Mo_halfPower_87 : decode cb_Mo_halfPower 87 = .ok (.ldc2_w 85, 3) := by decide +kernel
theorem dc_Mo_halfPower_90 : decode cb_Mo_halfPower 90 = .ok (.ldc2_w 69, 3) := by decide +kernel
theorem dc_Mo_halfPower_93 : decode cb_Mo_halfPower 93 = .ok (.ldc2_w 71, 3) := by decide +kernel
theorem dc_Mo_halfPower_96 : decode cb_Mo_halfPower 96 = .ok (.lload_n 3, 1) := by decide +kernel
theorem dc_Mo_halfPower_97 : decode cb_Mo_halfPower 97 = .ok (.ladd, 1) := by decide +kernel
theorem dc_Mo_halfPower_98 : decode cb_Mo_halfPower 98 = .ok (.lmul, 1) := by decide +kernel
theorem dc_Mo_halfPower_99 : decode cb_Mo_halfPower 99 = .ok (.ldc2_w 73, 3) := by decide +kernel
theorem dc_Mo_halfPower_102 : decode cb_Mo_halfPower 102 = .ok (.iload_n 1, 1) := by decide +kernel
theorem dc_Mo_halfPower_103 : decode cb_Mo_halfPower 103 = .ok (.i2l, 1) := by decide +kernel
theorem dc_Mo_halfPower_104 : decode cb_Mo_halfPower 104 = .ok (.lmul, 1) := by decide +kernel
theorem dc_Mo_halfPower_105 : decode cb_Mo_halfPower 105 = .ok (.lsub, 1) := by decide +kernel
theorem dc_Mo_halfPower_106 : decode cb_Mo_halfPower 106 = .ok (.lmul, 1) := by decide +kernel
theorem dc_Mo_halfPower_107 : decode cb_Mo_halfPower 107 = .ok (.lload 5, 2) := by decide +kernel
theorem dc_Mo_halfPower_109 : decode cb_Mo_halfPower 109 = .ok (.invokestatic 77, 3) := by decide +kernel
theorem dc_Mo_halfPower_112 : decode cb_Mo_halfPower 112 = .ok (.istore 9, 2) := by decide +kernel
theorem dc_Mo_halfPower_114 : decode cb_Mo_halfPower 114 = .ok (.aload_n 0, 1) := by decide +kernel
theorem dc_Mo_halfPower_115 : decode cb_Mo_halfPower 115 = .ok (.iconst 0, 1) := by decide +kernel
theorem dc_Mo_halfPower_116 : decode cb_Mo_halfPower 116 = .ok (.iload 7, 2) := by decide +kernel
theorem dc_Mo_halfPower_118 : decode cb_Mo_halfPower 118 = .ok (.iload_n 2, 1) := by decide +kernel
theorem dc_Mo_halfPower_119 : decode cb_Mo_halfPower 119 = .ok (.ifCond .eq 11, 3) := by decide +kernel
theorem dc_Mo_halfPower_122 : decode cb_Mo_halfPower 122 = .ok (.bipush (-2), 2) := by decide +kernel
theorem dc_Mo_halfPower_124 : decode cb_Mo_halfPower 124 = .ok (.iload 7, 2) := by decide +kernel
theorem dc_Mo_halfPower_126 : decode cb_Mo_halfPower 126 = .ok (.imul, 1) := by decide +kernel
theorem dc_Mo_halfPower_127 : decode cb_Mo_halfPower 127 = .ok (.goto 7, 3) := by decide +kernel
theorem dc_Mo_halfPower_130 : decode cb_Mo_halfPower 130 = .ok (.iconst 2, 1) := by decide +kernel
theorem dc_Mo_halfPower_131 : decode cb_Mo_halfPower 131 = .ok (.iload 7, 2) := by decide +kernel
theorem dc_Mo_halfPower_133 : decode cb_Mo_halfPower 133 = .ok (.imul, 1) := by decide +kernel
theorem dc_Mo_halfPower_134 : decode cb_Mo_halfPower 134 = .ok (.iload 7, 2) := by decide +kernel
theorem dc_Mo_halfPower_136 : decode cb_Mo_halfPower 136 = .ok (.iload 8, 2) := by decide +kernel
theorem dc_Mo_halfPower_138 : decode cb_Mo_halfPower 138 = .ok (.iload 9, 2) := by decide +kernel
theorem dc_Mo_halfPower_140 : decode cb_Mo_halfPower 140 = .ok (.invokevirtual 65, 3) := by decide +kernel
theorem dc_Mo_halfPower_143 : decode cb_Mo_halfPower 143 = .ok (.iconst 1, 1) := by decide +kernel
theorem dc_Mo_halfPower_144 : decode cb_Mo_halfPower 144 = .ok (.ireturn, 1) := by decide +kernel
theorem yk_Mo_halfPower : fq_Y my_Mo_halfPower cb_Mo_halfPower 10 (some .boolean) 2 := ⟨wd_858, wd_36, by decide +kernel⟩
theorem dc_Mo_resample_0 : decode cb_Mo_resample 0 = .ok (.iconst 0, 1) := by decide +kernel
theorem dc_Mo_resample_1 : decode cb_Mo_resample 1 = .ok (.istore_n 3, 1) := by decide +kernel
theorem dc_Mo_resample_2 : decode cb_Mo_resample 2 = .ok (.iconst 0, 1) := by decide +kernel
theorem dc_Mo_resample_3 : decode cb_Mo_resample 3 = .ok (.istore 4, 2) := by decide +kernel
theorem dc_Mo_resample_5 : decode cb_Mo_resample 5 = .ok (.iload 4, 2) := by decide +kernel
theorem dc_Mo_resample_7 : decode cb_Mo_resample 7 = .ok (.aload_n 0, 1) := by decide +kernel
theorem dc_Mo_resample_8 : decode cb_Mo_resample 8 = .ok (.getfield 54, 3) := by decide +kernel
theorem dc_Mo_resample_11 : decode cb_Mo_resample 11 = .ok (.if_icmp .ge 23, 3) := by decide +kernel
theorem dc_Mo_resample_14 : decode cb_Mo_resample 14 = .ok (.aload_n 0, 1) := by decide +kernel
theorem dc_Mo_resample_15 : decode cb_Mo_resample 15 = .ok (.getfield 7, 3) := by decide +kernel
theorem dc_Mo_resample_18 : decode cb_Mo_resample 18 = .ok (.iload 4, 2) := by decide +kernel
theorem dc_Mo_resample_20 : decode cb_Mo_resample 20 = .ok (.iaload, 1) := by decide +kernel
theorem dc_Mo_resample_21 : decode cb_Mo_resample 21 = .ok (.iconst 3, 1) := by decide +kernel
theorem dc_Mo_resample_22 : decode cb_Mo_resample 22 = .ok (.if_icmp .ne 6, 3) := by decide +kernel
theorem dc_Mo_resample_25 : decode cb_Mo_resample 25 = .ok (.iinc 3 1, 3) := by decide +kernel
theorem dc_Mo_resample_28 : decode cb_Mo_resample 28 = .ok (.iinc 4 1, 3) := by decide +kernel
theorem dc_Mo_resample_31 : decode cb_Mo_resample 31 = .ok (.goto (-26), 3) := by decide +kernel
theorem dc_Mo_resample_34 : decode cb_Mo_resample 34 = .ok (.aload_n 0, 1) := by decide +kernel
theorem dc_Mo_resample_35 : decode cb_Mo_resample 35 = .ok (.invokevirtual 57, 3) := by decide +kernel
theorem dc_Mo_resample_38 : decode cb_Mo_resample 38 = .ok (.ifCond .eq 28, 3) := by decide +kernel
theorem dc_Mo_resample_41 : decode cb_Mo_resample 41 = .ok (.iload_n 3, 1) := by decide +kernel
theorem dc_Mo_resample_42 : decode cb_Mo_resample 42 = .ok (.iconst 2, 1) := by decide +kernel
theorem dc_Mo_resample_43 : decode cb_Mo_resample 43 = .ok (.if_icmp .eq 23, 3) := by decide +kernel
theorem dc_Mo_resample_46 : decode cb_Mo_resample 46 = .ok (.iload_n 1, 1) := by decide +kernel
theorem dc_Mo_resample_47 : decode cb_Mo_resample 47 = .ok (.iconst 1, 1) := by decide +kernel
theorem dc_Mo_resample_48 : decode cb_Mo_resample 48 = .ok (.if_icmp .lt 18, 3) := by decide +kernel
theorem dc_Mo_resample_51 : decode cb_Mo_resample 51 = .ok (.iload_n 1, 1) := by decide +kernel
theorem dc_Mo_resample_52 : decode cb_Mo_resample 52 = .ok (.iconst 4, 1) := by decide +kernel
theorem dc_Mo_resample_53 : decode cb_Mo_resample 53 = .ok (.if_icmp .gt 13, 3) := by decide +kernel
theorem dc_Mo_resample_56 : decode cb_Mo_resample 56 = .ok (.iload_n 2, 1) := by decide +kernel
theorem dc_Mo_resample_57 : decode cb_Mo_resample 57 = .ok (.iconst 1, 1) := by decide +kernel
theorem dc_Mo_resample_58 : decode cb_Mo_resample 58 = .ok (.if_icmp .lt 8, 3) := by decide +kernel
theorem dc_Mo_resample_61 : decode cb_Mo_resample 61 = .ok (.iload_n 2, 1) := by decide +kernel
theorem dc_Mo_resample_62 : decode cb_Mo_resample 62 = .ok (.iconst 4, 1) := by decide +kernel
theorem dc_Mo_resample_63 : decode cb_Mo_resample 63 = .ok (.if_icmp .le 5, 3) := by decide +kernel
theorem dc_Mo_resample_66 : decode cb_Mo_resample 66 = .ok (.iconst 0, 1) := by decide +kernel
theorem dc_Mo_resample_67 : decode cb_Mo_resample 67 = .ok (.ireturn, 1) := by decide +kernel
theorem dc_Mo_resample_68 : decode cb_Mo_resample 68 = .ok (.iload_n 1, 1) := by decide +kernel
theorem dc_Mo_resample_69 : decode cb_Mo_resample 69 = .ok (.iload_n 2, 1) := by decide +kernel
theorem dc_Mo_resample_70 : decode cb_Mo_resample 70 = .ok (.invokestatic 87, 3) := by decide +kernel
theorem dc_Mo_resample_73 : decode cb_Mo_resample 73 = .ok (.istore 4, 2) := by decide +kernel
theorem dc_Mo_resample_75 : decode cb_Mo_resample 75 = .ok (.aload_n 0, 1) := by decide +kernel
theorem dc_Mo_resample_76 : decode cb_Mo_resample 76 = .ok (.iconst 3, 1) := by decide +kernel
theorem dc_Mo_resample_77 : decode cb_Mo_resample 77 = .ok (.iload_n 1, 1) := by decide +kernel
theorem dc_Mo_resample_78 : decode cb_Mo_resample 78 = .ok (.iload 4, 2) := by decide +kernel
theorem dc_Mo_resample_80 : decode cb_Mo_resample 80 = .ok (.idiv, 1) := by decide +kernel
theorem dc_Mo_resample_81 : decode cb_Mo_resample 81 = .ok (.iload_n 2, 1) := by decide +kernel
theorem dc_Mo_resample_82 : decode cb_Mo_resample 82 = .ok (.iload 4, 2) := by decide +kernel
theorem dc_Mo_resample_84 : decode cb_Mo_resample 84 = .ok (.idiv, 1) := by decide +kernel
theorem dc_Mo_resample_85 : decode cb_Mo_resample 85 = .ok (.iconst 0, 1) := by decide +kernel
theorem dc_Mo_resample_86 : decode cb_Mo_resample 86 = .ok (.iconst 0, 1) := by decide +kernel
theorem dc_Mo_resample_87 : decode cb_Mo_resample 87 = .ok (.iconst 0, 1) := by decide +kernel
theorem dc_Mo_resample_88 : decode cb_Mo_resample 88 = .ok (.invokevirtual 65, 3) := by decide +kernel
theorem dc_Mo_resample_91 : decode cb_Mo_resample 91 = .ok (.iconst 1, 1) := by decide +kernel
theorem dc_Mo_resample_92 : decode cb_Mo_resample 92 = .ok (.ireturn, 1) := by decide +kernel
theorem yk_Mo_resample : fq_Y my_Mo_resample cb_Mo_resample 5 (some .boolean) 2 := ⟨wd_884, wd_36, by decide +kernel⟩
set_option maxHeartbeats 4000000 in
set_option maxRecDepth 100000 in
theorem ct_Mo_init (l : Launch) (D : va_G) (cI cO : ClassId) (tE : Nat) (h : Nat) (x : Int32) (sz : Nat) : Met l my_Mo_init (fq_w my_Mo_init cb_Mo_init 2 none) ({ frames := 1, cells := 6, slots := 4870, locals := 12 }) (va_Pc ([.ref h, .int x]) (fq_Pre D cI cO tE sz ([(h, .inr (12, [.int 0, .int 0, .int 0, .null, .null, .int 0, .int 0, .int 0, .int 0, .null, .int 0, .int 0, .int 0, .int 0, .null, .int 0, .null, .null, .int 0, .int 0, .int 0, .int 0, .int 0]))]))) (va_Qv (S := va_W) (fun w => ∃ aK aN aB aS aL aX : Nat, w = [(h, .inr (12, [.int (nI (in_r x)), .int (fq_b false), .int (nI 0), .ref aK, .ref aN, .int (nI 2), .int (nI 2), .int (fq_b false), .int (fq_b false), .ref aB, .int (nI 0), .int (nI 0), .int (fq_b false), .int (fq_b false), .ref aS, .int (nI 0), .ref aL, .ref aX, .int (nI 0), .int (nI 0), .int (nI 0), .int (nI 0), .int (nI 0)])), (aK, .inl (cI, 5, .inl (fun _ => 0))), (aN, .inl (cI, 25, .inl (fun _ => 0))), (aB, .inl (cI, 120, .inl (fun _ => 0))), (aS, .inl (cI, 120, .inl (fun _ => 0))), (aL, .inl (cI, 2300, .inl (fun _ => 0))), (aX, .inl (cI, 2300, .inl (fun _ => 0)))]) (fq_Bw D (va_A ([(h, .inr (12, [.int 0, .int 0, .int 0, .null, .null, .int 0, .int 0, .int 0, .int 0, .null, .int 0, .int 0, .int 0, .int 0, .null, .int 0, .null, .null, .int 0, .int 0, .int 0, .int 0, .int 0]))]) sz)) (va_A ([(h, .inr (12, [.int 0, .int 0, .int 0, .null, .null, .int 0, .int 0, .int 0, .int 0, .null, .int 0, .int 0, .int 0, .int 0, .null, .int 0, .null, .null, .int 0, .int 0, .int 0, .int 0, .int 0]))]) sz)) (6) (4870) (va_A ([(h, .inr (12, [.int 0, .int 0, .int 0, .null, .null, .int 0, .int 0, .int 0, .int 0, .null, .int 0, .int 0, .int 0, .int 0, .null, .int 0, .null, .null, .int 0, .int 0, .int 0, .int 0, .int 0]))]) sz) := by
  refine fq_open (by decide +kernel) (Nat.le_of_ble_eq_true rfl) ?_
  intro pg ev s mt below meth cd ls K hret hlk hin hK hZ hP hD hA hS hl
  generalize va_A ([(h, .inr (12, [.int 0, .int 0, .int 0, .null, .null, .int 0, .int 0, .int 0, .int 0, .null, .int 0, .int 0, .int 0, .int 0, .null, .int 0, .null, .null, .int 0, .int 0, .int 0, .int 0, .int 0]))]) sz = A at hZ hD hA hS ⊢
  have K : fq_Ctx pg mt cd cb_Mo_init 2 s _ cn_Mo := K
  have hin : meth.name = "<init>" := hin
  have hl : lv_has ls 2 [(0, .ref h), (1, .int x)] := hl
  refine lv_aload_n K.1 K.2.1 dc_Mo_init_0 rfl (lv_at hl 0 rfl) ?_
  refine W.objInit K.1 K.2.1 K.2.2.2.1 (K.2.2.2.2 _ wd_769) (K.2.2.2.2 _ wd_54) (K.2.2.2.2 _ wd_55) rfl (by rw [K.2.2.1]; exact hl.1) rfl dc_Mo_init_1 (Nat.le_of_ble_eq_true rfl) (Nat.le_of_ble_eq_true rfl) ?_
  refine W.eq (g2 := F0 mt 4 ls []) rfl ?_
  refine lv_aload_n K.1 K.2.1 dc_Mo_init_4 rfl (lv_at hl 0 rfl) ?_
  refine lv_iconst (v := 5) K.1 K.2.1 dc_Mo_init_5 (by decide) ?_
  refine fq_newI K hK wd_104 hP hD hS hA 5 (by decide) (by decide) (Nat.le_of_ble_eq_true rfl) (Nat.le_of_ble_eq_true rfl) dc_Mo_init_6 (fun q1 H hP hD hS => ?_)
  have hP : va_P D fq_cl ([(h, .inr (12, [.int 0, .int 0, .int 0, .null, .null, .int 0, .int 0, .int 0, .int 0, .null, .int 0, .int 0, .int 0, .int 0, .null, .int 0, .null, .null, .int 0, .int 0, .int 0, .int 0, .int 0])), (q1, .inl (cI, 5, .inl (fun _ => 0)))]) _ := hP
  have hD : va_D A ([(h, .inr (12, [.int 0, .int 0, .int 0, .null, .null, .int 0, .int 0, .int 0, .int 0, .null, .int 0, .int 0, .int 0, .int 0, .null, .int 0, .null, .null, .int 0, .int 0, .int 0, .int 0, .int 0])), (q1, .inl (cI, 5, .inl (fun _ => 0)))]) := hD
  refine fq_putF K hK cl_Mo hP hD hS hin 0 3 rfl (by decide) wd_773 rfl rfl rfl rfl (Nat.le_of_ble_eq_true rfl) dc_Mo_init_8 (fun H locs hP hD hS => ?_)
  have hP : va_P D fq_cl ([(h, .inr (12, [.int 0, .int 0, .int 0, .ref q1, .null, .int 0, .int 0, .int 0, .int 0, .null, .int 0, .int 0, .int 0, .int 0, .null, .int 0, .null, .null, .int 0, .int 0, .int 0, .int 0, .int 0])), (q1, .inl (cI, 5, .inl (fun _ => 0)))]) _ := hP
  have hD : va_D A ([(h, .inr (12, [.int 0, .int 0, .int 0, .ref q1, .null, .int 0, .int 0, .int 0, .int 0, .null, .int 0, .int 0, .int 0, .int 0, .null, .int 0, .null, .null, .int 0, .int 0, .int 0, .int 0, .int 0])), (q1, .inl (cI, 5, .inl (fun _ => 0)))]) := hD
  refine lv_aload_n K.1 K.2.1 dc_Mo_init_11 rfl (lv_at hl 0 rfl) ?_
  refine lv_bipush (v := 25) K.1 K.2.1 dc_Mo_init_12 (by decide) ?_
  refine fq_newI K hK wd_104 hP hD hS hA 25 (by decide) (by decide) (Nat.le_of_ble_eq_true rfl) (Nat.le_of_ble_eq_true rfl) dc_Mo_init_14 (fun q2 H hP hD hS => ?_)
  have hP : va_P D fq_cl ([(h, .inr (12, [.int 0, .int 0, .int 0, .ref q1, .null, .int 0, .int 0, .int 0, .int 0, .null, .int 0, .int 0, .int 0, .int 0, .null, .int 0, .null, .null, .int 0, .int 0, .int 0, .int 0, .int 0])), (q1, .inl (cI, 5, .inl (fun _ => 0))), (q2, .inl (cI, 25, .inl (fun _ => 0)))]) _ := hP
  have hD : va_D A ([(h, .inr (12, [.int 0, .int 0, .int 0, .ref q1, .null, .int 0, .int 0, .int 0, .int 0, .null, .int 0, .int 0, .int 0, .int 0, .null, .int 0, .null, .null, .int 0, .int 0, .int 0, .int 0, .int 0])), (q1, .inl (cI, 5, .inl (fun _ => 0))), (q2, .inl (cI, 25, .inl (fun _ => 0)))]) := hD
  refine fq_putF K hK cl_Mo hP hD hS hin 0 4 rfl (by decide) wd_774 rfl rfl rfl rfl (Nat.le_of_ble_eq_true rfl) dc_Mo_init_16 (fun H locs hP hD hS => ?_)
  have hP : va_P D fq_cl ([(h, .inr (12, [.int 0, .int 0, .int 0, .ref q1, .ref q2, .int 0, .int 0, .int 0, .int 0, .null, .int 0, .int 0, .int 0, .int 0, .null, .int 0, .null, .null, .int 0, .int 0, .int 0, .int 0, .int 0])), (q1, .inl (cI, 5, .inl (fun _ => 0))), (q2, .inl (cI, 25, .inl (fun _ => 0)))]) _ := hP
  have hD : va_D A ([(h, .inr (12, [.int 0, .int 0, .int 0, .ref q1, .ref q2, .int 0, .int 0, .int 0, .int 0, .null, .int 0, .int 0, .int 0, .int 0, .null, .int 0, .null, .null, .int 0, .int 0, .int 0, .int 0, .int 0])), (q1, .inl (cI, 5, .inl (fun _ => 0))), (q2, .inl (cI, 25, .inl (fun _ => 0)))]) := hD
  refine lv_aload_n K.1 K.2.1 dc_Mo_init_19 rfl (lv_at hl 0 rfl) ?_
  refine lv_iconst (v := 2) K.1 K.2.1 dc_Mo_init_20 (by decide) ?_
  refine fq_put K hK cl_Mo hP hD hS 0 5 rfl (by decide) wd_775 rfl rfl rfl (Nat.le_of_ble_eq_true rfl) dc_Mo_init_21 (fun H locs hP hD hS => ?_)
  have hP : va_P D fq_cl ([(h, .inr (12, [.int 0, .int 0, .int 0, .ref q1, .ref q2, .int 2, .int 0, .int 0, .int 0, .null, .int 0, .int 0, .int 0, .int 0, .null, .int 0, .null, .null, .int 0, .int 0, .int 0, .int 0, .int 0])), (q1, .inl (cI, 5, .inl (fun _ => 0))), (q2, .inl (cI, 25, .inl (fun _ => 0)))]) _ := hP
  have hD : va_D A ([(h, .inr (12, [.int 0, .int 0, .int 0, .ref q1, .ref q2, .int 2, .int 0, .int 0, .int 0, .null, .int 0, .int 0, .int 0, .int 0, .null, .int 0, .null, .null, .int 0, .int 0, .int 0, .int 0, .int 0])), (q1, .inl (cI, 5, .inl (fun _ => 0))), (q2, .inl (cI, 25, .inl (fun _ => 0)))]) := hD
  refine lv_aload_n K.1 K.2.1 dc_Mo_init_24 rfl (lv_at hl 0 rfl) ?_
  refine lv_iconst (v := 2) K.1 K.2.1 dc_Mo_init_25 (by decide) ?_
  refine fq_put K hK cl_Mo hP hD hS 0 6 rfl (by decide) wd_776 rfl rfl rfl (Nat.le_of_ble_eq_true rfl) dc_Mo_init_26 (fun H locs hP hD hS => ?_)
  have hP : va_P D fq_cl ([(h, .inr (12, [.int 0, .int 0, .int 0, .ref q1, .ref q2, .int 2, .int 2, .int 0, .int 0, .null, .int 0, .int 0, .int 0, .int 0, .null, .int 0, .null, .null, .int 0, .int 0, .int 0, .int 0, .int 0])), (q1, .inl (cI, 5, .inl (fun _ => 0))), (q2, .inl (cI, 25, .inl (fun _ => 0)))]) _ := hP
  have hD : va_D A ([(h, .inr (12, [.int 0, .int 0, .int 0, .ref q1, .ref q2, .int 2, .int 2, .int 0, .int 0, .null, .int 0, .int 0, .int 0, .int 0, .null, .int 0, .null, .null, .int 0, .int 0, .int 0, .int 0, .int 0])), (q1, .inl (cI, 5, .inl (fun _ => 0))), (q2, .inl (cI, 25, .inl (fun _ => 0)))]) := hD
  refine lv_aload_n K.1 K.2.1 dc_Mo_init_29 rfl (lv_at hl 0 rfl) ?_
  refine lv_bipush (v := 120) K.1 K.2.1 dc_Mo_init_30 (by decide) ?_
  refine fq_newI K hK wd_104 hP hD hS hA 120 (by decide) (by decide) (Nat.le_of_ble_eq_true rfl) (Nat.le_of_ble_eq_true rfl) dc_Mo_init_32 (fun q3 H hP hD hS => ?_)
  have hP : va_P D fq_cl ([(h, .inr (12, [.int 0, .int 0, .int 0, .ref q1, .ref q2, .int 2, .int 2, .int 0, .int 0, .null, .int 0, .int 0, .int 0, .int 0, .null, .int 0, .null, .null, .int 0, .int 0, .int 0, .int 0, .int 0])), (q1, .inl (cI, 5, .inl (fun _ => 0))), (q2, .inl (cI, 25, .inl (fun _ => 0))), (q3, .inl (cI, 120, .inl (fun _ => 0)))]) _ := hP
  have hD : va_D A ([(h, .inr (12, [.int 0, .int 0, .int 0, .ref q1, .ref q2, .int 2, .int 2, .int 0, .int 0, .null, .int 0, .int 0, .int 0, .int 0, .null, .int 0, .null, .null, .int 0, .int 0, .int 0, .int 0, .int 0])), (q1, .inl (cI, 5, .inl (fun _ => 0))), (q2, .inl (cI, 25, .inl (fun _ => 0))), (q3, .inl (cI, 120, .inl (fun _ => 0)))]) := hD
  refine fq_putF K hK cl_Mo hP hD hS hin 0 9 rfl (by decide) wd_779 rfl rfl rfl rfl (Nat.le_of_ble_eq_true rfl) dc_Mo_init_34 (fun H locs hP hD hS => ?_)
  have hP : va_P D fq_cl ([(h, .inr (12, [.int 0, .int 0, .int 0, .ref q1, .ref q2, .int 2, .int 2, .int 0, .int 0, .ref q3, .int 0, .int 0, .int 0, .int 0, .null, .int 0, .null, .null, .int 0, .int 0, .int 0, .int 0, .int 0])), (q1, .inl (cI, 5, .inl (fun _ => 0))), (q2, .inl (cI, 25, .inl (fun _ => 0))), (q3, .inl (cI, 120, .inl (fun _ => 0)))]) _ := hP
  have hD : va_D A ([(h, .inr (12, [.int 0, .int 0, .int 0, .ref q1, .ref q2, .int 2, .int 2, .int 0, .int 0, .ref q3, .int 0, .int 0, .int 0, .int 0, .null, .int 0, .null, .null, .int 0, .int 0, .int 0, .int 0, .int 0])), (q1, .inl (cI, 5, .inl (fun _ => 0))), (q2, .inl (cI, 25, .inl (fun _ => 0))), (q3, .inl (cI, 120, .inl (fun _ => 0)))]) := hD
  refine lv_aload_n K.1 K.2.1 dc_Mo_init_37 rfl (lv_at hl 0 rfl) ?_
  refine lv_bipush (v := 120) K.1 K.2.1 dc_Mo_init_38 (by decide) ?_
  refine fq_newI K hK wd_104 hP hD hS hA 120 (by decide) (by decide) (Nat.le_of_ble_eq_true rfl) (Nat.le_of_ble_eq_true rfl) dc_Mo_init_40 (fun q4 H hP hD hS => ?_)
  have hP : va_P D fq_cl ([(h, .inr (12, [.int 0, .int 0, .int 0, .ref q1, .ref q2, .int 2, .int 2, .int 0, .int 0, .ref q3, .int 0, .int 0, .int 0, .int 0, .null, .int 0, .null, .null, .int 0, .int 0, .int 0, .int 0, .int 0])), (q1, .inl (cI, 5, .inl (fun _ => 0))), (q2, .inl (cI, 25, .inl (fun _ => 0))), (q3, .inl (cI, 120, .inl (fun _ => 0))), (q4, .inl (cI, 120, .inl (fun _ => 0)))]) _ := hP
  have hD : va_D A ([(h, .inr (12, [.int 0, .int 0, .int 0, .ref q1, .ref q2, .int 2, .int 2, .int 0, .int 0, .ref q3, .int 0, .int 0, .int 0, .int 0, .null, .int 0, .null, .null, .int 0, .int 0, .int 0, .int 0, .int 0])), (q1, .inl (cI, 5, .inl (fun _ => 0))), (q2, .inl (cI, 25, .inl (fun _ => 0))), (q3, .inl (cI, 120, .inl (fun _ => 0))), (q4, .inl (cI, 120, .inl (fun _ => 0)))]) := hD
  refine fq_putF K hK cl_Mo hP hD hS hin 0 14 rfl (by decide) wd_784 rfl rfl rfl rfl (Nat.le_of_ble_eq_true rfl) dc_Mo_init_42 (fun H locs hP hD hS => ?_)
  have hP : va_P D fq_cl ([(h, .inr (12, [.int 0, .int 0, .int 0, .ref q1, .ref q2, .int 2, .int 2, .int 0, .int 0, .ref q3, .int 0, .int 0, .int 0, .int 0, .ref q4, .int 0, .null, .null, .int 0, .int 0, .int 0, .int 0, .int 0])), (q1, .inl (cI, 5, .inl (fun _ => 0))), (q2, .inl (cI, 25, .inl (fun _ => 0))), (q3, .inl (cI, 120, .inl (fun _ => 0))), (q4, .inl (cI, 120, .inl (fun _ => 0)))]) _ := hP
  have hD : va_D A ([(h, .inr (12, [.int 0, .int 0, .int 0, .ref q1, .ref q2, .int 2, .int 2, .int 0, .int 0, .ref q3, .int 0, .int 0, .int 0, .int 0, .ref q4, .int 0, .null, .null, .int 0, .int 0, .int 0, .int 0, .int 0])), (q1, .inl (cI, 5, .inl (fun _ => 0))), (q2, .inl (cI, 25, .inl (fun _ => 0))), (q3, .inl (cI, 120, .inl (fun _ => 0))), (q4, .inl (cI, 120, .inl (fun _ => 0)))]) := hD
  refine lv_aload_n K.1 K.2.1 dc_Mo_init_45 rfl (lv_at hl 0 rfl) ?_
  refine lv_sipush (v := 2300) K.1 K.2.1 dc_Mo_init_46 (by decide) ?_
  refine fq_newI K hK wd_104 hP hD hS hA 2300 (by decide) (by decide) (Nat.le_of_ble_eq_true rfl) (Nat.le_of_ble_eq_true rfl) dc_Mo_init_49 (fun q5 H hP hD hS => ?_)
  have hP : va_P D fq_cl ([(h, .inr (12, [.int 0, .int 0, .int 0, .ref q1, .ref q2, .int 2, .int 2, .int 0, .int 0, .ref q3, .int 0, .int 0, .int 0, .int 0, .ref q4, .int 0, .null, .null, .int 0, .int 0, .int 0, .int 0, .int 0])), (q1, .inl (cI, 5, .inl (fun _ => 0))), (q2, .inl (cI, 25, .inl (fun _ => 0))), (q3, .inl (cI, 120, .inl (fun _ => 0))), (q4, .inl (cI, 120, .inl (fun _ => 0))), (q5, .inl (cI, 2300, .inl (fun _ => 0)))]) _ := hP
  have hD : va_D A ([(h, .inr (12, [.int 0, .int 0, .int 0, .ref q1, .ref q2, .int 2, .int 2, .int 0, .int 0, .ref q3, .int 0, .int 0, .int 0, .int 0, .ref q4, .int 0, .null, .null, .int 0, .int 0, .int 0, .int 0, .int 0])), (q1, .inl (cI, 5, .inl (fun _ => 0))), (q2, .inl (cI, 25, .inl (fun _ => 0))), (q3, .inl (cI, 120, .inl (fun _ => 0))), (q4, .inl (cI, 120, .inl (fun _ => 0))), (q5, .inl (cI, 2300, .inl (fun _ => 0)))]) := hD
  refine fq_putF K hK cl_Mo hP hD hS hin 0 16 rfl (by decide) wd_786 rfl rfl rfl rfl (Nat.le_of_ble_eq_true rfl) dc_Mo_init_51 (fun H locs hP hD hS => ?_)
  have hP : va_P D fq_cl ([(h, .inr (12, [.int 0, .int 0, .int 0, .ref q1, .ref q2, .int 2, .int 2, .int 0, .int 0, .ref q3, .int 0, .int 0, .int 0, .int 0, .ref q4, .int 0, .ref q5, .null, .int 0, .int 0, .int 0, .int 0, .int 0])), (q1, .inl (cI, 5, .inl (fun _ => 0))), (q2, .inl (cI, 25, .inl (fun _ => 0))), (q3, .inl (cI, 120, .inl (fun _ => 0))), (q4, .inl (cI, 120, .inl (fun _ => 0))), (q5, .inl (cI, 2300, .inl (fun _ => 0)))]) _ := hP
  have hD : va_D A ([(h, .inr (12, [.int 0, .int 0, .int 0, .ref q1, .ref q2, .int 2, .int 2, .int 0, .int 0, .ref q3, .int 0, .int 0, .int 0, .int 0, .ref q4, .int 0, .ref q5, .null, .int 0, .int 0, .int 0, .int 0, .int 0])), (q1, .inl (cI, 5, .inl (fun _ => 0))), (q2, .inl (cI, 25, .inl (fun _ => 0))), (q3, .inl (cI, 120, .inl (fun _ => 0))), (q4, .inl (cI, 120, .inl (fun _ => 0))), (q5, .inl (cI, 2300, .inl (fun _ => 0)))]) := hD
  refine lv_aload_n K.1 K.2.1 dc_Mo_init_54 rfl (lv_at hl 0 rfl) ?_
  refine lv_sipush (v := 2300) K.1 K.2.1 dc_Mo_init_55 (by decide) ?_
  refine fq_newI K hK wd_104 hP hD hS hA 2300 (by decide) (by decide) (Nat.le_of_ble_eq_true rfl) (Nat.le_of_ble_eq_true rfl) dc_Mo_init_58 (fun q6 H hP hD hS => ?_)
  have hP : va_P D fq_cl ([(h, .inr (12, [.int 0, .int 0, .int 0, .ref q1, .ref q2, .int 2, .int 2, .int 0, .int 0, .ref q3, .int 0, .int 0, .int 0, .int 0, .ref q4, .int 0, .ref q5, .null, .int 0, .int 0, .int 0, .int 0, .int 0])), (q1, .inl (cI, 5, .inl (fun _ => 0))), (q2, .inl (cI, 25, .inl (fun _ => 0))), (q3, .inl (cI, 120, .inl (fun _ => 0))), (q4, .inl (cI, 120, .inl (fun _ => 0))), (q5, .inl (cI, 2300, .inl (fun _ => 0))), (q6, .inl (cI, 2300, .inl (fun _ => 0)))]) _ := hP
  have hD : va_D A ([(h, .inr (12, [.int 0, .int 0, .int 0, .ref q1, .ref q2, .int 2, .int 2, .int 0, .int 0, .ref q3, .int 0, .int 0, .int 0, .int 0, .ref q4, .int 0, .ref q5, .null, .int 0, .int 0, .int 0, .int 0, .int 0])), (q1, .inl (cI, 5, .inl (fun _ => 0))), (q2, .inl (cI, 25, .inl (fun _ => 0))), (q3, .inl (cI, 120, .inl (fun _ => 0))), (q4, .inl (cI, 120, .inl (fun _ => 0))), (q5, .inl (cI, 2300, .inl (fun _ => 0))), (q6, .inl (cI, 2300, .inl (fun _ => 0)))]) := hD
  refine fq_putF K hK cl_Mo hP hD hS hin 0 17 rfl (by decide) wd_787 rfl rfl rfl rfl (Nat.le_of_ble_eq_true rfl) dc_Mo_init_60 (fun H locs hP hD hS => ?_)
  have hP : va_P D fq_cl ([(h, .inr (12, [.int 0, .int 0, .int 0, .ref q1, .ref q2, .int 2, .int 2, .int 0, .int 0, .ref q3, .int 0, .int 0, .int 0, .int 0, .ref q4, .int 0, .ref q5, .ref q6, .int 0, .int 0, .int 0, .int 0, .int 0])), (q1, .inl (cI, 5, .inl (fun _ => 0))), (q2, .inl (cI, 25, .inl (fun _ => 0))), (q3, .inl (cI, 120, .inl (fun _ => 0))), (q4, .inl (cI, 120, .inl (fun _ => 0))), (q5, .inl (cI, 2300, .inl (fun _ => 0))), (q6, .inl (cI, 2300, .inl (fun _ => 0)))]) _ := hP
  have hD : va_D A ([(h, .inr (12, [.int 0, .int 0, .int 0, .ref q1, .ref q2, .int 2, .int 2, .int 0, .int 0, .ref q3, .int 0, .int 0, .int 0, .int 0, .ref q4, .int 0, .ref q5, .ref q6, .int 0, .int 0, .int 0, .int 0, .int 0])), (q1, .inl (cI, 5, .inl (fun _ => 0))), (q2, .inl (cI, 25, .inl (fun _ => 0))), (q3, .inl (cI, 120, .inl (fun _ => 0))), (q4, .inl (cI, 120, .inl (fun _ => 0))), (q5, .inl (cI, 2300, .inl (fun _ => 0))), (q6, .inl (cI, 2300, .inl (fun _ => 0)))]) := hD
  refine lv_aload_n K.1 K.2.1 dc_Mo_init_63 rfl (lv_at hl 0 rfl) ?_
  refine lv_iload_n K.1 K.2.1 dc_Mo_init_64 rfl (lv_at hl 1 rfl) ?_
  refine lv_iconst (v := 1) K.1 K.2.1 dc_Mo_init_65 (by decide) ?_
  refine lv_icmp_ge (tgt := 73) K.1 K.2.1 dc_Mo_init_66 rfl (fun b66 => ?_) (fun b66 => ?_)
  · skip
    refine lv_iload_n K.1 K.2.1 dc_Mo_init_73 rfl (lv_at hl 1 rfl) ?_
    refine lv_bipush (v := 12) K.1 K.2.1 dc_Mo_init_74 (by decide) ?_
    refine lv_icmp_le (tgt := 84) K.1 K.2.1 dc_Mo_init_76 rfl (fun b76 => ?_) (fun b76 => ?_)
    · skip
      refine lv_iload_n K.1 K.2.1 dc_Mo_init_84 rfl (lv_at hl 1 rfl) ?_
      refine fq_asi (y := nI (in_r x)) (in_m3 b66 b76) ?_
      refine fq_putF K hK cl_Mo hP hD hS hin 0 0 rfl (by decide) wd_770 rfl rfl rfl rfl (Nat.le_of_ble_eq_true rfl) dc_Mo_init_85 (fun H locs hP hD hS => ?_)
      have hP : va_P D fq_cl ([(h, .inr (12, [.int (nI (in_r x)), .int 0, .int 0, .ref q1, .ref q2, .int 2, .int 2, .int 0, .int 0, .ref q3, .int 0, .int 0, .int 0, .int 0, .ref q4, .int 0, .ref q5, .ref q6, .int 0, .int 0, .int 0, .int 0, .int 0])), (q1, .inl (cI, 5, .inl (fun _ => 0))), (q2, .inl (cI, 25, .inl (fun _ => 0))), (q3, .inl (cI, 120, .inl (fun _ => 0))), (q4, .inl (cI, 120, .inl (fun _ => 0))), (q5, .inl (cI, 2300, .inl (fun _ => 0))), (q6, .inl (cI, 2300, .inl (fun _ => 0)))]) _ := hP
      have hD : va_D A ([(h, .inr (12, [.int (nI (in_r x)), .int 0, .int 0, .ref q1, .ref q2, .int 2, .int 2, .int 0, .int 0, .ref q3, .int 0, .int 0, .int 0, .int 0, .ref q4, .int 0, .ref q5, .ref q6, .int 0, .int 0, .int 0, .int 0, .int 0])), (q1, .inl (cI, 5, .inl (fun _ => 0))), (q2, .inl (cI, 25, .inl (fun _ => 0))), (q3, .inl (cI, 120, .inl (fun _ => 0))), (q4, .inl (cI, 120, .inl (fun _ => 0))), (q5, .inl (cI, 2300, .inl (fun _ => 0))), (q6, .inl (cI, 2300, .inl (fun _ => 0)))]) := hD
      exact fq_retv K hret hlk hS hP hD ⟨_, _, _, _, _, _, rfl⟩ dc_Mo_init_88 (Nat.le_of_ble_eq_true rfl) (Nat.le_of_ble_eq_true rfl)
    · skip
      refine lv_bipush (v := 12) K.1 K.2.1 dc_Mo_init_79 (by decide) ?_
      refine lv_goto (tgt := 85) K.1 K.2.1 dc_Mo_init_81 rfl ?_
      refine fq_asi (y := nI (in_r x)) (in_m2 b66 b76) ?_
      refine fq_putF K hK cl_Mo hP hD hS hin 0 0 rfl (by decide) wd_770 rfl rfl rfl rfl (Nat.le_of_ble_eq_true rfl) dc_Mo_init_85 (fun H locs hP hD hS => ?_)
      have hP : va_P D fq_cl ([(h, .inr (12, [.int (nI (in_r x)), .int 0, .int 0, .ref q1, .ref q2, .int 2, .int 2, .int 0, .int 0, .ref q3, .int 0, .int 0, .int 0, .int 0, .ref q4, .int 0, .ref q5, .ref q6, .int 0, .int 0, .int 0, .int 0, .int 0])), (q1, .inl (cI, 5, .inl (fun _ => 0))), (q2, .inl (cI, 25, .inl (fun _ => 0))), (q3, .inl (cI, 120, .inl (fun _ => 0))), (q4, .inl (cI, 120, .inl (fun _ => 0))), (q5, .inl (cI, 2300, .inl (fun _ => 0))), (q6, .inl (cI, 2300, .inl (fun _ => 0)))]) _ := hP
      have hD : va_D A ([(h, .inr (12, [.int (nI (in_r x)), .int 0, .int 0, .ref q1, .ref q2, .int 2, .int 2, .int 0, .int 0, .ref q3, .int 0, .int 0, .int 0, .int 0, .ref q4, .int 0, .ref q5, .ref q6, .int 0, .int 0, .int 0, .int 0, .int 0])), (q1, .inl (cI, 5, .inl (fun _ => 0))), (q2, .inl (cI, 25, .inl (fun _ => 0))), (q3, .inl (cI, 120, .inl (fun _ => 0))), (q4, .inl (cI, 120, .inl (fun _ => 0))), (q5, .inl (cI, 2300, .inl (fun _ => 0))), (q6, .inl (cI, 2300, .inl (fun _ => 0)))]) := hD
      exact fq_retv K hret hlk hS hP hD ⟨_, _, _, _, _, _, rfl⟩ dc_Mo_init_88 (Nat.le_of_ble_eq_true rfl) (Nat.le_of_ble_eq_true rfl)
  · skip
    refine lv_iconst (v := 1) K.1 K.2.1 dc_Mo_init_69 (by decide) ?_
    refine lv_goto (tgt := 85) K.1 K.2.1 dc_Mo_init_70 rfl ?_
    refine fq_asi (y := nI (in_r x)) (in_m1 b66) ?_
    refine fq_putF K hK cl_Mo hP hD hS hin 0 0 rfl (by decide) wd_770 rfl rfl rfl rfl (Nat.le_of_ble_eq_true rfl) dc_Mo_init_85 (fun H locs hP hD hS => ?_)
    have hP : va_P D fq_cl ([(h, .inr (12, [.int (nI (in_r x)), .int 0, .int 0, .ref q1, .ref q2, .int 2, .int 2, .int 0, .int 0, .ref q3, .int 0, .int 0, .int 0, .int 0, .ref q4, .int 0, .ref q5, .ref q6, .int 0, .int 0, .int 0, .int 0, .int 0])), (q1, .inl (cI, 5, .inl (fun _ => 0))), (q2, .inl (cI, 25, .inl (fun _ => 0))), (q3, .inl (cI, 120, .inl (fun _ => 0))), (q4, .inl (cI, 120, .inl (fun _ => 0))), (q5, .inl (cI, 2300, .inl (fun _ => 0))), (q6, .inl (cI, 2300, .inl (fun _ => 0)))]) _ := hP
    have hD : va_D A ([(h, .inr (12, [.int (nI (in_r x)), .int 0, .int 0, .ref q1, .ref q2, .int 2, .int 2, .int 0, .int 0, .ref q3, .int 0, .int 0, .int 0, .int 0, .ref q4, .int 0, .ref q5, .ref q6, .int 0, .int 0, .int 0, .int 0, .int 0])), (q1, .inl (cI, 5, .inl (fun _ => 0))), (q2, .inl (cI, 25, .inl (fun _ => 0))), (q3, .inl (cI, 120, .inl (fun _ => 0))), (q4, .inl (cI, 120, .inl (fun _ => 0))), (q5, .inl (cI, 2300, .inl (fun _ => 0))), (q6, .inl (cI, 2300, .inl (fun _ => 0)))]) := hD
    exact fq_retv K hret hlk hS hP hD ⟨_, _, _, _, _, _, rfl⟩ dc_Mo_init_88 (Nat.le_of_ble_eq_true rfl) (Nat.le_of_ble_eq_true rfl)
set_option maxHeartbeats 4000000 in
set_option maxRecDepth 100000 in
theorem ct_Mo_divisor (l : Launch) (D : va_G) (cI cO : ClassId) (tE : Nat) (a b : Nat) (ha : 1 ≤ a ∧ a ≤ 4) (hb : 1 ≤ b ∧ b ≤ 4) (sz : Nat) : Met l my_Mo_divisor (fq_w my_Mo_divisor cb_Mo_divisor 4 (some .int)) ({ frames := 0, cells := 0, slots := 0, locals := 0 }) (va_Pc ([.int (nI a), .int (nI b)]) (fq_Pre D cI cO tE sz ([]))) (va_Qi (S := va_W) (fun r w => w = [] ∧ r = nI (rs_g a b)) (fq_Bw D (va_A ([]) sz)) (va_A ([]) sz)) (0) (0) (va_A ([]) sz) := by
  refine fq_open (by decide +kernel) (Nat.le_of_ble_eq_true rfl) ?_
  intro pg ev s mt below meth cd ls K hret hlk hin hK hZ hP hD hA hS hl
  generalize va_A ([]) sz = A at hZ hD hA hS ⊢
  have K : fq_Ctx pg mt cd cb_Mo_divisor 4 s _ cn_Mo := K
  have hl : lv_has ls 4 [(0, .int (nI a)), (1, .int (nI b))] := hl
  refine lv_iconst (v := 1) K.1 K.2.1 dc_Mo_divisor_0 (by decide) ?_
  refine lv_istore_n K.1 K.2.1 dc_Mo_divisor_1 rfl hl (by decide) rfl (fun ls hl => ?_)
  have hl : lv_has ls 4 [(2, .int 1), (0, .int (nI a)), (1, .int (nI b))] := hl
  refine lv_iconst (v := 1) K.1 K.2.1 dc_Mo_divisor_2 (by decide) ?_
  refine lv_istore_n K.1 K.2.1 dc_Mo_divisor_3 rfl hl (by decide) rfl (fun ls hl => ?_)
  have hl : lv_has ls 4 [(3, .int 1), (2, .int 1), (0, .int (nI a)), (1, .int (nI b))] := hl
  refine fq_lp (σ := Nat × Nat) (fun x => 4 - x.1) (fun x H locs ls => (x.1 ≤ 4 ∧ x.2 = dv_b a b x.1) ∧ lv_has ls 4 [(0, .int (nI a)), (1, .int (nI b)), (2, .int (nI x.2)), (3, .int (nI (x.1 + 1)))] ∧ va_P D fq_cl ([]) H ∧ va_D A ([]) ∧ va_S A s.heap H locs) ?_ (0, 1) _ _ _ ⟨⟨Nat.zero_le _, rfl⟩, lv_sub hl [2, 3, 1, 0] rfl, hP, hD, hS⟩
  rintro ⟨j, q⟩ H locs ls ⟨hI4, hl, hP, hD, hS⟩ ih4
  have hI4 : j ≤ 4 ∧ q = dv_b a b j := hI4
  have hl : lv_has ls 4 [(0, .int (nI a)), (1, .int (nI b)), (2, .int (nI q)), (3, .int (nI (j + 1)))] := hl
  have hP : va_P D fq_cl ([]) _ := hP
  have hD : va_D A ([]) := hD
  refine lv_iload_n K.1 K.2.1 dc_Mo_divisor_4 rfl (lv_at hl 3 rfl) ?_
  refine lv_iconst (v := 4) K.1 K.2.1 dc_Mo_divisor_5 (by decide) ?_
  refine lv_icmp_gt (tgt := 29) K.1 K.2.1 dc_Mo_divisor_6 rfl (fun b6 => ?_) (fun b6 => ?_)
  · skip
    have hj : j = 4 := by have := hI4.1; rw [show (4 : Int32) = nI 4 from rfl, nI_ltI (by omega) (by omega)] at b6; omega
    refine lv_iload_n K.1 K.2.1 dc_Mo_divisor_29 rfl (lv_at hl 2 rfl) ?_
    exact fq_reti K hret hlk hS hP hD ⟨rfl, by rw [hI4.2, hj, dv_4]⟩ dc_Mo_divisor_30 (Nat.le_of_ble_eq_true rfl) (Nat.le_of_ble_eq_true rfl)
  · skip
    have hj : j < 4 := by have := hI4.1; rw [show (4 : Int32) = nI 4 from rfl, nI_ltI (by omega) (by omega)] at b6; omega
    refine lv_iload_n K.1 K.2.1 dc_Mo_divisor_9 rfl (lv_at hl 0 rfl) ?_
    refine lv_iload_n K.1 K.2.1 dc_Mo_divisor_10 rfl (lv_at hl 3 rfl) ?_
    refine lv_irem K.1 K.2.1 dc_Mo_divisor_11 (nI_ne0 (by omega) (by omega)) ?_
    refine fq_asi (y := nI (a % (j + 1))) (pk_rem (by omega) (by omega) (by omega)) ?_
    refine lv_if_ne (tgt := 23) K.1 K.2.1 dc_Mo_divisor_12 rfl (fun b12 => ?_) (fun b12 => ?_)
    · skip
      refine lv_iinc (v := nI (j + 1 + 1)) K.1 K.2.1 dc_Mo_divisor_23 hl (k := 3) rfl (nI_1 (j + 1)) (by decide) rfl (fun ls hl => ?_)
      have hl : lv_has ls 4 [(3, .int (nI (j + 1 + 1))), (0, .int (nI a)), (1, .int (nI b)), (2, .int (nI q))] := hl
      refine lv_goto (tgt := 4) K.1 K.2.1 dc_Mo_divisor_26 rfl ?_
      exact ih4 (j + 1, q) _ _ _ (by show 4 - (j + 1) < 4 - j; omega) ⟨⟨by omega, dv_n hI4.2 (by first | exact Or.inl b12 | exact Or.inr b18)⟩, lv_sub hl [1, 2, 3, 0] rfl, hP, hD, hS⟩
    · skip
      refine lv_iload_n K.1 K.2.1 dc_Mo_divisor_15 rfl (lv_at hl 1 rfl) ?_
      refine lv_iload_n K.1 K.2.1 dc_Mo_divisor_16 rfl (lv_at hl 3 rfl) ?_
      refine lv_irem K.1 K.2.1 dc_Mo_divisor_17 (nI_ne0 (by omega) (by omega)) ?_
      refine fq_asi (y := nI (b % (j + 1))) (pk_rem (by omega) (by omega) (by omega)) ?_
      refine lv_if_ne (tgt := 23) K.1 K.2.1 dc_Mo_divisor_18 rfl (fun b18 => ?_) (fun b18 => ?_)
      · skip
        refine lv_iinc (v := nI (j + 1 + 1)) K.1 K.2.1 dc_Mo_divisor_23 hl (k := 3) rfl (nI_1 (j + 1)) (by decide) rfl (fun ls hl => ?_)
        have hl : lv_has ls 4 [(3, .int (nI (j + 1 + 1))), (0, .int (nI a)), (1, .int (nI b)), (2, .int (nI q))] := hl
        refine lv_goto (tgt := 4) K.1 K.2.1 dc_Mo_divisor_26 rfl ?_
        exact ih4 (j + 1, q) _ _ _ (by show 4 - (j + 1) < 4 - j; omega) ⟨⟨by omega, dv_n hI4.2 (by first | exact Or.inl b12 | exact Or.inr b18)⟩, lv_sub hl [1, 2, 3, 0] rfl, hP, hD, hS⟩
      · skip
        refine lv_iload_n K.1 K.2.1 dc_Mo_divisor_21 rfl (lv_at hl 3 rfl) ?_
        refine lv_istore_n K.1 K.2.1 dc_Mo_divisor_22 rfl hl (by decide) rfl (fun ls hl => ?_)
        have hl : lv_has ls 4 [(2, .int (nI (j + 1))), (0, .int (nI a)), (1, .int (nI b)), (3, .int (nI (j + 1)))] := hl
        refine lv_iinc (v := nI (j + 1 + 1)) K.1 K.2.1 dc_Mo_divisor_23 hl (k := 3) rfl (nI_1 (j + 1)) (by decide) rfl (fun ls hl => ?_)
        have hl : lv_has ls 4 [(3, .int (nI (j + 1 + 1))), (2, .int (nI (j + 1))), (0, .int (nI a)), (1, .int (nI b))] := hl
        refine lv_goto (tgt := 4) K.1 K.2.1 dc_Mo_divisor_26 rfl ?_
        exact ih4 (j + 1, j + 1) _ _ _ (by show 4 - (j + 1) < 4 - j; omega) ⟨⟨by omega, dv_y b12 b18 hI4.1⟩, lv_sub hl [2, 3, 1, 0] rfl, hP, hD, hS⟩
set_option maxHeartbeats 4000000 in
set_option maxRecDepth 100000 in
theorem ct_Mo_section (l : Launch) (D : va_G) (cI cO : ClassId) (tE : Nat) (h aK aN aB aS aL aX : Nat) (rm : Nat) (sd : Bool) (ns : Nat) (iw : Nat) (ow : Nat) (ih : Bool) (oh : Bool) (ca : Nat) (us : Nat) (cl : Bool) (fl : Bool) (tk : Nat) (md : Nat) (gi : Nat) (su : Nat) (ps : Nat) (cs : Nat) (fK fN fB fS fL fX : Nat → Int32) (b0 b1 b2 a1 a2 : Int32) (hns : ns ≤ 5) (sz : Nat) : Met l my_Mo_section (fq_w my_Mo_section cb_Mo_section 6 (some .boolean)) ({ frames := 1, cells := 0, slots := 0, locals := 26 }) (va_Pc ([.ref h, .int b0, .int b1, .int b2, .int a1, .int a2]) (fq_Pre D cI cO tE sz ([(h, .inr (12, [.int (nI rm), .int (fq_b sd), .int (nI ns), .ref aK, .ref aN, .int (nI iw), .int (nI ow), .int (fq_b ih), .int (fq_b oh), .ref aB, .int (nI ca), .int (nI us), .int (fq_b cl), .int (fq_b fl), .ref aS, .int (nI tk), .ref aL, .ref aX, .int (nI md), .int (nI gi), .int (nI su), .int (nI ps), .int (nI cs)])), (aK, .inl (cI, 5, .inl fK)), (aN, .inl (cI, 25, .inl fN)), (aB, .inl (cI, 120, .inl fB)), (aS, .inl (cI, 120, .inl fS)), (aL, .inl (cI, 2300, .inl fL)), (aX, .inl (cI, 2300, .inl fX))]))) (va_Qi (S := va_W) (fun r w => if ((sd = false ∧ ns < 5) ∧ fs_c b0.toInt ∧ fs_c b1.toInt ∧ fs_c b2.toInt ∧ fs_c a1.toInt ∧ fs_c a2.toInt) ∧ is_c a1.toInt a2.toInt then r = 1 ∧ w = [(h, .inr (12, [.int (nI rm), .int (fq_b sd), .int (nI (ns + 1)), .ref aK, .ref aN, .int (nI iw), .int (nI ow), .int (fq_b ih), .int (fq_b oh), .ref aB, .int (nI ca), .int (nI us), .int (fq_b cl), .int (fq_b fl), .ref aS, .int (nI tk), .ref aL, .ref aX, .int (nI md), .int (nI gi), .int (nI su), .int (nI ps), .int (nI cs)])), (aK, .inl (cI, 5, .inl (upd fK ns 0))), (aN, .inl (cI, 25, .inl (upd (upd (upd (upd (upd fN (5 * ns) b0) (5 * ns + 1) b1) (5 * ns + 2) b2) (5 * ns + 3) a1) (5 * ns + 4) a2))), (aB, .inl (cI, 120, .inl fB)), (aS, .inl (cI, 120, .inl fS)), (aL, .inl (cI, 2300, .inl fL)), (aX, .inl (cI, 2300, .inl fX))] else r = 0 ∧ w = [(h, .inr (12, [.int (nI rm), .int (fq_b sd), .int (nI ns), .ref aK, .ref aN, .int (nI iw), .int (nI ow), .int (fq_b ih), .int (fq_b oh), .ref aB, .int (nI ca), .int (nI us), .int (fq_b cl), .int (fq_b fl), .ref aS, .int (nI tk), .ref aL, .ref aX, .int (nI md), .int (nI gi), .int (nI su), .int (nI ps), .int (nI cs)])), (aK, .inl (cI, 5, .inl fK)), (aN, .inl (cI, 25, .inl fN)), (aB, .inl (cI, 120, .inl fB)), (aS, .inl (cI, 120, .inl fS)), (aL, .inl (cI, 2300, .inl fL)), (aX, .inl (cI, 2300, .inl fX))]) (fq_Bw D (va_A ([(h, .inr (12, [.int (nI rm), .int (fq_b sd), .int (nI ns), .ref aK, .ref aN, .int (nI iw), .int (nI ow), .int (fq_b ih), .int (fq_b oh), .ref aB, .int (nI ca), .int (nI us), .int (fq_b cl), .int (fq_b fl), .ref aS, .int (nI tk), .ref aL, .ref aX, .int (nI md), .int (nI gi), .int (nI su), .int (nI ps), .int (nI cs)])), (aK, .inl (cI, 5, .inl fK)), (aN, .inl (cI, 25, .inl fN)), (aB, .inl (cI, 120, .inl fB)), (aS, .inl (cI, 120, .inl fS)), (aL, .inl (cI, 2300, .inl fL)), (aX, .inl (cI, 2300, .inl fX))]) sz)) (va_A ([(h, .inr (12, [.int (nI rm), .int (fq_b sd), .int (nI ns), .ref aK, .ref aN, .int (nI iw), .int (nI ow), .int (fq_b ih), .int (fq_b oh), .ref aB, .int (nI ca), .int (nI us), .int (fq_b cl), .int (fq_b fl), .ref aS, .int (nI tk), .ref aL, .ref aX, .int (nI md), .int (nI gi), .int (nI su), .int (nI ps), .int (nI cs)])), (aK, .inl (cI, 5, .inl fK)), (aN, .inl (cI, 25, .inl fN)), (aB, .inl (cI, 120, .inl fB)), (aS, .inl (cI, 120, .inl fS)), (aL, .inl (cI, 2300, .inl fL)), (aX, .inl (cI, 2300, .inl fX))]) sz)) (0) (0) (va_A ([(h, .inr (12, [.int (nI rm), .int (fq_b sd), .int (nI ns), .ref aK, .ref aN, .int (nI iw), .int (nI ow), .int (fq_b ih), .int (fq_b oh), .ref aB, .int (nI ca), .int (nI us), .int (fq_b cl), .int (fq_b fl), .ref aS, .int (nI tk), .ref aL, .ref aX, .int (nI md), .int (nI gi), .int (nI su), .int (nI ps), .int (nI cs)])), (aK, .inl (cI, 5, .inl fK)), (aN, .inl (cI, 25, .inl fN)), (aB, .inl (cI, 120, .inl fB)), (aS, .inl (cI, 120, .inl fS)), (aL, .inl (cI, 2300, .inl fL)), (aX, .inl (cI, 2300, .inl fX))]) sz) := by
  refine fq_open (by decide +kernel) (Nat.le_of_ble_eq_true rfl) ?_
  intro pg ev s mt below meth cd ls K hret hlk hin hK hZ hP hD hA hS hl
  generalize va_A ([(h, .inr (12, [.int (nI rm), .int (fq_b sd), .int (nI ns), .ref aK, .ref aN, .int (nI iw), .int (nI ow), .int (fq_b ih), .int (fq_b oh), .ref aB, .int (nI ca), .int (nI us), .int (fq_b cl), .int (fq_b fl), .ref aS, .int (nI tk), .ref aL, .ref aX, .int (nI md), .int (nI gi), .int (nI su), .int (nI ps), .int (nI cs)])), (aK, .inl (cI, 5, .inl fK)), (aN, .inl (cI, 25, .inl fN)), (aB, .inl (cI, 120, .inl fB)), (aS, .inl (cI, 120, .inl fS)), (aL, .inl (cI, 2300, .inl fL)), (aX, .inl (cI, 2300, .inl fX))]) sz = A at hZ hD hA hS ⊢
  have K : fq_Ctx pg mt cd cb_Mo_section 6 s _ cn_Mo := K
  have hl : lv_has ls 6 [(0, .ref h), (1, .int b0), (2, .int b1), (3, .int b2), (4, .int a1), (5, .int a2)] := hl
  refine lv_aload_n K.1 K.2.1 dc_Mo_section_0 rfl (lv_at hl 0 rfl) ?_
  have hc := fq_cut.of (wc := [(h, .inr (12, [.int (nI rm), .int (fq_b sd), .int (nI ns), .ref aK, .ref aN, .int (nI iw), .int (nI ow), .int (fq_b ih), .int (fq_b oh), .ref aB, .int (nI ca), .int (nI us), .int (fq_b cl), .int (fq_b fl), .ref aS, .int (nI tk), .ref aL, .ref aX, .int (nI md), .int (nI gi), .int (nI su), .int (nI ps), .int (nI cs)])), (aK, .inl (cI, 5, .inl fK)), (aN, .inl (cI, 25, .inl fN)), (aB, .inl (cI, 120, .inl fB)), (aS, .inl (cI, 120, .inl fS)), (aL, .inl (cI, 2300, .inl fL)), (aX, .inl (cI, 2300, .inl fX))]) hP hD hS hA [0, 1, 2, 3, 4, 5, 6] (by decide) rfl
  refine fq_ci (wr := []) (fq_rV K hK hZ hS hc (ct_Mo_canAdd l D cI cO tE h aK aN aB aS aL aX rm sd ns iw ow ih oh ca us cl fl tk md gi su ps cs fK fN fB fS fL fX hns _) yk_Mo_canAdd wd_846 wd_13 wd_844 0 rfl rfl rfl ⟨⟨rfl, rfl⟩, ⟨Nat.le_of_ble_eq_true rfl, Nat.le_of_ble_eq_true rfl⟩, ⟨Nat.le_of_ble_eq_true rfl, Nat.le_of_ble_eq_true rfl⟩⟩ hl.1 rfl (Nat.le_of_ble_eq_true rfl) dc_Mo_section_1) hP hD hS hc [0, 1, 2, 3, 4, 5, 6] [] rfl rfl (by decide) (by decide) (fun r1 w H locs hw1 hP hD hS => ?_)
  obtain ⟨rfl, rfl⟩ := hw1
  have hP : va_P D fq_cl ([(h, .inr (12, [.int (nI rm), .int (fq_b sd), .int (nI ns), .ref aK, .ref aN, .int (nI iw), .int (nI ow), .int (fq_b ih), .int (fq_b oh), .ref aB, .int (nI ca), .int (nI us), .int (fq_b cl), .int (fq_b fl), .ref aS, .int (nI tk), .ref aL, .ref aX, .int (nI md), .int (nI gi), .int (nI su), .int (nI ps), .int (nI cs)])), (aK, .inl (cI, 5, .inl fK)), (aN, .inl (cI, 25, .inl fN)), (aB, .inl (cI, 120, .inl fB)), (aS, .inl (cI, 120, .inl fS)), (aL, .inl (cI, 2300, .inl fL)), (aX, .inl (cI, 2300, .inl fX))]) _ := hP
  have hD : va_D A ([(h, .inr (12, [.int (nI rm), .int (fq_b sd), .int (nI ns), .ref aK, .ref aN, .int (nI iw), .int (nI ow), .int (fq_b ih), .int (fq_b oh), .ref aB, .int (nI ca), .int (nI us), .int (fq_b cl), .int (fq_b fl), .ref aS, .int (nI tk), .ref aL, .ref aX, .int (nI md), .int (nI gi), .int (nI su), .int (nI ps), .int (nI cs)])), (aK, .inl (cI, 5, .inl fK)), (aN, .inl (cI, 25, .inl fN)), (aB, .inl (cI, 120, .inl fB)), (aS, .inl (cI, 120, .inl fS)), (aL, .inl (cI, 2300, .inl fL)), (aX, .inl (cI, 2300, .inl fX))]) := hD
  refine lv_if_eq (tgt := 44) K.1 K.2.1 dc_Mo_section_4 rfl (fun b4 => ?_) (fun b4 => ?_)
  · skip
    have hn : ¬ (((sd = false ∧ ns < 5) ∧ fs_c b0.toInt ∧ fs_c b1.toInt ∧ fs_c b2.toInt ∧ fs_c a1.toInt ∧ fs_c a2.toInt) ∧ is_c a1.toInt a2.toInt) := fun z => fq_z1.mp b4 z.1.1
    refine lv_iconst (v := 0) K.1 K.2.1 dc_Mo_section_44 (by decide) ?_
    exact fq_retz K hret hlk hS hP hD (by first | exact Or.inl rfl | exact Or.inr rfl) (by rw [if_neg hn]; exact ⟨rfl, rfl⟩) dc_Mo_section_45 (Nat.le_of_ble_eq_true rfl) (Nat.le_of_ble_eq_true rfl)
  · skip
    have hca := fq_zp b4
    refine lv_iload_n K.1 K.2.1 dc_Mo_section_7 rfl (lv_at hl 1 rfl) ?_
    have hc := fq_cut.of (wc := []) hP hD hS hA [] (by decide) rfl
    refine fq_ci (wr := [(h, .inr (12, [.int (nI rm), .int (fq_b sd), .int (nI ns), .ref aK, .ref aN, .int (nI iw), .int (nI ow), .int (fq_b ih), .int (fq_b oh), .ref aB, .int (nI ca), .int (nI us), .int (fq_b cl), .int (fq_b fl), .ref aS, .int (nI tk), .ref aL, .ref aX, .int (nI md), .int (nI gi), .int (nI su), .int (nI ps), .int (nI cs)])), (aK, .inl (cI, 5, .inl fK)), (aN, .inl (cI, 25, .inl fN)), (aB, .inl (cI, 120, .inl fB)), (aS, .inl (cI, 120, .inl fS)), (aL, .inl (cI, 2300, .inl fL)), (aX, .inl (cI, 2300, .inl fX))]) (fq_rS K hK hZ hS hc (ct_Mo_small l D cI cO tE b0 _) yk_Mo_small wd_849 wd_848 ⟨⟨rfl, rfl⟩, ⟨Nat.le_of_ble_eq_true rfl, Nat.le_of_ble_eq_true rfl⟩, ⟨Nat.le_of_ble_eq_true rfl, Nat.le_of_ble_eq_true rfl⟩⟩ hl.1 rfl (Nat.le_of_ble_eq_true rfl) dc_Mo_section_8) hP hD hS hc [] [0, 1, 2, 3, 4, 5, 6] rfl rfl (by decide) (by decide) (fun r2 w H locs hw2 hP hD hS => ?_)
    obtain ⟨rfl, rfl⟩ := hw2
    have hP : va_P D fq_cl ([(h, .inr (12, [.int (nI rm), .int (fq_b sd), .int (nI ns), .ref aK, .ref aN, .int (nI iw), .int (nI ow), .int (fq_b ih), .int (fq_b oh), .ref aB, .int (nI ca), .int (nI us), .int (fq_b cl), .int (fq_b fl), .ref aS, .int (nI tk), .ref aL, .ref aX, .int (nI md), .int (nI gi), .int (nI su), .int (nI ps), .int (nI cs)])), (aK, .inl (cI, 5, .inl fK)), (aN, .inl (cI, 25, .inl fN)), (aB, .inl (cI, 120, .inl fB)), (aS, .inl (cI, 120, .inl fS)), (aL, .inl (cI, 2300, .inl fL)), (aX, .inl (cI, 2300, .inl fX))]) _ := hP
    have hD : va_D A ([(h, .inr (12, [.int (nI rm), .int (fq_b sd), .int (nI ns), .ref aK, .ref aN, .int (nI iw), .int (nI ow), .int (fq_b ih), .int (fq_b oh), .ref aB, .int (nI ca), .int (nI us), .int (fq_b cl), .int (fq_b fl), .ref aS, .int (nI tk), .ref aL, .ref aX, .int (nI md), .int (nI gi), .int (nI su), .int (nI ps), .int (nI cs)])), (aK, .inl (cI, 5, .inl fK)), (aN, .inl (cI, 25, .inl fN)), (aB, .inl (cI, 120, .inl fB)), (aS, .inl (cI, 120, .inl fS)), (aL, .inl (cI, 2300, .inl fL)), (aX, .inl (cI, 2300, .inl fX))]) := hD
    refine lv_if_eq (tgt := 44) K.1 K.2.1 dc_Mo_section_11 rfl (fun b11 => ?_) (fun b11 => ?_)
    · skip
      have hn : ¬ (((sd = false ∧ ns < 5) ∧ fs_c b0.toInt ∧ fs_c b1.toInt ∧ fs_c b2.toInt ∧ fs_c a1.toInt ∧ fs_c a2.toInt) ∧ is_c a1.toInt a2.toInt) := fun z => fq_z1.mp b11 z.1.2.1
      refine lv_iconst (v := 0) K.1 K.2.1 dc_Mo_section_44 (by decide) ?_
      exact fq_retz K hret hlk hS hP hD (by first | exact Or.inl rfl | exact Or.inr rfl) (by rw [if_neg hn]; exact ⟨rfl, rfl⟩) dc_Mo_section_45 (Nat.le_of_ble_eq_true rfl) (Nat.le_of_ble_eq_true rfl)
    · skip
      have hf0 := fq_zp b11
      refine lv_iload_n K.1 K.2.1 dc_Mo_section_14 rfl (lv_at hl 2 rfl) ?_
      have hc := fq_cut.of (wc := []) hP hD hS hA [] (by decide) rfl
      refine fq_ci (wr := [(h, .inr (12, [.int (nI rm), .int (fq_b sd), .int (nI ns), .ref aK, .ref aN, .int (nI iw), .int (nI ow), .int (fq_b ih), .int (fq_b oh), .ref aB, .int (nI ca), .int (nI us), .int (fq_b cl), .int (fq_b fl), .ref aS, .int (nI tk), .ref aL, .ref aX, .int (nI md), .int (nI gi), .int (nI su), .int (nI ps), .int (nI cs)])), (aK, .inl (cI, 5, .inl fK)), (aN, .inl (cI, 25, .inl fN)), (aB, .inl (cI, 120, .inl fB)), (aS, .inl (cI, 120, .inl fS)), (aL, .inl (cI, 2300, .inl fL)), (aX, .inl (cI, 2300, .inl fX))]) (fq_rS K hK hZ hS hc (ct_Mo_small l D cI cO tE b1 _) yk_Mo_small wd_849 wd_848 ⟨⟨rfl, rfl⟩, ⟨Nat.le_of_ble_eq_true rfl, Nat.le_of_ble_eq_true rfl⟩, ⟨Nat.le_of_ble_eq_true rfl, Nat.le_of_ble_eq_true rfl⟩⟩ hl.1 rfl (Nat.le_of_ble_eq_true rfl) dc_Mo_section_15) hP hD hS hc [] [0, 1, 2, 3, 4, 5, 6] rfl rfl (by decide) (by decide) (fun r3 w H locs hw3 hP hD hS => ?_)
      obtain ⟨rfl, rfl⟩ := hw3
      have hP : va_P D fq_cl ([(h, .inr (12, [.int (nI rm), .int (fq_b sd), .int (nI ns), .ref aK, .ref aN, .int (nI iw), .int (nI ow), .int (fq_b ih), .int (fq_b oh), .ref aB, .int (nI ca), .int (nI us), .int (fq_b cl), .int (fq_b fl), .ref aS, .int (nI tk), .ref aL, .ref aX, .int (nI md), .int (nI gi), .int (nI su), .int (nI ps), .int (nI cs)])), (aK, .inl (cI, 5, .inl fK)), (aN, .inl (cI, 25, .inl fN)), (aB, .inl (cI, 120, .inl fB)), (aS, .inl (cI, 120, .inl fS)), (aL, .inl (cI, 2300, .inl fL)), (aX, .inl (cI, 2300, .inl fX))]) _ := hP
      have hD : va_D A ([(h, .inr (12, [.int (nI rm), .int (fq_b sd), .int (nI ns), .ref aK, .ref aN, .int (nI iw), .int (nI ow), .int (fq_b ih), .int (fq_b oh), .ref aB, .int (nI ca), .int (nI us), .int (fq_b cl), .int (fq_b fl), .ref aS, .int (nI tk), .ref aL, .ref aX, .int (nI md), .int (nI gi), .int (nI su), .int (nI ps), .int (nI cs)])), (aK, .inl (cI, 5, .inl fK)), (aN, .inl (cI, 25, .inl fN)), (aB, .inl (cI, 120, .inl fB)), (aS, .inl (cI, 120, .inl fS)), (aL, .inl (cI, 2300, .inl fL)), (aX, .inl (cI, 2300, .inl fX))]) := hD
      refine lv_if_eq (tgt := 44) K.1 K.2.1 dc_Mo_section_18 rfl (fun b18 => ?_) (fun b18 => ?_)
      · skip
        have hn : ¬ (((sd = false ∧ ns < 5) ∧ fs_c b0.toInt ∧ fs_c b1.toInt ∧ fs_c b2.toInt ∧ fs_c a1.toInt ∧ fs_c a2.toInt) ∧ is_c a1.toInt a2.toInt) := fun z => fq_z1.mp b18 z.1.2.2.1
        refine lv_iconst (v := 0) K.1 K.2.1 dc_Mo_section_44 (by decide) ?_
        exact fq_retz K hret hlk hS hP hD (by first | exact Or.inl rfl | exact Or.inr rfl) (by rw [if_neg hn]; exact ⟨rfl, rfl⟩) dc_Mo_section_45 (Nat.le_of_ble_eq_true rfl) (Nat.le_of_ble_eq_true rfl)
      · skip
        have hf1 := fq_zp b18
        refine lv_iload_n K.1 K.2.1 dc_Mo_section_21 rfl (lv_at hl 3 rfl) ?_
        have hc := fq_cut.of (wc := []) hP hD hS hA [] (by decide) rfl
        refine fq_ci (wr := [(h, .inr (12, [.int (nI rm), .int (fq_b sd), .int (nI ns), .ref aK, .ref aN, .int (nI iw), .int (nI ow), .int (fq_b ih), .int (fq_b oh), .ref aB, .int (nI ca), .int (nI us), .int (fq_b cl), .int (fq_b fl), .ref aS, .int (nI tk), .ref aL, .ref aX, .int (nI md), .int (nI gi), .int (nI su), .int (nI ps), .int (nI cs)])), (aK, .inl (cI, 5, .inl fK)), (aN, .inl (cI, 25, .inl fN)), (aB, .inl (cI, 120, .inl fB)), (aS, .inl (cI, 120, .inl fS)), (aL, .inl (cI, 2300, .inl fL)), (aX, .inl (cI, 2300, .inl fX))]) (fq_rS K hK hZ hS hc (ct_Mo_small l D cI cO tE b2 _) yk_Mo_small wd_849 wd_848 ⟨⟨rfl, rfl⟩, ⟨Nat.le_of_ble_eq_true rfl, Nat.le_of_ble_eq_true rfl⟩, ⟨Nat.le_of_ble_eq_true rfl, Nat.le_of_ble_eq_true rfl⟩⟩ hl.1 rfl (Nat.le_of_ble_eq_true rfl) dc_Mo_section_22) hP hD hS hc [] [0, 1, 2, 3, 4, 5, 6] rfl rfl (by decide) (by decide) (fun r4 w H locs hw4 hP hD hS => ?_)
        obtain ⟨rfl, rfl⟩ := hw4
        have hP : va_P D fq_cl ([(h, .inr (12, [.int (nI rm), .int (fq_b sd), .int (nI ns), .ref aK, .ref aN, .int (nI iw), .int (nI ow), .int (fq_b ih), .int (fq_b oh), .ref aB, .int (nI ca), .int (nI us), .int (fq_b cl), .int (fq_b fl), .ref aS, .int (nI tk), .ref aL, .ref aX, .int (nI md), .int (nI gi), .int (nI su), .int (nI ps), .int (nI cs)])), (aK, .inl (cI, 5, .inl fK)), (aN, .inl (cI, 25, .inl fN)), (aB, .inl (cI, 120, .inl fB)), (aS, .inl (cI, 120, .inl fS)), (aL, .inl (cI, 2300, .inl fL)), (aX, .inl (cI, 2300, .inl fX))]) _ := hP
        have hD : va_D A ([(h, .inr (12, [.int (nI rm), .int (fq_b sd), .int (nI ns), .ref aK, .ref aN, .int (nI iw), .int (nI ow), .int (fq_b ih), .int (fq_b oh), .ref aB, .int (nI ca), .int (nI us), .int (fq_b cl), .int (fq_b fl), .ref aS, .int (nI tk), .ref aL, .ref aX, .int (nI md), .int (nI gi), .int (nI su), .int (nI ps), .int (nI cs)])), (aK, .inl (cI, 5, .inl fK)), (aN, .inl (cI, 25, .inl fN)), (aB, .inl (cI, 120, .inl fB)), (aS, .inl (cI, 120, .inl fS)), (aL, .inl (cI, 2300, .inl fL)), (aX, .inl (cI, 2300, .inl fX))]) := hD
        refine lv_if_eq (tgt := 44) K.1 K.2.1 dc_Mo_section_25 rfl (fun b25 => ?_) (fun b25 => ?_)
        · skip
          have hn : ¬ (((sd = false ∧ ns < 5) ∧ fs_c b0.toInt ∧ fs_c b1.toInt ∧ fs_c b2.toInt ∧ fs_c a1.toInt ∧ fs_c a2.toInt) ∧ is_c a1.toInt a2.toInt) := fun z => fq_z1.mp b25 z.1.2.2.2.1
          refine lv_iconst (v := 0) K.1 K.2.1 dc_Mo_section_44 (by decide) ?_
          exact fq_retz K hret hlk hS hP hD (by first | exact Or.inl rfl | exact Or.inr rfl) (by rw [if_neg hn]; exact ⟨rfl, rfl⟩) dc_Mo_section_45 (Nat.le_of_ble_eq_true rfl) (Nat.le_of_ble_eq_true rfl)
        · skip
          have hf2 := fq_zp b25
          refine lv_iload K.1 K.2.1 dc_Mo_section_28 (lv_at hl 4 rfl) ?_
          have hc := fq_cut.of (wc := []) hP hD hS hA [] (by decide) rfl
          refine fq_ci (wr := [(h, .inr (12, [.int (nI rm), .int (fq_b sd), .int (nI ns), .ref aK, .ref aN, .int (nI iw), .int (nI ow), .int (fq_b ih), .int (fq_b oh), .ref aB, .int (nI ca), .int (nI us), .int (fq_b cl), .int (fq_b fl), .ref aS, .int (nI tk), .ref aL, .ref aX, .int (nI md), .int (nI gi), .int (nI su), .int (nI ps), .int (nI cs)])), (aK, .inl (cI, 5, .inl fK)), (aN, .inl (cI, 25, .inl fN)), (aB, .inl (cI, 120, .inl fB)), (aS, .inl (cI, 120, .inl fS)), (aL, .inl (cI, 2300, .inl fL)), (aX, .inl (cI, 2300, .inl fX))]) (fq_rS K hK hZ hS hc (ct_Mo_small l D cI cO tE a1 _) yk_Mo_small wd_849 wd_848 ⟨⟨rfl, rfl⟩, ⟨Nat.le_of_ble_eq_true rfl, Nat.le_of_ble_eq_true rfl⟩, ⟨Nat.le_of_ble_eq_true rfl, Nat.le_of_ble_eq_true rfl⟩⟩ hl.1 rfl (Nat.le_of_ble_eq_true rfl) dc_Mo_section_30) hP hD hS hc [] [0, 1, 2, 3, 4, 5, 6] rfl rfl (by decide) (by decide) (fun r5 w H locs hw5 hP hD hS => ?_)
          obtain ⟨rfl, rfl⟩ := hw5
          have hP : va_P D fq_cl ([(h, .inr (12, [.int (nI rm), .int (fq_b sd), .int (nI ns), .ref aK, .ref aN, .int (nI iw), .int (nI ow), .int (fq_b ih), .int (fq_b oh), .ref aB, .int (nI ca), .int (nI us), .int (fq_b cl), .int (fq_b fl), .ref aS, .int (nI tk), .ref aL, .ref aX, .int (nI md), .int (nI gi), .int (nI su), .int (nI ps), .int (nI cs)])), (aK, .inl (cI, 5, .inl fK)), (aN, .inl (cI, 25, .inl fN)), (aB, .inl (cI, 120, .inl fB)), (aS, .inl (cI, 120, .inl fS)), (aL, .inl (cI, 2300, .inl fL)), (aX, .inl (cI, 2300, .inl fX))]) _ := hP
          have hD : va_D A ([(h, .inr (12, [.int (nI rm), .int (fq_b sd), .int (nI ns), .ref aK, .ref aN, .int (nI iw), .int (nI ow), .int (fq_b ih), .int (fq_b oh), .ref aB, .int (nI ca), .int (nI us), .int (fq_b cl), .int (fq_b fl), .ref aS, .int (nI tk), .ref aL, .ref aX, .int (nI md), .int (nI gi), .int (nI su), .int (nI ps), .int (nI cs)])), (aK, .inl (cI, 5, .inl fK)), (aN, .inl (cI, 25, .inl fN)), (aB, .inl (cI, 120, .inl fB)), (aS, .inl (cI, 120, .inl fS)), (aL, .inl (cI, 2300, .inl fL)), (aX, .inl (cI, 2300, .inl fX))]) := hD
          refine lv_if_eq (tgt := 44) K.1 K.2.1 dc_Mo_section_33 rfl (fun b33 => ?_) (fun b33 => ?_)
          · skip
            have hn : ¬ (((sd = false ∧ ns < 5) ∧ fs_c b0.toInt ∧ fs_c b1.toInt ∧ fs_c b2.toInt ∧ fs_c a1.toInt ∧ fs_c a2.toInt) ∧ is_c a1.toInt a2.toInt) := fun z => fq_z1.mp b33 z.1.2.2.2.2.1
            refine lv_iconst (v := 0) K.1 K.2.1 dc_Mo_section_44 (by decide) ?_
            exact fq_retz K hret hlk hS hP hD (by first | exact Or.inl rfl | exact Or.inr rfl) (by rw [if_neg hn]; exact ⟨rfl, rfl⟩) dc_Mo_section_45 (Nat.le_of_ble_eq_true rfl) (Nat.le_of_ble_eq_true rfl)
          · skip
            have hf3 := fq_zp b33
            refine lv_iload K.1 K.2.1 dc_Mo_section_36 (lv_at hl 5 rfl) ?_
            have hc := fq_cut.of (wc := []) hP hD hS hA [] (by decide) rfl
            refine fq_ci (wr := [(h, .inr (12, [.int (nI rm), .int (fq_b sd), .int (nI ns), .ref aK, .ref aN, .int (nI iw), .int (nI ow), .int (fq_b ih), .int (fq_b oh), .ref aB, .int (nI ca), .int (nI us), .int (fq_b cl), .int (fq_b fl), .ref aS, .int (nI tk), .ref aL, .ref aX, .int (nI md), .int (nI gi), .int (nI su), .int (nI ps), .int (nI cs)])), (aK, .inl (cI, 5, .inl fK)), (aN, .inl (cI, 25, .inl fN)), (aB, .inl (cI, 120, .inl fB)), (aS, .inl (cI, 120, .inl fS)), (aL, .inl (cI, 2300, .inl fL)), (aX, .inl (cI, 2300, .inl fX))]) (fq_rS K hK hZ hS hc (ct_Mo_small l D cI cO tE a2 _) yk_Mo_small wd_849 wd_848 ⟨⟨rfl, rfl⟩, ⟨Nat.le_of_ble_eq_true rfl, Nat.le_of_ble_eq_true rfl⟩, ⟨Nat.le_of_ble_eq_true rfl, Nat.le_of_ble_eq_true rfl⟩⟩ hl.1 rfl (Nat.le_of_ble_eq_true rfl) dc_Mo_section_38) hP hD hS hc [] [0, 1, 2, 3, 4, 5, 6] rfl rfl (by decide) (by decide) (fun r6 w H locs hw6 hP hD hS => ?_)
            obtain ⟨rfl, rfl⟩ := hw6
            have hP : va_P D fq_cl ([(h, .inr (12, [.int (nI rm), .int (fq_b sd), .int (nI ns), .ref aK, .ref aN, .int (nI iw), .int (nI ow), .int (fq_b ih), .int (fq_b oh), .ref aB, .int (nI ca), .int (nI us), .int (fq_b cl), .int (fq_b fl), .ref aS, .int (nI tk), .ref aL, .ref aX, .int (nI md), .int (nI gi), .int (nI su), .int (nI ps), .int (nI cs)])), (aK, .inl (cI, 5, .inl fK)), (aN, .inl (cI, 25, .inl fN)), (aB, .inl (cI, 120, .inl fB)), (aS, .inl (cI, 120, .inl fS)), (aL, .inl (cI, 2300, .inl fL)), (aX, .inl (cI, 2300, .inl fX))]) _ := hP
            have hD : va_D A ([(h, .inr (12, [.int (nI rm), .int (fq_b sd), .int (nI ns), .ref aK, .ref aN, .int (nI iw), .int (nI ow), .int (fq_b ih), .int (fq_b oh), .ref aB, .int (nI ca), .int (nI us), .int (fq_b cl), .int (fq_b fl), .ref aS, .int (nI tk), .ref aL, .ref aX, .int (nI md), .int (nI gi), .int (nI su), .int (nI ps), .int (nI cs)])), (aK, .inl (cI, 5, .inl fK)), (aN, .inl (cI, 25, .inl fN)), (aB, .inl (cI, 120, .inl fB)), (aS, .inl (cI, 120, .inl fS)), (aL, .inl (cI, 2300, .inl fL)), (aX, .inl (cI, 2300, .inl fX))]) := hD
            refine lv_if_ne (tgt := 46) K.1 K.2.1 dc_Mo_section_41 rfl (fun b41 => ?_) (fun b41 => ?_)
            · skip
              have hf4 := fq_zp b41
              have hp := sa_p hf4
              refine lv_iload K.1 K.2.1 dc_Mo_section_46 (lv_at hl 5 rfl) ?_
              refine lv_sipush (v := (-16384)) K.1 K.2.1 dc_Mo_section_48 (by decide) ?_
              refine lv_icmp_le (tgt := 85) K.1 K.2.1 dc_Mo_section_51 rfl (fun b51 => ?_) (fun b51 => ?_)
              · skip
                rw [Int32.le_iff_toInt_le, show (-16384 : Int32).toInt = -16384 by decide] at b51
                have hn : ¬ (((sd = false ∧ ns < 5) ∧ fs_c b0.toInt ∧ fs_c b1.toInt ∧ fs_c b2.toInt ∧ fs_c a1.toInt ∧ fs_c a2.toInt) ∧ is_c a1.toInt a2.toInt) := fun z => by have := z.2; unfold is_c at this; omega
                refine lv_iconst (v := 0) K.1 K.2.1 dc_Mo_section_85 (by decide) ?_
                exact fq_retz K hret hlk hS hP hD (by first | exact Or.inl rfl | exact Or.inr rfl) (by rw [if_neg hn]; exact ⟨rfl, rfl⟩) dc_Mo_section_86 (Nat.le_of_ble_eq_true rfl) (Nat.le_of_ble_eq_true rfl)
              · skip
                rw [Int32.le_iff_toInt_le, show (-16384 : Int32).toInt = -16384 by decide] at b51
                refine lv_iload K.1 K.2.1 dc_Mo_section_54 (lv_at hl 5 rfl) ?_
                refine lv_sipush (v := 16384) K.1 K.2.1 dc_Mo_section_56 (by decide) ?_
                refine lv_icmp_ge (tgt := 85) K.1 K.2.1 dc_Mo_section_59 rfl (fun b59 => ?_) (fun b59 => ?_)
                · skip
                  rw [Int32.le_iff_toInt_le, show (16384 : Int32).toInt = 16384 by decide] at b59
                  have hn : ¬ (((sd = false ∧ ns < 5) ∧ fs_c b0.toInt ∧ fs_c b1.toInt ∧ fs_c b2.toInt ∧ fs_c a1.toInt ∧ fs_c a2.toInt) ∧ is_c a1.toInt a2.toInt) := fun z => by have := z.2; unfold is_c at this; omega
                  refine lv_iconst (v := 0) K.1 K.2.1 dc_Mo_section_85 (by decide) ?_
                  exact fq_retz K hret hlk hS hP hD (by first | exact Or.inl rfl | exact Or.inr rfl) (by rw [if_neg hn]; exact ⟨rfl, rfl⟩) dc_Mo_section_86 (Nat.le_of_ble_eq_true rfl) (Nat.le_of_ble_eq_true rfl)
                · skip
                  rw [Int32.le_iff_toInt_le, show (16384 : Int32).toInt = 16384 by decide] at b59
                  refine lv_iload K.1 K.2.1 dc_Mo_section_62 (lv_at hl 4 rfl) ?_
                  refine lv_sipush (v := 16384) K.1 K.2.1 dc_Mo_section_64 (by decide) ?_
                  refine lv_iload K.1 K.2.1 dc_Mo_section_67 (lv_at hl 5 rfl) ?_
                  refine lv_iadd K.1 K.2.1 dc_Mo_section_69 ?_
                  refine lv_ineg K.1 K.2.1 dc_Mo_section_70 ?_
                  refine lv_icmp_le (tgt := 85) K.1 K.2.1 dc_Mo_section_71 rfl (fun b71 => ?_) (fun b71 => ?_)
                  · skip
                    rw [Int32.le_iff_toInt_le, hp.2] at b71
                    have hn : ¬ (((sd = false ∧ ns < 5) ∧ fs_c b0.toInt ∧ fs_c b1.toInt ∧ fs_c b2.toInt ∧ fs_c a1.toInt ∧ fs_c a2.toInt) ∧ is_c a1.toInt a2.toInt) := fun z => by have := z.2; unfold is_c at this; omega
                    refine lv_iconst (v := 0) K.1 K.2.1 dc_Mo_section_85 (by decide) ?_
                    exact fq_retz K hret hlk hS hP hD (by first | exact Or.inl rfl | exact Or.inr rfl) (by rw [if_neg hn]; exact ⟨rfl, rfl⟩) dc_Mo_section_86 (Nat.le_of_ble_eq_true rfl) (Nat.le_of_ble_eq_true rfl)
                  · skip
                    rw [Int32.le_iff_toInt_le, hp.2] at b71
                    refine lv_iload K.1 K.2.1 dc_Mo_section_74 (lv_at hl 4 rfl) ?_
                    refine lv_sipush (v := 16384) K.1 K.2.1 dc_Mo_section_76 (by decide) ?_
                    refine lv_iload K.1 K.2.1 dc_Mo_section_79 (lv_at hl 5 rfl) ?_
                    refine lv_iadd K.1 K.2.1 dc_Mo_section_81 ?_
                    refine lv_icmp_lt (tgt := 87) K.1 K.2.1 dc_Mo_section_82 rfl (fun b82 => ?_) (fun b82 => ?_)
                    · skip
                      rw [Int32.lt_iff_toInt_lt, hp.1] at b82
                      have hx : ((sd = false ∧ ns < 5) ∧ fs_c b0.toInt ∧ fs_c b1.toInt ∧ fs_c b2.toInt ∧ fs_c a1.toInt ∧ fs_c a2.toInt) ∧ is_c a1.toInt a2.toInt := ⟨⟨hca, hf0, hf1, hf2, hf3, hf4⟩, by unfold is_c; omega⟩
                      refine lv_aload_n K.1 K.2.1 dc_Mo_section_87 rfl (lv_at hl 0 rfl) ?_
                      refine lv_iconst (v := 0) K.1 K.2.1 dc_Mo_section_88 (by decide) ?_
                      refine lv_iload_n K.1 K.2.1 dc_Mo_section_89 rfl (lv_at hl 1 rfl) ?_
                      refine lv_iload_n K.1 K.2.1 dc_Mo_section_90 rfl (lv_at hl 2 rfl) ?_
                      refine lv_iload_n K.1 K.2.1 dc_Mo_section_91 rfl (lv_at hl 3 rfl) ?_
                      refine lv_iload K.1 K.2.1 dc_Mo_section_92 (lv_at hl 4 rfl) ?_
                      refine lv_iload K.1 K.2.1 dc_Mo_section_94 (lv_at hl 5 rfl) ?_
                      have hc := fq_cut.of (wc := [(h, .inr (12, [.int (nI rm), .int (fq_b sd), .int (nI ns), .ref aK, .ref aN, .int (nI iw), .int (nI ow), .int (fq_b ih), .int (fq_b oh), .ref aB, .int (nI ca), .int (nI us), .int (fq_b cl), .int (fq_b fl), .ref aS, .int (nI tk), .ref aL, .ref aX, .int (nI md), .int (nI gi), .int (nI su), .int (nI ps), .int (nI cs)])), (aK, .inl (cI, 5, .inl fK)), (aN, .inl (cI, 25, .inl fN)), (aB, .inl (cI, 120, .inl fB)), (aS, .inl (cI, 120, .inl fS)), (aL, .inl (cI, 2300, .inl fL)), (aX, .inl (cI, 2300, .inl fX))]) hP hD hS hA [0, 1, 2, 3, 4, 5, 6] (by decide) rfl
                      refine fq_cv (wr := []) (fq_rV K hK hZ hS hc (ct_Mo_add l D cI cO tE h aK aN aB aS aL aX rm sd ns iw ow ih oh ca us cl fl tk md gi su ps cs fK fN fB fS fL fX 0 b0 b1 b2 a1 a2 hca.2 _) yk_Mo_add wd_853 wd_14 wd_851 0 rfl rfl rfl ⟨⟨rfl, rfl⟩, ⟨Nat.le_of_ble_eq_true rfl, Nat.le_of_ble_eq_true rfl⟩, ⟨Nat.le_of_ble_eq_true rfl, Nat.le_of_ble_eq_true rfl⟩⟩ hl.1 rfl (Nat.le_of_ble_eq_true rfl) dc_Mo_section_96) hP hD hS hc [0, 1, 2, 3, 4, 5, 6] [] rfl rfl (by decide) (by decide) (fun  w H locs hw7 hP hD hS => ?_)
                      subst hw7
                      have hP : va_P D fq_cl ([(h, .inr (12, [.int (nI rm), .int (fq_b sd), .int (nI (ns + 1)), .ref aK, .ref aN, .int (nI iw), .int (nI ow), .int (fq_b ih), .int (fq_b oh), .ref aB, .int (nI ca), .int (nI us), .int (fq_b cl), .int (fq_b fl), .ref aS, .int (nI tk), .ref aL, .ref aX, .int (nI md), .int (nI gi), .int (nI su), .int (nI ps), .int (nI cs)])), (aK, .inl (cI, 5, .inl (upd fK ns 0))), (aN, .inl (cI, 25, .inl (upd (upd (upd (upd (upd fN (5 * ns) b0) (5 * ns + 1) b1) (5 * ns + 2) b2) (5 * ns + 3) a1) (5 * ns + 4) a2))), (aB, .inl (cI, 120, .inl fB)), (aS, .inl (cI, 120, .inl fS)), (aL, .inl (cI, 2300, .inl fL)), (aX, .inl (cI, 2300, .inl fX))]) _ := hP
                      have hD : va_D A ([(h, .inr (12, [.int (nI rm), .int (fq_b sd), .int (nI (ns + 1)), .ref aK, .ref aN, .int (nI iw), .int (nI ow), .int (fq_b ih), .int (fq_b oh), .ref aB, .int (nI ca), .int (nI us), .int (fq_b cl), .int (fq_b fl), .ref aS, .int (nI tk), .ref aL, .ref aX, .int (nI md), .int (nI gi), .int (nI su), .int (nI ps), .int (nI cs)])), (aK, .inl (cI, 5, .inl (upd fK ns 0))), (aN, .inl (cI, 25, .inl (upd (upd (upd (upd (upd fN (5 * ns) b0) (5 * ns + 1) b1) (5 * ns + 2) b2) (5 * ns + 3) a1) (5 * ns + 4) a2))), (aB, .inl (cI, 120, .inl fB)), (aS, .inl (cI, 120, .inl fS)), (aL, .inl (cI, 2300, .inl fL)), (aX, .inl (cI, 2300, .inl fX))]) := hD
                      refine lv_iconst (v := 1) K.1 K.2.1 dc_Mo_section_99 (by decide) ?_
                      exact fq_retz K hret hlk hS hP hD (by first | exact Or.inl rfl | exact Or.inr rfl) (by rw [if_pos hx]; exact ⟨rfl, rfl⟩) dc_Mo_section_100 (Nat.le_of_ble_eq_true rfl) (Nat.le_of_ble_eq_true rfl)
                    · skip
                      rw [Int32.lt_iff_toInt_lt, hp.1] at b82
                      have hn : ¬ (((sd = false ∧ ns < 5) ∧ fs_c b0.toInt ∧ fs_c b1.toInt ∧ fs_c b2.toInt ∧ fs_c a1.toInt ∧ fs_c a2.toInt) ∧ is_c a1.toInt a2.toInt) := fun z => by have := z.2; unfold is_c at this; omega
                      refine lv_iconst (v := 0) K.1 K.2.1 dc_Mo_section_85 (by decide) ?_
                      exact fq_retz K hret hlk hS hP hD (by first | exact Or.inl rfl | exact Or.inr rfl) (by rw [if_neg hn]; exact ⟨rfl, rfl⟩) dc_Mo_section_86 (Nat.le_of_ble_eq_true rfl) (Nat.le_of_ble_eq_true rfl)
            · skip
              have hn : ¬ (((sd = false ∧ ns < 5) ∧ fs_c b0.toInt ∧ fs_c b1.toInt ∧ fs_c b2.toInt ∧ fs_c a1.toInt ∧ fs_c a2.toInt) ∧ is_c a1.toInt a2.toInt) := fun z => fq_z1.mp b41 z.1.2.2.2.2.2
              refine lv_iconst (v := 0) K.1 K.2.1 dc_Mo_section_44 (by decide) ?_
              exact fq_retz K hret hlk hS hP hD (by first | exact Or.inl rfl | exact Or.inr rfl) (by rw [if_neg hn]; exact ⟨rfl, rfl⟩) dc_Mo_section_45 (Nat.le_of_ble_eq_true rfl) (Nat.le_of_ble_eq_true rfl)
set_option maxHeartbeats 4000000 in
set_option maxRecDepth 100000 in
theorem ct_Mo_halfPower (l : Launch) (D : va_G) (cI cO : ClassId) (tE : Nat) (h aK aN aB aS aL aX : Nat) (rm : Nat) (sd : Bool) (ns : Nat) (iw : Nat) (ow : Nat) (ih : Bool) (oh : Bool) (ca : Nat) (us : Nat) (cl : Bool) (fl : Bool) (tk : Nat) (md : Nat) (gi : Nat) (su : Nat) (ps : Nat) (cs : Nat) (fK fN fB fS fL fX : Nat → Int32) (x : Int32) (hb : Bool) (hns : ns ≤ 5) (sz : Nat) : Met l my_Mo_halfPower (fq_w my_Mo_halfPower cb_Mo_halfPower 10 (some .boolean)) ({ frames := 2, cells := 0, slots := 0, locals := 48 }) (va_Pc ([.ref h, .int x, .int (fq_b hb)]) (fq_Pre D cI cO tE sz ([(h, .inr (12, [.int (nI rm), .int (fq_b sd), .int (nI ns), .ref aK, .ref aN, .int (nI iw), .int (nI ow), .int (fq_b ih), .int (fq_b oh), .ref aB, .int (nI ca), .int (nI us), .int (fq_b cl), .int (fq_b fl), .ref aS, .int (nI tk), .ref aL, .ref aX, .int (nI md), .int (nI gi), .int (nI su), .int (nI ps), .int (nI cs)])), (aK, .inl (cI, 5, .inl fK)), (aN, .inl (cI, 25, .inl fN)), (aB, .inl (cI, 120, .inl fB)), (aS, .inl (cI, 120, .inl fS)), (aL, .inl (cI, 2300, .inl fL)), (aX, .inl (cI, 2300, .inl fX))]))) (va_Qi (S := va_W) (fun r w => if (sd = false ∧ ns < 5) ∧ 1 ≤ x.toInt ∧ x.toInt ≤ 96 then r = 1 ∧ ∃ b0 b1 a1 a2 : Int32, hp_r x hb b0 b1 a1 a2 ∧ w = [(h, .inr (12, [.int (nI rm), .int (fq_b sd), .int (nI (ns + 1)), .ref aK, .ref aN, .int (nI iw), .int (nI ow), .int (fq_b ih), .int (fq_b oh), .ref aB, .int (nI ca), .int (nI us), .int (fq_b cl), .int (fq_b fl), .ref aS, .int (nI tk), .ref aL, .ref aX, .int (nI md), .int (nI gi), .int (nI su), .int (nI ps), .int (nI cs)])), (aK, .inl (cI, 5, .inl (upd fK ns 0))), (aN, .inl (cI, 25, .inl (upd (upd (upd (upd (upd fN (5 * ns) b0) (5 * ns + 1) b1) (5 * ns + 2) b0) (5 * ns + 3) a1) (5 * ns + 4) a2))), (aB, .inl (cI, 120, .inl fB)), (aS, .inl (cI, 120, .inl fS)), (aL, .inl (cI, 2300, .inl fL)), (aX, .inl (cI, 2300, .inl fX))] else r = 0 ∧ w = [(h, .inr (12, [.int (nI rm), .int (fq_b sd), .int (nI ns), .ref aK, .ref aN, .int (nI iw), .int (nI ow), .int (fq_b ih), .int (fq_b oh), .ref aB, .int (nI ca), .int (nI us), .int (fq_b cl), .int (fq_b fl), .ref aS, .int (nI tk), .ref aL, .ref aX, .int (nI md), .int (nI gi), .int (nI su), .int (nI ps), .int (nI cs)])), (aK, .inl (cI, 5, .inl fK)), (aN, .inl (cI, 25, .inl fN)), (aB, .inl (cI, 120, .inl fB)), (aS, .inl (cI, 120, .inl fS)), (aL, .inl (cI, 2300, .inl fL)), (aX, .inl (cI, 2300, .inl fX))]) (fq_Bw D (va_A ([(h, .inr (12, [.int (nI rm), .int (fq_b sd), .int (nI ns), .ref aK, .ref aN, .int (nI iw), .int (nI ow), .int (fq_b ih), .int (fq_b oh), .ref aB, .int (nI ca), .int (nI us), .int (fq_b cl), .int (fq_b fl), .ref aS, .int (nI tk), .ref aL, .ref aX, .int (nI md), .int (nI gi), .int (nI su), .int (nI ps), .int (nI cs)])), (aK, .inl (cI, 5, .inl fK)), (aN, .inl (cI, 25, .inl fN)), (aB, .inl (cI, 120, .inl fB)), (aS, .inl (cI, 120, .inl fS)), (aL, .inl (cI, 2300, .inl fL)), (aX, .inl (cI, 2300, .inl fX))]) sz)) (va_A ([(h, .inr (12, [.int (nI rm), .int (fq_b sd), .int (nI ns), .ref aK, .ref aN, .int (nI iw), .int (nI ow), .int (fq_b ih), .int (fq_b oh), .ref aB, .int (nI ca), .int (nI us), .int (fq_b cl), .int (fq_b fl), .ref aS, .int (nI tk), .ref aL, .ref aX, .int (nI md), .int (nI gi), .int (nI su), .int (nI ps), .int (nI cs)])), (aK, .inl (cI, 5, .inl fK)), (aN, .inl (cI, 25, .inl fN)), (aB, .inl (cI, 120, .inl fB)), (aS, .inl (cI, 120, .inl fS)), (aL, .inl (cI, 2300, .inl fL)), (aX, .inl (cI, 2300, .inl fX))]) sz)) (0) (0) (va_A ([(h, .inr (12, [.int (nI rm), .int (fq_b sd), .int (nI ns), .ref aK, .ref aN, .int (nI iw), .int (nI ow), .int (fq_b ih), .int (fq_b oh), .ref aB, .int (nI ca), .int (nI us), .int (fq_b cl), .int (fq_b fl), .ref aS, .int (nI tk), .ref aL, .ref aX, .int (nI md), .int (nI gi), .int (nI su), .int (nI ps), .int (nI cs)])), (aK, .inl (cI, 5, .inl fK)), (aN, .inl (cI, 25, .inl fN)), (aB, .inl (cI, 120, .inl fB)), (aS, .inl (cI, 120, .inl fS)), (aL, .inl (cI, 2300, .inl fL)), (aX, .inl (cI, 2300, .inl fX))]) sz) := by
  refine fq_open (by decide +kernel) (Nat.le_of_ble_eq_true rfl) ?_
  intro pg ev s mt below meth cd ls K hret hlk hin hK hZ hP hD hA hS hl
  generalize va_A ([(h, .inr (12, [.int (nI rm), .int (fq_b sd), .int (nI ns), .ref aK, .ref aN, .int (nI iw), .int (nI ow), .int (fq_b ih), .int (fq_b oh), .ref aB, .int (nI ca), .int (nI us), .int (fq_b cl), .int (fq_b fl), .ref aS, .int (nI tk), .ref aL, .ref aX, .int (nI md), .int (nI gi), .int (nI su), .int (nI ps), .int (nI cs)])), (aK, .inl (cI, 5, .inl fK)), (aN, .inl (cI, 25, .inl fN)), (aB, .inl (cI, 120, .inl fB)), (aS, .inl (cI, 120, .inl fS)), (aL, .inl (cI, 2300, .inl fL)), (aX, .inl (cI, 2300, .inl fX))]) sz = A at hZ hD hA hS ⊢
  have K : fq_Ctx pg mt cd cb_Mo_halfPower 10 s _ cn_Mo := K
  have hl : lv_has ls 10 [(0, .ref h), (1, .int x), (2, .int (fq_b hb))] := hl
  refine lv_aload_n K.1 K.2.1 dc_Mo_halfPower_0 rfl (lv_at hl 0 rfl) ?_
  have hc := fq_cut.of (wc := [(h, .inr (12, [.int (nI rm), .int (fq_b sd), .int (nI ns), .ref aK, .ref aN, .int (nI iw), .int (nI ow), .int (fq_b ih), .int (fq_b oh), .ref aB, .int (nI ca), .int (nI us), .int (fq_b cl), .int (fq_b fl), .ref aS, .int (nI tk), .ref aL, .ref aX, .int (nI md), .int (nI gi), .int (nI su), .int (nI ps), .int (nI cs)])), (aK, .inl (cI, 5, .inl fK)), (aN, .inl (cI, 25, .inl fN)), (aB, .inl (cI, 120, .inl fB)), (aS, .inl (cI, 120, .inl fS)), (aL, .inl (cI, 2300, .inl fL)), (aX, .inl (cI, 2300, .inl fX))]) hP hD hS hA [0, 1, 2, 3, 4, 5, 6] (by decide) rfl
  refine fq_ci (wr := []) (fq_rV K hK hZ hS hc (ct_Mo_canAdd l D cI cO tE h aK aN aB aS aL aX rm sd ns iw ow ih oh ca us cl fl tk md gi su ps cs fK fN fB fS fL fX hns _) yk_Mo_canAdd wd_846 wd_13 wd_844 0 rfl rfl rfl ⟨⟨rfl, rfl⟩, ⟨Nat.le_of_ble_eq_true rfl, Nat.le_of_ble_eq_true rfl⟩, ⟨Nat.le_of_ble_eq_true rfl, Nat.le_of_ble_eq_true rfl⟩⟩ hl.1 rfl (Nat.le_of_ble_eq_true rfl) dc_Mo_halfPower_1) hP hD hS hc [0, 1, 2, 3, 4, 5, 6] [] rfl rfl (by decide) (by decide) (fun r1 w H locs hw1 hP hD hS => ?_)
  obtain ⟨rfl, rfl⟩ := hw1
  have hP : va_P D fq_cl ([(h, .inr (12, [.int (nI rm), .int (fq_b sd), .int (nI ns), .ref aK, .ref aN, .int (nI iw), .int (nI ow), .int (fq_b ih), .int (fq_b oh), .ref aB, .int (nI ca), .int (nI us), .int (fq_b cl), .int (fq_b fl), .ref aS, .int (nI tk), .ref aL, .ref aX, .int (nI md), .int (nI gi), .int (nI su), .int (nI ps), .int (nI cs)])), (aK, .inl (cI, 5, .inl fK)), (aN, .inl (cI, 25, .inl fN)), (aB, .inl (cI, 120, .inl fB)), (aS, .inl (cI, 120, .inl fS)), (aL, .inl (cI, 2300, .inl fL)), (aX, .inl (cI, 2300, .inl fX))]) _ := hP
  have hD : va_D A ([(h, .inr (12, [.int (nI rm), .int (fq_b sd), .int (nI ns), .ref aK, .ref aN, .int (nI iw), .int (nI ow), .int (fq_b ih), .int (fq_b oh), .ref aB, .int (nI ca), .int (nI us), .int (fq_b cl), .int (fq_b fl), .ref aS, .int (nI tk), .ref aL, .ref aX, .int (nI md), .int (nI gi), .int (nI su), .int (nI ps), .int (nI cs)])), (aK, .inl (cI, 5, .inl fK)), (aN, .inl (cI, 25, .inl fN)), (aB, .inl (cI, 120, .inl fB)), (aS, .inl (cI, 120, .inl fS)), (aL, .inl (cI, 2300, .inl fL)), (aX, .inl (cI, 2300, .inl fX))]) := hD
  refine lv_if_eq (tgt := 18) K.1 K.2.1 dc_Mo_halfPower_4 rfl (fun b4 => ?_) (fun b4 => ?_)
  · skip
    have hn : ¬ ((sd = false ∧ ns < 5) ∧ 1 ≤ x.toInt ∧ x.toInt ≤ 96) := fun z => fq_z1.mp b4 z.1
    refine lv_iconst (v := 0) K.1 K.2.1 dc_Mo_halfPower_18 (by decide) ?_
    exact fq_retz K hret hlk hS hP hD (by first | exact Or.inl rfl | exact Or.inr rfl) (by rw [if_neg hn]; exact ⟨rfl, rfl⟩) dc_Mo_halfPower_19 (Nat.le_of_ble_eq_true rfl) (Nat.le_of_ble_eq_true rfl)
  · skip
    have hca := fq_zp b4
    refine lv_iload_n K.1 K.2.1 dc_Mo_halfPower_7 rfl (lv_at hl 1 rfl) ?_
    refine lv_iconst (v := 1) K.1 K.2.1 dc_Mo_halfPower_8 (by decide) ?_
    refine lv_icmp_lt (tgt := 18) K.1 K.2.1 dc_Mo_halfPower_9 rfl (fun b9 => ?_) (fun b9 => ?_)
    · skip
      rw [Int32.lt_iff_toInt_lt, show (1 : Int32).toInt = 1 by decide] at b9
      have hn : ¬ ((sd = false ∧ ns < 5) ∧ 1 ≤ x.toInt ∧ x.toInt ≤ 96) := fun z => by have := z.2; omega
      refine lv_iconst (v := 0) K.1 K.2.1 dc_Mo_halfPower_18 (by decide) ?_
      exact fq_retz K hret hlk hS hP hD (by first | exact Or.inl rfl | exact Or.inr rfl) (by rw [if_neg hn]; exact ⟨rfl, rfl⟩) dc_Mo_halfPower_19 (Nat.le_of_ble_eq_true rfl) (Nat.le_of_ble_eq_true rfl)
    · skip
      rw [Int32.lt_iff_toInt_lt, show (1 : Int32).toInt = 1 by decide] at b9
      refine lv_iload_n K.1 K.2.1 dc_Mo_halfPower_12 rfl (lv_at hl 1 rfl) ?_
      refine lv_bipush (v := 96) K.1 K.2.1 dc_Mo_halfPower_13 (by decide) ?_
      refine lv_icmp_le (tgt := 20) K.1 K.2.1 dc_Mo_halfPower_15 rfl (fun b15 => ?_) (fun b15 => ?_)
      · skip
        rw [Int32.le_iff_toInt_le, show (96 : Int32).toInt = 96 by decide] at b15
        have hp := hp_all (x := x) (by omega) (by omega)
        refine lv_iload_n K.1 K.2.1 dc_Mo_halfPower_20 rfl (lv_at hl 1 rfl) ?_
        refine lv_i2l K.1 K.2.1 dc_Mo_halfPower_21 rfl ?_
        refine lv_iload_n K.1 K.2.1 dc_Mo_halfPower_22 rfl (lv_at hl 1 rfl) ?_
        refine lv_i2l K.1 K.2.1 dc_Mo_halfPower_23 rfl ?_
        refine lv_lmul K.1 K.2.1 dc_Mo_halfPower_24 ?_
        refine lv_topl (fun v1 e_v1 => ?_)
        refine lv_lstore_n K.1 K.2.1 dc_Mo_halfPower_25 rfl hl (by decide) rfl (fun ls hl => ?_)
        have hl : lv_has ls 10 [(3, .long v1), (0, .ref h), (1, .int x), (2, .int (fq_b hb))] := hl
        refine lv_ldc2 (v := 65536) K.1 K.2.1 K.2.2.2.1 (K.2.2.2.2 _ wd_859) dc_Mo_halfPower_26 ?_
        refine lv_ldc2 (v := 256) K.1 K.2.1 K.2.2.2.1 (K.2.2.2.2 _ wd_860) dc_Mo_halfPower_29 ?_
        refine lv_lload_n K.1 K.2.1 dc_Mo_halfPower_32 rfl (lv_at hl 0 rfl) ?_
        refine lv_ladd K.1 K.2.1 dc_Mo_halfPower_33 ?_
        refine lv_lmul K.1 K.2.1 dc_Mo_halfPower_34 ?_
        refine lv_ldc2 (v := 1482912) K.1 K.2.1 K.2.2.2.1 (K.2.2.2.2 _ wd_861) dc_Mo_halfPower_35 ?_
        refine lv_iload_n K.1 K.2.1 dc_Mo_halfPower_38 rfl (lv_at hl 2 rfl) ?_
        refine lv_i2l K.1 K.2.1 dc_Mo_halfPower_39 rfl ?_
        refine lv_lmul K.1 K.2.1 dc_Mo_halfPower_40 ?_
        refine lv_ladd K.1 K.2.1 dc_Mo_halfPower_41 ?_
        refine lv_topl (fun v2 e_v2 => ?_)
        refine lv_lstore K.1 K.2.1 dc_Mo_halfPower_42 hl (by decide) rfl (fun ls hl => ?_)
        have hl : lv_has ls 10 [(5, .long v2), (3, .long v1), (0, .ref h), (1, .int x), (2, .int (fq_b hb))] := hl
        refine lv_iload_n K.1 K.2.1 dc_Mo_halfPower_44 rfl (lv_at hl 4 rfl) ?_
        refine lv_if_eq (tgt := 59) K.1 K.2.1 dc_Mo_halfPower_45 rfl (fun b45 => ?_) (fun b45 => ?_)
        · skip
          have hbb := fq_b0 b45
          refine lv_ldc2 (v := 1073741824) K.1 K.2.1 K.2.2.2.1 (K.2.2.2.2 _ wd_870) dc_Mo_halfPower_59 ?_
          refine lv_lload_n K.1 K.2.1 dc_Mo_halfPower_62 rfl (lv_at hl 1 rfl) ?_
          refine lv_lmul K.1 K.2.1 dc_Mo_halfPower_63 ?_
          refine lv_lload K.1 K.2.1 dc_Mo_halfPower_64 (lv_at hl 0 rfl) ?_
          have hc := fq_cut.of (wc := []) hP hD hS hA [] (by decide) rfl
          refine fq_ci (wr := [(h, .inr (12, [.int (nI rm), .int (fq_b sd), .int (nI ns), .ref aK, .ref aN, .int (nI iw), .int (nI ow), .int (fq_b ih), .int (fq_b oh), .ref aB, .int (nI ca), .int (nI us), .int (fq_b cl), .int (fq_b fl), .ref aS, .int (nI tk), .ref aL, .ref aX, .int (nI md), .int (nI gi), .int (nI su), .int (nI ps), .int (nI cs)])), (aK, .inl (cI, 5, .inl fK)), (aN, .inl (cI, 25, .inl fN)), (aB, .inl (cI, 120, .inl fB)), (aS, .inl (cI, 120, .inl fS)), (aL, .inl (cI, 2300, .inl fL)), (aX, .inl (cI, 2300, .inl fX))]) (fq_rS K hK hZ hS hc (ct_Mo_near l D cI cO tE (1073741824 * v1) v2 (by simp only [e_v1, e_v2]; exact hp.2.1) _) yk_Mo_near wd_864 wd_863 ⟨⟨rfl, rfl⟩, ⟨Nat.le_of_ble_eq_true rfl, Nat.le_of_ble_eq_true rfl⟩, ⟨Nat.le_of_ble_eq_true rfl, Nat.le_of_ble_eq_true rfl⟩⟩ hl.1 rfl (Nat.le_of_ble_eq_true rfl) dc_Mo_halfPower_66) hP hD hS hc [] [0, 1, 2, 3, 4, 5, 6] rfl rfl (by decide) (by decide) (fun r2 w H locs hw2 hP hD hS => ?_)
          obtain ⟨rfl, hd1⟩ := hw2
          have hP : va_P D fq_cl ([(h, .inr (12, [.int (nI rm), .int (fq_b sd), .int (nI ns), .ref aK, .ref aN, .int (nI iw), .int (nI ow), .int (fq_b ih), .int (fq_b oh), .ref aB, .int (nI ca), .int (nI us), .int (fq_b cl), .int (fq_b fl), .ref aS, .int (nI tk), .ref aL, .ref aX, .int (nI md), .int (nI gi), .int (nI su), .int (nI ps), .int (nI cs)])), (aK, .inl (cI, 5, .inl fK)), (aN, .inl (cI, 25, .inl fN)), (aB, .inl (cI, 120, .inl fB)), (aS, .inl (cI, 120, .inl fS)), (aL, .inl (cI, 2300, .inl fL)), (aX, .inl (cI, 2300, .inl fX))]) _ := hP
          have hD : va_D A ([(h, .inr (12, [.int (nI rm), .int (fq_b sd), .int (nI ns), .ref aK, .ref aN, .int (nI iw), .int (nI ow), .int (fq_b ih), .int (fq_b oh), .ref aB, .int (nI ca), .int (nI us), .int (fq_b cl), .int (fq_b fl), .ref aS, .int (nI tk), .ref aL, .ref aX, .int (nI md), .int (nI gi), .int (nI su), .int (nI ps), .int (nI cs)])), (aK, .inl (cI, 5, .inl fK)), (aN, .inl (cI, 25, .inl fN)), (aB, .inl (cI, 120, .inl fB)), (aS, .inl (cI, 120, .inl fS)), (aL, .inl (cI, 2300, .inl fL)), (aX, .inl (cI, 2300, .inl fX))]) := hD
          refine lv_istore K.1 K.2.1 dc_Mo_halfPower_69 hl (by decide) rfl (fun ls hl => ?_)
          have hl : lv_has ls 10 [(7, .int r2), (5, .long v2), (3, .long v1), (0, .ref h), (1, .int x), (2, .int (fq_b hb))] := hl
          refine lv_ldc2 (v := 2147483648) K.1 K.2.1 K.2.2.2.1 (K.2.2.2.2 _ wd_871) dc_Mo_halfPower_71 ?_
          refine lv_lload_n K.1 K.2.1 dc_Mo_halfPower_74 rfl (lv_at hl 2 rfl) ?_
          refine lv_ldc2 (v := 256) K.1 K.2.1 K.2.2.2.1 (K.2.2.2.2 _ wd_860) dc_Mo_halfPower_75 ?_
          refine lv_lsub K.1 K.2.1 dc_Mo_halfPower_78 ?_
          refine lv_lmul K.1 K.2.1 dc_Mo_halfPower_79 ?_
          refine lv_lload K.1 K.2.1 dc_Mo_halfPower_80 (lv_at hl 1 rfl) ?_
          have hc := fq_cut.of (wc := []) hP hD hS hA [] (by decide) rfl
          refine fq_ci (wr := [(h, .inr (12, [.int (nI rm), .int (fq_b sd), .int (nI ns), .ref aK, .ref aN, .int (nI iw), .int (nI ow), .int (fq_b ih), .int (fq_b oh), .ref aB, .int (nI ca), .int (nI us), .int (fq_b cl), .int (fq_b fl), .ref aS, .int (nI tk), .ref aL, .ref aX, .int (nI md), .int (nI gi), .int (nI su), .int (nI ps), .int (nI cs)])), (aK, .inl (cI, 5, .inl fK)), (aN, .inl (cI, 25, .inl fN)), (aB, .inl (cI, 120, .inl fB)), (aS, .inl (cI, 120, .inl fS)), (aL, .inl (cI, 2300, .inl fL)), (aX, .inl (cI, 2300, .inl fX))]) (fq_rS K hK hZ hS hc (ct_Mo_near l D cI cO tE (2147483648 * (v1 - 256)) v2 (by simp only [e_v1, e_v2]; exact hp.2.2.1) _) yk_Mo_near wd_864 wd_863 ⟨⟨rfl, rfl⟩, ⟨Nat.le_of_ble_eq_true rfl, Nat.le_of_ble_eq_true rfl⟩, ⟨Nat.le_of_ble_eq_true rfl, Nat.le_of_ble_eq_true rfl⟩⟩ hl.1 rfl (Nat.le_of_ble_eq_true rfl) dc_Mo_halfPower_82) hP hD hS hc [] [0, 1, 2, 3, 4, 5, 6] rfl rfl (by decide) (by decide) (fun r3 w H locs hw3 hP hD hS => ?_)
          obtain ⟨rfl, hd2⟩ := hw3
          have hP : va_P D fq_cl ([(h, .inr (12, [.int (nI rm), .int (fq_b sd), .int (nI ns), .ref aK, .ref aN, .int (nI iw), .int (nI ow), .int (fq_b ih), .int (fq_b oh), .ref aB, .int (nI ca), .int (nI us), .int (fq_b cl), .int (fq_b fl), .ref aS, .int (nI tk), .ref aL, .ref aX, .int (nI md), .int (nI gi), .int (nI su), .int (nI ps), .int (nI cs)])), (aK, .inl (cI, 5, .inl fK)), (aN, .inl (cI, 25, .inl fN)), (aB, .inl (cI, 120, .inl fB)), (aS, .inl (cI, 120, .inl fS)), (aL, .inl (cI, 2300, .inl fL)), (aX, .inl (cI, 2300, .inl fX))]) _ := hP
          have hD : va_D A ([(h, .inr (12, [.int (nI rm), .int (fq_b sd), .int (nI ns), .ref aK, .ref aN, .int (nI iw), .int (nI ow), .int (fq_b ih), .int (fq_b oh), .ref aB, .int (nI ca), .int (nI us), .int (fq_b cl), .int (fq_b fl), .ref aS, .int (nI tk), .ref aL, .ref aX, .int (nI md), .int (nI gi), .int (nI su), .int (nI ps), .int (nI cs)])), (aK, .inl (cI, 5, .inl fK)), (aN, .inl (cI, 25, .inl fN)), (aB, .inl (cI, 120, .inl fB)), (aS, .inl (cI, 120, .inl fS)), (aL, .inl (cI, 2300, .inl fL)), (aX, .inl (cI, 2300, .inl fX))]) := hD
          refine lv_istore K.1 K.2.1 dc_Mo_halfPower_85 hl (by decide) rfl (fun ls hl => ?_)
          have hl : lv_has ls 10 [(8, .int r3), (7, .int r2), (5, .long v2), (3, .long v1), (0, .ref h), (1, .int x), (2, .int (fq_b hb))] := hl
          refine lv_ldc2 (v := 16384) K.1 K.2.1 K.2.2.2.1 (K.2.2.2.2 _ wd_872) dc_Mo_halfPower_87 ?_
          refine lv_ldc2 (v := 65536) K.1 K.2.1 K.2.2.2.1 (K.2.2.2.2 _ wd_859) dc_Mo_halfPower_90 ?_
          refine lv_ldc2 (v := 256) K.1 K.2.1 K.2.2.2.1 (K.2.2.2.2 _ wd_860) dc_Mo_halfPower_93 ?_
          refine lv_lload_n K.1 K.2.1 dc_Mo_halfPower_96 rfl (lv_at hl 3 rfl) ?_
          refine lv_ladd K.1 K.2.1 dc_Mo_halfPower_97 ?_
          refine lv_lmul K.1 K.2.1 dc_Mo_halfPower_98 ?_
          refine lv_ldc2 (v := 1482912) K.1 K.2.1 K.2.2.2.1 (K.2.2.2.2 _ wd_861) dc_Mo_halfPower_99 ?_
          refine lv_iload_n K.1 K.2.1 dc_Mo_halfPower_102 rfl (lv_at hl 5 rfl) ?_
          refine lv_i2l K.1 K.2.1 dc_Mo_halfPower_103 rfl ?_
          refine lv_lmul K.1 K.2.1 dc_Mo_halfPower_104 ?_
          refine lv_lsub K.1 K.2.1 dc_Mo_halfPower_105 ?_
          refine lv_lmul K.1 K.2.1 dc_Mo_halfPower_106 ?_
          refine lv_lload K.1 K.2.1 dc_Mo_halfPower_107 (lv_at hl 2 rfl) ?_
          have hc := fq_cut.of (wc := []) hP hD hS hA [] (by decide) rfl
          refine fq_ci (wr := [(h, .inr (12, [.int (nI rm), .int (fq_b sd), .int (nI ns), .ref aK, .ref aN, .int (nI iw), .int (nI ow), .int (fq_b ih), .int (fq_b oh), .ref aB, .int (nI ca), .int (nI us), .int (fq_b cl), .int (fq_b fl), .ref aS, .int (nI tk), .ref aL, .ref aX, .int (nI md), .int (nI gi), .int (nI su), .int (nI ps), .int (nI cs)])), (aK, .inl (cI, 5, .inl fK)), (aN, .inl (cI, 25, .inl fN)), (aB, .inl (cI, 120, .inl fB)), (aS, .inl (cI, 120, .inl fS)), (aL, .inl (cI, 2300, .inl fL)), (aX, .inl (cI, 2300, .inl fX))]) (fq_rS K hK hZ hS hc (ct_Mo_near l D cI cO tE (16384 * ((65536 * (256 + v1)) - (1482912 * x.toInt64))) v2 (by simp only [e_v1, e_v2]; exact hp.2.2.2.1) _) yk_Mo_near wd_864 wd_863 ⟨⟨rfl, rfl⟩, ⟨Nat.le_of_ble_eq_true rfl, Nat.le_of_ble_eq_true rfl⟩, ⟨Nat.le_of_ble_eq_true rfl, Nat.le_of_ble_eq_true rfl⟩⟩ hl.1 rfl (Nat.le_of_ble_eq_true rfl) dc_Mo_halfPower_109) hP hD hS hc [] [0, 1, 2, 3, 4, 5, 6] rfl rfl (by decide) (by decide) (fun r4 w H locs hw4 hP hD hS => ?_)
          obtain ⟨rfl, hd3⟩ := hw4
          have hP : va_P D fq_cl ([(h, .inr (12, [.int (nI rm), .int (fq_b sd), .int (nI ns), .ref aK, .ref aN, .int (nI iw), .int (nI ow), .int (fq_b ih), .int (fq_b oh), .ref aB, .int (nI ca), .int (nI us), .int (fq_b cl), .int (fq_b fl), .ref aS, .int (nI tk), .ref aL, .ref aX, .int (nI md), .int (nI gi), .int (nI su), .int (nI ps), .int (nI cs)])), (aK, .inl (cI, 5, .inl fK)), (aN, .inl (cI, 25, .inl fN)), (aB, .inl (cI, 120, .inl fB)), (aS, .inl (cI, 120, .inl fS)), (aL, .inl (cI, 2300, .inl fL)), (aX, .inl (cI, 2300, .inl fX))]) _ := hP
          have hD : va_D A ([(h, .inr (12, [.int (nI rm), .int (fq_b sd), .int (nI ns), .ref aK, .ref aN, .int (nI iw), .int (nI ow), .int (fq_b ih), .int (fq_b oh), .ref aB, .int (nI ca), .int (nI us), .int (fq_b cl), .int (fq_b fl), .ref aS, .int (nI tk), .ref aL, .ref aX, .int (nI md), .int (nI gi), .int (nI su), .int (nI ps), .int (nI cs)])), (aK, .inl (cI, 5, .inl fK)), (aN, .inl (cI, 25, .inl fN)), (aB, .inl (cI, 120, .inl fB)), (aS, .inl (cI, 120, .inl fS)), (aL, .inl (cI, 2300, .inl fL)), (aX, .inl (cI, 2300, .inl fX))]) := hD
          refine lv_istore K.1 K.2.1 dc_Mo_halfPower_112 hl (by decide) rfl (fun ls hl => ?_)
          have hl : lv_has ls 10 [(9, .int r4), (8, .int r3), (7, .int r2), (5, .long v2), (3, .long v1), (0, .ref h), (1, .int x), (2, .int (fq_b hb))] := hl
          refine lv_aload_n K.1 K.2.1 dc_Mo_halfPower_114 rfl (lv_at hl 5 rfl) ?_
          refine lv_iconst (v := 0) K.1 K.2.1 dc_Mo_halfPower_115 (by decide) ?_
          refine lv_iload K.1 K.2.1 dc_Mo_halfPower_116 (lv_at hl 2 rfl) ?_
          refine lv_iload_n K.1 K.2.1 dc_Mo_halfPower_118 rfl (lv_at hl 7 rfl) ?_
          refine lv_if_eq (tgt := 130) K.1 K.2.1 dc_Mo_halfPower_119 rfl (fun b119 => ?_) (fun b119 => absurd (by rw [hbb]; rfl) b119)
          refine lv_iconst (v := 2) K.1 K.2.1 dc_Mo_halfPower_130 (by decide) ?_
          refine lv_iload K.1 K.2.1 dc_Mo_halfPower_131 (lv_at hl 2 rfl) ?_
          refine lv_imul K.1 K.2.1 dc_Mo_halfPower_133 ?_
          refine lv_iload K.1 K.2.1 dc_Mo_halfPower_134 (lv_at hl 2 rfl) ?_
          refine lv_iload K.1 K.2.1 dc_Mo_halfPower_136 (lv_at hl 1 rfl) ?_
          refine lv_iload K.1 K.2.1 dc_Mo_halfPower_138 (lv_at hl 0 rfl) ?_
          have hrr : hp_r x hb r2 (2 * r2) r3 r4 := ⟨by rw [hd1, hbb]; simp only [e_v1, e_v2]; rfl, by rw [hbb]; rfl, by rw [hd2]; simp only [e_v1, e_v2]; rfl, by rw [hd3]; simp only [e_v1, e_v2]; rfl⟩
          have hc := fq_cut.of (wc := [(h, .inr (12, [.int (nI rm), .int (fq_b sd), .int (nI ns), .ref aK, .ref aN, .int (nI iw), .int (nI ow), .int (fq_b ih), .int (fq_b oh), .ref aB, .int (nI ca), .int (nI us), .int (fq_b cl), .int (fq_b fl), .ref aS, .int (nI tk), .ref aL, .ref aX, .int (nI md), .int (nI gi), .int (nI su), .int (nI ps), .int (nI cs)])), (aK, .inl (cI, 5, .inl fK)), (aN, .inl (cI, 25, .inl fN)), (aB, .inl (cI, 120, .inl fB)), (aS, .inl (cI, 120, .inl fS)), (aL, .inl (cI, 2300, .inl fL)), (aX, .inl (cI, 2300, .inl fX))]) hP hD hS hA [0, 1, 2, 3, 4, 5, 6] (by decide) rfl
          refine fq_cv (wr := []) (fq_rV K hK hZ hS hc (ct_Mo_add l D cI cO tE h aK aN aB aS aL aX rm sd ns iw ow ih oh ca us cl fl tk md gi su ps cs fK fN fB fS fL fX 0 r2 (2 * r2) r2 r3 r4 hca.2 _) yk_Mo_add wd_853 wd_14 wd_851 0 rfl rfl rfl ⟨⟨rfl, rfl⟩, ⟨Nat.le_of_ble_eq_true rfl, Nat.le_of_ble_eq_true rfl⟩, ⟨Nat.le_of_ble_eq_true rfl, Nat.le_of_ble_eq_true rfl⟩⟩ hl.1 rfl (Nat.le_of_ble_eq_true rfl) dc_Mo_halfPower_140) hP hD hS hc [0, 1, 2, 3, 4, 5, 6] [] rfl rfl (by decide) (by decide) (fun  w H locs hw5 hP hD hS => ?_)
          subst hw5
          have hP : va_P D fq_cl ([(h, .inr (12, [.int (nI rm), .int (fq_b sd), .int (nI (ns + 1)), .ref aK, .ref aN, .int (nI iw), .int (nI ow), .int (fq_b ih), .int (fq_b oh), .ref aB, .int (nI ca), .int (nI us), .int (fq_b cl), .int (fq_b fl), .ref aS, .int (nI tk), .ref aL, .ref aX, .int (nI md), .int (nI gi), .int (nI su), .int (nI ps), .int (nI cs)])), (aK, .inl (cI, 5, .inl (upd fK ns 0))), (aN, .inl (cI, 25, .inl (upd (upd (upd (upd (upd fN (5 * ns) r2) (5 * ns + 1) (2 * r2)) (5 * ns + 2) r2) (5 * ns + 3) r3) (5 * ns + 4) r4))), (aB, .inl (cI, 120, .inl fB)), (aS, .inl (cI, 120, .inl fS)), (aL, .inl (cI, 2300, .inl fL)), (aX, .inl (cI, 2300, .inl fX))]) _ := hP
          have hD : va_D A ([(h, .inr (12, [.int (nI rm), .int (fq_b sd), .int (nI (ns + 1)), .ref aK, .ref aN, .int (nI iw), .int (nI ow), .int (fq_b ih), .int (fq_b oh), .ref aB, .int (nI ca), .int (nI us), .int (fq_b cl), .int (fq_b fl), .ref aS, .int (nI tk), .ref aL, .ref aX, .int (nI md), .int (nI gi), .int (nI su), .int (nI ps), .int (nI cs)])), (aK, .inl (cI, 5, .inl (upd fK ns 0))), (aN, .inl (cI, 25, .inl (upd (upd (upd (upd (upd fN (5 * ns) r2) (5 * ns + 1) (2 * r2)) (5 * ns + 2) r2) (5 * ns + 3) r3) (5 * ns + 4) r4))), (aB, .inl (cI, 120, .inl fB)), (aS, .inl (cI, 120, .inl fS)), (aL, .inl (cI, 2300, .inl fL)), (aX, .inl (cI, 2300, .inl fX))]) := hD
          refine lv_iconst (v := 1) K.1 K.2.1 dc_Mo_halfPower_143 (by decide) ?_
          exact fq_retz K hret hlk hS hP hD (by first | exact Or.inl rfl | exact Or.inr rfl) (by rw [if_pos ⟨hca, by omega, by omega⟩]; exact ⟨rfl, _, _, _, _, hrr, rfl⟩) dc_Mo_halfPower_144 (Nat.le_of_ble_eq_true rfl) (Nat.le_of_ble_eq_true rfl)
        · skip
          have hbb := fq_b1 b45
          refine lv_ldc2 (v := 274877906944) K.1 K.2.1 K.2.2.2.1 (K.2.2.2.2 _ wd_862) dc_Mo_halfPower_48 ?_
          refine lv_lload K.1 K.2.1 dc_Mo_halfPower_51 (lv_at hl 0 rfl) ?_
          have hc := fq_cut.of (wc := []) hP hD hS hA [] (by decide) rfl
          refine fq_ci (wr := [(h, .inr (12, [.int (nI rm), .int (fq_b sd), .int (nI ns), .ref aK, .ref aN, .int (nI iw), .int (nI ow), .int (fq_b ih), .int (fq_b oh), .ref aB, .int (nI ca), .int (nI us), .int (fq_b cl), .int (fq_b fl), .ref aS, .int (nI tk), .ref aL, .ref aX, .int (nI md), .int (nI gi), .int (nI su), .int (nI ps), .int (nI cs)])), (aK, .inl (cI, 5, .inl fK)), (aN, .inl (cI, 25, .inl fN)), (aB, .inl (cI, 120, .inl fB)), (aS, .inl (cI, 120, .inl fS)), (aL, .inl (cI, 2300, .inl fL)), (aX, .inl (cI, 2300, .inl fX))]) (fq_rS K hK hZ hS hc (ct_Mo_near l D cI cO tE 274877906944 v2 (by simp only [e_v1, e_v2]; exact hp.1) _) yk_Mo_near wd_864 wd_863 ⟨⟨rfl, rfl⟩, ⟨Nat.le_of_ble_eq_true rfl, Nat.le_of_ble_eq_true rfl⟩, ⟨Nat.le_of_ble_eq_true rfl, Nat.le_of_ble_eq_true rfl⟩⟩ hl.1 rfl (Nat.le_of_ble_eq_true rfl) dc_Mo_halfPower_53) hP hD hS hc [] [0, 1, 2, 3, 4, 5, 6] rfl rfl (by decide) (by decide) (fun r5 w H locs hw6 hP hD hS => ?_)
          obtain ⟨rfl, hd4⟩ := hw6
          have hP : va_P D fq_cl ([(h, .inr (12, [.int (nI rm), .int (fq_b sd), .int (nI ns), .ref aK, .ref aN, .int (nI iw), .int (nI ow), .int (fq_b ih), .int (fq_b oh), .ref aB, .int (nI ca), .int (nI us), .int (fq_b cl), .int (fq_b fl), .ref aS, .int (nI tk), .ref aL, .ref aX, .int (nI md), .int (nI gi), .int (nI su), .int (nI ps), .int (nI cs)])), (aK, .inl (cI, 5, .inl fK)), (aN, .inl (cI, 25, .inl fN)), (aB, .inl (cI, 120, .inl fB)), (aS, .inl (cI, 120, .inl fS)), (aL, .inl (cI, 2300, .inl fL)), (aX, .inl (cI, 2300, .inl fX))]) _ := hP
          have hD : va_D A ([(h, .inr (12, [.int (nI rm), .int (fq_b sd), .int (nI ns), .ref aK, .ref aN, .int (nI iw), .int (nI ow), .int (fq_b ih), .int (fq_b oh), .ref aB, .int (nI ca), .int (nI us), .int (fq_b cl), .int (fq_b fl), .ref aS, .int (nI tk), .ref aL, .ref aX, .int (nI md), .int (nI gi), .int (nI su), .int (nI ps), .int (nI cs)])), (aK, .inl (cI, 5, .inl fK)), (aN, .inl (cI, 25, .inl fN)), (aB, .inl (cI, 120, .inl fB)), (aS, .inl (cI, 120, .inl fS)), (aL, .inl (cI, 2300, .inl fL)), (aX, .inl (cI, 2300, .inl fX))]) := hD
          refine lv_goto (tgt := 69) K.1 K.2.1 dc_Mo_halfPower_56 rfl ?_
          refine lv_istore K.1 K.2.1 dc_Mo_halfPower_69 hl (by decide) rfl (fun ls hl => ?_)
          have hl : lv_has ls 10 [(7, .int r5), (5, .long v2), (3, .long v1), (0, .ref h), (1, .int x), (2, .int (fq_b hb))] := hl
          refine lv_ldc2 (v := 2147483648) K.1 K.2.1 K.2.2.2.1 (K.2.2.2.2 _ wd_871) dc_Mo_halfPower_71 ?_
          refine lv_lload_n K.1 K.2.1 dc_Mo_halfPower_74 rfl (lv_at hl 2 rfl) ?_
          refine lv_ldc2 (v := 256) K.1 K.2.1 K.2.2.2.1 (K.2.2.2.2 _ wd_860) dc_Mo_halfPower_75 ?_
          refine lv_lsub K.1 K.2.1 dc_Mo_halfPower_78 ?_
          refine lv_lmul K.1 K.2.1 dc_Mo_halfPower_79 ?_
          refine lv_lload K.1 K.2.1 dc_Mo_halfPower_80 (lv_at hl 1 rfl) ?_
          have hc := fq_cut.of (wc := []) hP hD hS hA [] (by decide) rfl
          refine fq_ci (wr := [(h, .inr (12, [.int (nI rm), .int (fq_b sd), .int (nI ns), .ref aK, .ref aN, .int (nI iw), .int (nI ow), .int (fq_b ih), .int (fq_b oh), .ref aB, .int (nI ca), .int (nI us), .int (fq_b cl), .int (fq_b fl), .ref aS, .int (nI tk), .ref aL, .ref aX, .int (nI md), .int (nI gi), .int (nI su), .int (nI ps), .int (nI cs)])), (aK, .inl (cI, 5, .inl fK)), (aN, .inl (cI, 25, .inl fN)), (aB, .inl (cI, 120, .inl fB)), (aS, .inl (cI, 120, .inl fS)), (aL, .inl (cI, 2300, .inl fL)), (aX, .inl (cI, 2300, .inl fX))]) (fq_rS K hK hZ hS hc (ct_Mo_near l D cI cO tE (2147483648 * (v1 - 256)) v2 (by simp only [e_v1, e_v2]; exact hp.2.2.1) _) yk_Mo_near wd_864 wd_863 ⟨⟨rfl, rfl⟩, ⟨Nat.le_of_ble_eq_true rfl, Nat.le_of_ble_eq_true rfl⟩, ⟨Nat.le_of_ble_eq_true rfl, Nat.le_of_ble_eq_true rfl⟩⟩ hl.1 rfl (Nat.le_of_ble_eq_true rfl) dc_Mo_halfPower_82) hP hD hS hc [] [0, 1, 2, 3, 4, 5, 6] rfl rfl (by decide) (by decide) (fun r6 w H locs hw7 hP hD hS => ?_)
          obtain ⟨rfl, hd5⟩ := hw7
          have hP : va_P D fq_cl ([(h, .inr (12, [.int (nI rm), .int (fq_b sd), .int (nI ns), .ref aK, .ref aN, .int (nI iw), .int (nI ow), .int (fq_b ih), .int (fq_b oh), .ref aB, .int (nI ca), .int (nI us), .int (fq_b cl), .int (fq_b fl), .ref aS, .int (nI tk), .ref aL, .ref aX, .int (nI md), .int (nI gi), .int (nI su), .int (nI ps), .int (nI cs)])), (aK, .inl (cI, 5, .inl fK)), (aN, .inl (cI, 25, .inl fN)), (aB, .inl (cI, 120, .inl fB)), (aS, .inl (cI, 120, .inl fS)), (aL, .inl (cI, 2300, .inl fL)), (aX, .inl (cI, 2300, .inl fX))]) _ := hP
          have hD : va_D A ([(h, .inr (12, [.int (nI rm), .int (fq_b sd), .int (nI ns), .ref aK, .ref aN, .int (nI iw), .int (nI ow), .int (fq_b ih), .int (fq_b oh), .ref aB, .int (nI ca), .int (nI us), .int (fq_b cl), .int (fq_b fl), .ref aS, .int (nI tk), .ref aL, .ref aX, .int (nI md), .int (nI gi), .int (nI su), .int (nI ps), .int (nI cs)])), (aK, .inl (cI, 5, .inl fK)), (aN, .inl (cI, 25, .inl fN)), (aB, .inl (cI, 120, .inl fB)), (aS, .inl (cI, 120, .inl fS)), (aL, .inl (cI, 2300, .inl fL)), (aX, .inl (cI, 2300, .inl fX))]) := hD
          refine lv_istore K.1 K.2.1 dc_Mo_halfPower_85 hl (by decide) rfl (fun ls hl => ?_)
          have hl : lv_has ls 10 [(8, .int r6), (7, .int r5), (5, .long v2), (3, .long v1), (0, .ref h), (1, .int x), (2, .int (fq_b hb))] := hl
          refine lv_ldc2 (v := 16384) K.1 K.2.1 K.2.2.2.1 (K.2.2.2.2 _ wd_872) dc_Mo_halfPower_87 ?_
          refine lv_ldc2 (v := 65536) K.1 K.2.1 K.2.2.2.1 (K.2.2.2.2 _ wd_859) dc_Mo_halfPower_90 ?_
          refine lv_ldc2 (v := 256) K.1 K.2.1 K.2.2.2.1 (K.2.2.2.2 _ wd_860) dc_Mo_halfPower_93 ?_
          refine lv_lload_n K.1 K.2.1 dc_Mo_halfPower_96 rfl (lv_at hl 3 rfl) ?_
          refine lv_ladd K.1 K.2.1 dc_Mo_halfPower_97 ?_
          refine lv_lmul K.1 K.2.1 dc_Mo_halfPower_98 ?_
          refine lv_ldc2 (v := 1482912) K.1 K.2.1 K.2.2.2.1 (K.2.2.2.2 _ wd_861) dc_Mo_halfPower_99 ?_
          refine lv_iload_n K.1 K.2.1 dc_Mo_halfPower_102 rfl (lv_at hl 5 rfl) ?_
          refine lv_i2l K.1 K.2.1 dc_Mo_halfPower_103 rfl ?_
          refine lv_lmul K.1 K.2.1 dc_Mo_halfPower_104 ?_
          refine lv_lsub K.1 K.2.1 dc_Mo_halfPower_105 ?_
          refine lv_lmul K.1 K.2.1 dc_Mo_halfPower_106 ?_
          refine lv_lload K.1 K.2.1 dc_Mo_halfPower_107 (lv_at hl 2 rfl) ?_
          have hc := fq_cut.of (wc := []) hP hD hS hA [] (by decide) rfl
          refine fq_ci (wr := [(h, .inr (12, [.int (nI rm), .int (fq_b sd), .int (nI ns), .ref aK, .ref aN, .int (nI iw), .int (nI ow), .int (fq_b ih), .int (fq_b oh), .ref aB, .int (nI ca), .int (nI us), .int (fq_b cl), .int (fq_b fl), .ref aS, .int (nI tk), .ref aL, .ref aX, .int (nI md), .int (nI gi), .int (nI su), .int (nI ps), .int (nI cs)])), (aK, .inl (cI, 5, .inl fK)), (aN, .inl (cI, 25, .inl fN)), (aB, .inl (cI, 120, .inl fB)), (aS, .inl (cI, 120, .inl fS)), (aL, .inl (cI, 2300, .inl fL)), (aX, .inl (cI, 2300, .inl fX))]) (fq_rS K hK hZ hS hc (ct_Mo_near l D cI cO tE (16384 * ((65536 * (256 + v1)) - (1482912 * x.toInt64))) v2 (by simp only [e_v1, e_v2]; exact hp.2.2.2.1) _) yk_Mo_near wd_864 wd_863 ⟨⟨rfl, rfl⟩, ⟨Nat.le_of_ble_eq_true rfl, Nat.le_of_ble_eq_true rfl⟩, ⟨Nat.le_of_ble_eq_true rfl, Nat.le_of_ble_eq_true rfl⟩⟩ hl.1 rfl (Nat.le_of_ble_eq_true rfl) dc_Mo_halfPower_109) hP hD hS hc [] [0, 1, 2, 3, 4, 5, 6] rfl rfl (by decide) (by decide) (fun r7 w H locs hw8 hP hD hS => ?_)
          obtain ⟨rfl, hd6⟩ := hw8
          have hP : va_P D fq_cl ([(h, .inr (12, [.int (nI rm), .int (fq_b sd), .int (nI ns), .ref aK, .ref aN, .int (nI iw), .int (nI ow), .int (fq_b ih), .int (fq_b oh), .ref aB, .int (nI ca), .int (nI us), .int (fq_b cl), .int (fq_b fl), .ref aS, .int (nI tk), .ref aL, .ref aX, .int (nI md), .int (nI gi), .int (nI su), .int (nI ps), .int (nI cs)])), (aK, .inl (cI, 5, .inl fK)), (aN, .inl (cI, 25, .inl fN)), (aB, .inl (cI, 120, .inl fB)), (aS, .inl (cI, 120, .inl fS)), (aL, .inl (cI, 2300, .inl fL)), (aX, .inl (cI, 2300, .inl fX))]) _ := hP
          have hD : va_D A ([(h, .inr (12, [.int (nI rm), .int (fq_b sd), .int (nI ns), .ref aK, .ref aN, .int (nI iw), .int (nI ow), .int (fq_b ih), .int (fq_b oh), .ref aB, .int (nI ca), .int (nI us), .int (fq_b cl), .int (fq_b fl), .ref aS, .int (nI tk), .ref aL, .ref aX, .int (nI md), .int (nI gi), .int (nI su), .int (nI ps), .int (nI cs)])), (aK, .inl (cI, 5, .inl fK)), (aN, .inl (cI, 25, .inl fN)), (aB, .inl (cI, 120, .inl fB)), (aS, .inl (cI, 120, .inl fS)), (aL, .inl (cI, 2300, .inl fL)), (aX, .inl (cI, 2300, .inl fX))]) := hD
          refine lv_istore K.1 K.2.1 dc_Mo_halfPower_112 hl (by decide) rfl (fun ls hl => ?_)
          have hl : lv_has ls 10 [(9, .int r7), (8, .int r6), (7, .int r5), (5, .long v2), (3, .long v1), (0, .ref h), (1, .int x), (2, .int (fq_b hb))] := hl
          refine lv_aload_n K.1 K.2.1 dc_Mo_halfPower_114 rfl (lv_at hl 5 rfl) ?_
          refine lv_iconst (v := 0) K.1 K.2.1 dc_Mo_halfPower_115 (by decide) ?_
          refine lv_iload K.1 K.2.1 dc_Mo_halfPower_116 (lv_at hl 2 rfl) ?_
          refine lv_iload_n K.1 K.2.1 dc_Mo_halfPower_118 rfl (lv_at hl 7 rfl) ?_
          refine lv_if_eq (tgt := 130) K.1 K.2.1 dc_Mo_halfPower_119 rfl (fun b119 => absurd b119 (by rw [hbb]; decide)) (fun b119 => ?_)
          refine lv_bipush (v := (-2)) K.1 K.2.1 dc_Mo_halfPower_122 (by decide) ?_
          refine lv_iload K.1 K.2.1 dc_Mo_halfPower_124 (lv_at hl 2 rfl) ?_
          refine lv_imul K.1 K.2.1 dc_Mo_halfPower_126 ?_
          refine lv_goto (tgt := 134) K.1 K.2.1 dc_Mo_halfPower_127 rfl ?_
          refine lv_iload K.1 K.2.1 dc_Mo_halfPower_134 (lv_at hl 2 rfl) ?_
          refine lv_iload K.1 K.2.1 dc_Mo_halfPower_136 (lv_at hl 1 rfl) ?_
          refine lv_iload K.1 K.2.1 dc_Mo_halfPower_138 (lv_at hl 0 rfl) ?_
          have hrr : hp_r x hb r5 ((-2) * r5) r6 r7 := ⟨by rw [hd4, hbb]; simp only [e_v1, e_v2]; rfl, by rw [hbb]; rfl, by rw [hd5]; simp only [e_v1, e_v2]; rfl, by rw [hd6]; simp only [e_v1, e_v2]; rfl⟩
          have hc := fq_cut.of (wc := [(h, .inr (12, [.int (nI rm), .int (fq_b sd), .int (nI ns), .ref aK, .ref aN, .int (nI iw), .int (nI ow), .int (fq_b ih), .int (fq_b oh), .ref aB, .int (nI ca), .int (nI us), .int (fq_b cl), .int (fq_b fl), .ref aS, .int (nI tk), .ref aL, .ref aX, .int (nI md), .int (nI gi), .int (nI su), .int (nI ps), .int (nI cs)])), (aK, .inl (cI, 5, .inl fK)), (aN, .inl (cI, 25, .inl fN)), (aB, .inl (cI, 120, .inl fB)), (aS, .inl (cI, 120, .inl fS)), (aL, .inl (cI, 2300, .inl fL)), (aX, .inl (cI, 2300, .inl fX))]) hP hD hS hA [0, 1, 2, 3, 4, 5, 6] (by decide) rfl
          refine fq_cv (wr := []) (fq_rV K hK hZ hS hc (ct_Mo_add l D cI cO tE h aK aN aB aS aL aX rm sd ns iw ow ih oh ca us cl fl tk md gi su ps cs fK fN fB fS fL fX 0 r5 ((-2) * r5) r5 r6 r7 hca.2 _) yk_Mo_add wd_853 wd_14 wd_851 0 rfl rfl rfl ⟨⟨rfl, rfl⟩, ⟨Nat.le_of_ble_eq_true rfl, Nat.le_of_ble_eq_true rfl⟩, ⟨Nat.le_of_ble_eq_true rfl, Nat.le_of_ble_eq_true rfl⟩⟩ hl.1 rfl (Nat.le_of_ble_eq_true rfl) dc_Mo_halfPower_140) hP hD hS hc [0, 1, 2, 3, 4, 5, 6] [] rfl rfl (by decide) (by decide) (fun  w H locs hw9 hP hD hS => ?_)
          subst hw9
          have hP : va_P D fq_cl ([(h, .inr (12, [.int (nI rm), .int (fq_b sd), .int (nI (ns + 1)), .ref aK, .ref aN, .int (nI iw), .int (nI ow), .int (fq_b ih), .int (fq_b oh), .ref aB, .int (nI ca), .int (nI us), .int (fq_b cl), .int (fq_b fl), .ref aS, .int (nI tk), .ref aL, .ref aX, .int (nI md), .int (nI gi), .int (nI su), .int (nI ps), .int (nI cs)])), (aK, .inl (cI, 5, .inl (upd fK ns 0))), (aN, .inl (cI, 25, .inl (upd (upd (upd (upd (upd fN (5 * ns) r5) (5 * ns + 1) ((-2) * r5)) (5 * ns + 2) r5) (5 * ns + 3) r6) (5 * ns + 4) r7))), (aB, .inl (cI, 120, .inl fB)), (aS, .inl (cI, 120, .inl fS)), (aL, .inl (cI, 2300, .inl fL)), (aX, .inl (cI, 2300, .inl fX))]) _ := hP
          have hD : va_D A ([(h, .inr (12, [.int (nI rm), .int (fq_b sd), .int (nI (ns + 1)), .ref aK, .ref aN, .int (nI iw), .int (nI ow), .int (fq_b ih), .int (fq_b oh), .ref aB, .int (nI ca), .int (nI us), .int (fq_b cl), .int (fq_b fl), .ref aS, .int (nI tk), .ref aL, .ref aX, .int (nI md), .int (nI gi), .int (nI su), .int (nI ps), .int (nI cs)])), (aK, .inl (cI, 5, .inl (upd fK ns 0))), (aN, .inl (cI, 25, .inl (upd (upd (upd (upd (upd fN (5 * ns) r5) (5 * ns + 1) ((-2) * r5)) (5 * ns + 2) r5) (5 * ns + 3) r6) (5 * ns + 4) r7))), (aB, .inl (cI, 120, .inl fB)), (aS, .inl (cI, 120, .inl fS)), (aL, .inl (cI, 2300, .inl fL)), (aX, .inl (cI, 2300, .inl fX))]) := hD
          refine lv_iconst (v := 1) K.1 K.2.1 dc_Mo_halfPower_143 (by decide) ?_
          exact fq_retz K hret hlk hS hP hD (by first | exact Or.inl rfl | exact Or.inr rfl) (by rw [if_pos ⟨hca, by omega, by omega⟩]; exact ⟨rfl, _, _, _, _, hrr, rfl⟩) dc_Mo_halfPower_144 (Nat.le_of_ble_eq_true rfl) (Nat.le_of_ble_eq_true rfl)
      · skip
        rw [Int32.le_iff_toInt_le, show (96 : Int32).toInt = 96 by decide] at b15
        have hn : ¬ ((sd = false ∧ ns < 5) ∧ 1 ≤ x.toInt ∧ x.toInt ≤ 96) := fun z => by have := z.2; omega
        refine lv_iconst (v := 0) K.1 K.2.1 dc_Mo_halfPower_18 (by decide) ?_
        exact fq_retz K hret hlk hS hP hD (by first | exact Or.inl rfl | exact Or.inr rfl) (by rw [if_neg hn]; exact ⟨rfl, rfl⟩) dc_Mo_halfPower_19 (Nat.le_of_ble_eq_true rfl) (Nat.le_of_ble_eq_true rfl)
set_option maxHeartbeats 4000000 in
set_option maxRecDepth 100000 in
theorem ct_Mo_resample (l : Launch) (D : va_G) (cI cO : ClassId) (tE : Nat) (h aK aN aB aS aL aX : Nat) (rm : Nat) (sd : Bool) (ns : Nat) (iw : Nat) (ow : Nat) (ih : Bool) (oh : Bool) (ca : Nat) (us : Nat) (cl : Bool) (fl : Bool) (tk : Nat) (md : Nat) (gi : Nat) (su : Nat) (ps : Nat) (cs : Nat) (fK fN fB fS fL fX : Nat → Int32) (xn y : Int32) (hns : ns ≤ 5) (sz : Nat) : Met l my_Mo_resample (fq_w my_Mo_resample cb_Mo_resample 5 (some .boolean)) ({ frames := 1, cells := 0, slots := 0, locals := 26 }) (va_Pc ([.ref h, .int xn, .int y]) (fq_Pre D cI cO tE sz ([(h, .inr (12, [.int (nI rm), .int (fq_b sd), .int (nI ns), .ref aK, .ref aN, .int (nI iw), .int (nI ow), .int (fq_b ih), .int (fq_b oh), .ref aB, .int (nI ca), .int (nI us), .int (fq_b cl), .int (fq_b fl), .ref aS, .int (nI tk), .ref aL, .ref aX, .int (nI md), .int (nI gi), .int (nI su), .int (nI ps), .int (nI cs)])), (aK, .inl (cI, 5, .inl fK)), (aN, .inl (cI, 25, .inl fN)), (aB, .inl (cI, 120, .inl fB)), (aS, .inl (cI, 120, .inl fS)), (aL, .inl (cI, 2300, .inl fL)), (aX, .inl (cI, 2300, .inl fX))]))) (va_Qi (S := va_W) (fun r w => if (sd = false ∧ ns < 5) ∧ ¬ ot_n fK ns = 2 ∧ (1 ≤ xn.toInt ∧ xn.toInt ≤ 4) ∧ 1 ≤ y.toInt ∧ y.toInt ≤ 4 then r = 1 ∧ w = [(h, .inr (12, [.int (nI rm), .int (fq_b sd), .int (nI (ns + 1)), .ref aK, .ref aN, .int (nI iw), .int (nI ow), .int (fq_b ih), .int (fq_b oh), .ref aB, .int (nI ca), .int (nI us), .int (fq_b cl), .int (fq_b fl), .ref aS, .int (nI tk), .ref aL, .ref aX, .int (nI md), .int (nI gi), .int (nI su), .int (nI ps), .int (nI cs)])), (aK, .inl (cI, 5, .inl (upd fK ns 3))), (aN, .inl (cI, 25, .inl (upd (upd (upd (upd (upd fN (5 * ns) (nI (xn.toInt.toNat / rs_g xn.toInt.toNat y.toInt.toNat))) (5 * ns + 1) (nI (y.toInt.toNat / rs_g xn.toInt.toNat y.toInt.toNat))) (5 * ns + 2) 0) (5 * ns + 3) 0) (5 * ns + 4) 0))), (aB, .inl (cI, 120, .inl fB)), (aS, .inl (cI, 120, .inl fS)), (aL, .inl (cI, 2300, .inl fL)), (aX, .inl (cI, 2300, .inl fX))] else r = 0 ∧ w = [(h, .inr (12, [.int (nI rm), .int (fq_b sd), .int (nI ns), .ref aK, .ref aN, .int (nI iw), .int (nI ow), .int (fq_b ih), .int (fq_b oh), .ref aB, .int (nI ca), .int (nI us), .int (fq_b cl), .int (fq_b fl), .ref aS, .int (nI tk), .ref aL, .ref aX, .int (nI md), .int (nI gi), .int (nI su), .int (nI ps), .int (nI cs)])), (aK, .inl (cI, 5, .inl fK)), (aN, .inl (cI, 25, .inl fN)), (aB, .inl (cI, 120, .inl fB)), (aS, .inl (cI, 120, .inl fS)), (aL, .inl (cI, 2300, .inl fL)), (aX, .inl (cI, 2300, .inl fX))]) (fq_Bw D (va_A ([(h, .inr (12, [.int (nI rm), .int (fq_b sd), .int (nI ns), .ref aK, .ref aN, .int (nI iw), .int (nI ow), .int (fq_b ih), .int (fq_b oh), .ref aB, .int (nI ca), .int (nI us), .int (fq_b cl), .int (fq_b fl), .ref aS, .int (nI tk), .ref aL, .ref aX, .int (nI md), .int (nI gi), .int (nI su), .int (nI ps), .int (nI cs)])), (aK, .inl (cI, 5, .inl fK)), (aN, .inl (cI, 25, .inl fN)), (aB, .inl (cI, 120, .inl fB)), (aS, .inl (cI, 120, .inl fS)), (aL, .inl (cI, 2300, .inl fL)), (aX, .inl (cI, 2300, .inl fX))]) sz)) (va_A ([(h, .inr (12, [.int (nI rm), .int (fq_b sd), .int (nI ns), .ref aK, .ref aN, .int (nI iw), .int (nI ow), .int (fq_b ih), .int (fq_b oh), .ref aB, .int (nI ca), .int (nI us), .int (fq_b cl), .int (fq_b fl), .ref aS, .int (nI tk), .ref aL, .ref aX, .int (nI md), .int (nI gi), .int (nI su), .int (nI ps), .int (nI cs)])), (aK, .inl (cI, 5, .inl fK)), (aN, .inl (cI, 25, .inl fN)), (aB, .inl (cI, 120, .inl fB)), (aS, .inl (cI, 120, .inl fS)), (aL, .inl (cI, 2300, .inl fL)), (aX, .inl (cI, 2300, .inl fX))]) sz)) (0) (0) (va_A ([(h, .inr (12, [.int (nI rm), .int (fq_b sd), .int (nI ns), .ref aK, .ref aN, .int (nI iw), .int (nI ow), .int (fq_b ih), .int (fq_b oh), .ref aB, .int (nI ca), .int (nI us), .int (fq_b cl), .int (fq_b fl), .ref aS, .int (nI tk), .ref aL, .ref aX, .int (nI md), .int (nI gi), .int (nI su), .int (nI ps), .int (nI cs)])), (aK, .inl (cI, 5, .inl fK)), (aN, .inl (cI, 25, .inl fN)), (aB, .inl (cI, 120, .inl fB)), (aS, .inl (cI, 120, .inl fS)), (aL, .inl (cI, 2300, .inl fL)), (aX, .inl (cI, 2300, .inl fX))]) sz) := by
  refine fq_open (by decide +kernel) (Nat.le_of_ble_eq_true rfl) ?_
  intro pg ev s mt below meth cd ls K hret hlk hin hK hZ hP hD hA hS hl
  generalize va_A ([(h, .inr (12, [.int (nI rm), .int (fq_b sd), .int (nI ns), .ref aK, .ref aN, .int (nI iw), .int (nI ow), .int (fq_b ih), .int (fq_b oh), .ref aB, .int (nI ca), .int (nI us), .int (fq_b cl), .int (fq_b fl), .ref aS, .int (nI tk), .ref aL, .ref aX, .int (nI md), .int (nI gi), .int (nI su), .int (nI ps), .int (nI cs)])), (aK, .inl (cI, 5, .inl fK)), (aN, .inl (cI, 25, .inl fN)), (aB, .inl (cI, 120, .inl fB)), (aS, .inl (cI, 120, .inl fS)), (aL, .inl (cI, 2300, .inl fL)), (aX, .inl (cI, 2300, .inl fX))]) sz = A at hZ hD hA hS ⊢
  have K : fq_Ctx pg mt cd cb_Mo_resample 5 s _ cn_Mo := K
  have hl : lv_has ls 5 [(0, .ref h), (1, .int xn), (2, .int y)] := hl
  refine lv_iconst (v := 0) K.1 K.2.1 dc_Mo_resample_0 (by decide) ?_
  refine lv_istore_n K.1 K.2.1 dc_Mo_resample_1 rfl hl (by decide) rfl (fun ls hl => ?_)
  have hl : lv_has ls 5 [(3, .int 0), (0, .ref h), (1, .int xn), (2, .int y)] := hl
  refine lv_iconst (v := 0) K.1 K.2.1 dc_Mo_resample_2 (by decide) ?_
  refine lv_istore K.1 K.2.1 dc_Mo_resample_3 hl (by decide) rfl (fun ls hl => ?_)
  have hl : lv_has ls 5 [(4, .int 0), (3, .int 0), (0, .ref h), (1, .int xn), (2, .int y)] := hl
  refine fq_lp (σ := Nat × Nat) (fun x => ns - x.1) (fun x H locs ls => (x.1 ≤ ns ∧ x.2 = ot_n fK x.1) ∧ lv_has ls 5 [(0, .ref h), (1, .int xn), (2, .int y), (3, .int (nI x.2)), (4, .int (nI x.1))] ∧ va_P D fq_cl ([(h, .inr (12, [.int (nI rm), .int (fq_b sd), .int (nI ns), .ref aK, .ref aN, .int (nI iw), .int (nI ow), .int (fq_b ih), .int (fq_b oh), .ref aB, .int (nI ca), .int (nI us), .int (fq_b cl), .int (fq_b fl), .ref aS, .int (nI tk), .ref aL, .ref aX, .int (nI md), .int (nI gi), .int (nI su), .int (nI ps), .int (nI cs)])), (aK, .inl (cI, 5, .inl fK)), (aN, .inl (cI, 25, .inl fN)), (aB, .inl (cI, 120, .inl fB)), (aS, .inl (cI, 120, .inl fS)), (aL, .inl (cI, 2300, .inl fL)), (aX, .inl (cI, 2300, .inl fX))]) H ∧ va_D A ([(h, .inr (12, [.int (nI rm), .int (fq_b sd), .int (nI ns), .ref aK, .ref aN, .int (nI iw), .int (nI ow), .int (fq_b ih), .int (fq_b oh), .ref aB, .int (nI ca), .int (nI us), .int (fq_b cl), .int (fq_b fl), .ref aS, .int (nI tk), .ref aL, .ref aX, .int (nI md), .int (nI gi), .int (nI su), .int (nI ps), .int (nI cs)])), (aK, .inl (cI, 5, .inl fK)), (aN, .inl (cI, 25, .inl fN)), (aB, .inl (cI, 120, .inl fB)), (aS, .inl (cI, 120, .inl fS)), (aL, .inl (cI, 2300, .inl fL)), (aX, .inl (cI, 2300, .inl fX))]) ∧ va_S A s.heap H locs) ?_ (0, 0) _ _ _ ⟨⟨Nat.zero_le _, rfl⟩, lv_sub hl [2, 3, 4, 1, 0] rfl, hP, hD, hS⟩
  rintro ⟨k, oc⟩ H locs ls ⟨hI5, hl, hP, hD, hS⟩ ih5
  have hI5 : k ≤ ns ∧ oc = ot_n fK k := hI5
  have hl : lv_has ls 5 [(0, .ref h), (1, .int xn), (2, .int y), (3, .int (nI oc)), (4, .int (nI k))] := hl
  have hP : va_P D fq_cl ([(h, .inr (12, [.int (nI rm), .int (fq_b sd), .int (nI ns), .ref aK, .ref aN, .int (nI iw), .int (nI ow), .int (fq_b ih), .int (fq_b oh), .ref aB, .int (nI ca), .int (nI us), .int (fq_b cl), .int (fq_b fl), .ref aS, .int (nI tk), .ref aL, .ref aX, .int (nI md), .int (nI gi), .int (nI su), .int (nI ps), .int (nI cs)])), (aK, .inl (cI, 5, .inl fK)), (aN, .inl (cI, 25, .inl fN)), (aB, .inl (cI, 120, .inl fB)), (aS, .inl (cI, 120, .inl fS)), (aL, .inl (cI, 2300, .inl fL)), (aX, .inl (cI, 2300, .inl fX))]) _ := hP
  have hD : va_D A ([(h, .inr (12, [.int (nI rm), .int (fq_b sd), .int (nI ns), .ref aK, .ref aN, .int (nI iw), .int (nI ow), .int (fq_b ih), .int (fq_b oh), .ref aB, .int (nI ca), .int (nI us), .int (fq_b cl), .int (fq_b fl), .ref aS, .int (nI tk), .ref aL, .ref aX, .int (nI md), .int (nI gi), .int (nI su), .int (nI ps), .int (nI cs)])), (aK, .inl (cI, 5, .inl fK)), (aN, .inl (cI, 25, .inl fN)), (aB, .inl (cI, 120, .inl fB)), (aS, .inl (cI, 120, .inl fS)), (aL, .inl (cI, 2300, .inl fL)), (aX, .inl (cI, 2300, .inl fX))]) := hD
  refine lv_iload K.1 K.2.1 dc_Mo_resample_5 (lv_at hl 4 rfl) ?_
  refine lv_aload_n K.1 K.2.1 dc_Mo_resample_7 rfl (lv_at hl 0 rfl) ?_
  refine fq_get K hK cl_Mo hP 0 2 rfl (by decide) wd_772 rfl dc_Mo_resample_8 ?_
  refine lv_icmp_ge (tgt := 34) K.1 K.2.1 dc_Mo_resample_11 rfl (fun b11 => ?_) (fun b11 => ?_)
  · skip
    have hk : k = ns := by have := hI5.1; rw [nI_leI (by omega) (by omega)] at b11; omega
    have hoc : oc = ot_n fK ns := by rw [← hk]; exact hI5.2
    have hob := ot_le fK ns
    refine lv_aload_n K.1 K.2.1 dc_Mo_resample_34 rfl (lv_at hl 0 rfl) ?_
    have hc := fq_cut.of (wc := [(h, .inr (12, [.int (nI rm), .int (fq_b sd), .int (nI ns), .ref aK, .ref aN, .int (nI iw), .int (nI ow), .int (fq_b ih), .int (fq_b oh), .ref aB, .int (nI ca), .int (nI us), .int (fq_b cl), .int (fq_b fl), .ref aS, .int (nI tk), .ref aL, .ref aX, .int (nI md), .int (nI gi), .int (nI su), .int (nI ps), .int (nI cs)])), (aK, .inl (cI, 5, .inl fK)), (aN, .inl (cI, 25, .inl fN)), (aB, .inl (cI, 120, .inl fB)), (aS, .inl (cI, 120, .inl fS)), (aL, .inl (cI, 2300, .inl fL)), (aX, .inl (cI, 2300, .inl fX))]) hP hD hS hA [0, 1, 2, 3, 4, 5, 6] (by decide) rfl
    refine fq_ci (wr := []) (fq_rV K hK hZ hS hc (ct_Mo_canAdd l D cI cO tE h aK aN aB aS aL aX rm sd ns iw ow ih oh ca us cl fl tk md gi su ps cs fK fN fB fS fL fX hns _) yk_Mo_canAdd wd_846 wd_13 wd_844 0 rfl rfl rfl ⟨⟨rfl, rfl⟩, ⟨Nat.le_of_ble_eq_true rfl, Nat.le_of_ble_eq_true rfl⟩, ⟨Nat.le_of_ble_eq_true rfl, Nat.le_of_ble_eq_true rfl⟩⟩ hl.1 rfl (Nat.le_of_ble_eq_true rfl) dc_Mo_resample_35) hP hD hS hc [0, 1, 2, 3, 4, 5, 6] [] rfl rfl (by decide) (by decide) (fun r1 w H locs hw1 hP hD hS => ?_)
    obtain ⟨rfl, rfl⟩ := hw1
    have hP : va_P D fq_cl ([(h, .inr (12, [.int (nI rm), .int (fq_b sd), .int (nI ns), .ref aK, .ref aN, .int (nI iw), .int (nI ow), .int (fq_b ih), .int (fq_b oh), .ref aB, .int (nI ca), .int (nI us), .int (fq_b cl), .int (fq_b fl), .ref aS, .int (nI tk), .ref aL, .ref aX, .int (nI md), .int (nI gi), .int (nI su), .int (nI ps), .int (nI cs)])), (aK, .inl (cI, 5, .inl fK)), (aN, .inl (cI, 25, .inl fN)), (aB, .inl (cI, 120, .inl fB)), (aS, .inl (cI, 120, .inl fS)), (aL, .inl (cI, 2300, .inl fL)), (aX, .inl (cI, 2300, .inl fX))]) _ := hP
    have hD : va_D A ([(h, .inr (12, [.int (nI rm), .int (fq_b sd), .int (nI ns), .ref aK, .ref aN, .int (nI iw), .int (nI ow), .int (fq_b ih), .int (fq_b oh), .ref aB, .int (nI ca), .int (nI us), .int (fq_b cl), .int (fq_b fl), .ref aS, .int (nI tk), .ref aL, .ref aX, .int (nI md), .int (nI gi), .int (nI su), .int (nI ps), .int (nI cs)])), (aK, .inl (cI, 5, .inl fK)), (aN, .inl (cI, 25, .inl fN)), (aB, .inl (cI, 120, .inl fB)), (aS, .inl (cI, 120, .inl fS)), (aL, .inl (cI, 2300, .inl fL)), (aX, .inl (cI, 2300, .inl fX))]) := hD
    refine lv_if_eq (tgt := 66) K.1 K.2.1 dc_Mo_resample_38 rfl (fun b38 => ?_) (fun b38 => ?_)
    · skip
      have hn : ¬ ((sd = false ∧ ns < 5) ∧ ¬ ot_n fK ns = 2 ∧ (1 ≤ xn.toInt ∧ xn.toInt ≤ 4) ∧ 1 ≤ y.toInt ∧ y.toInt ≤ 4) := fun z => fq_z1.mp b38 z.1
      refine lv_iconst (v := 0) K.1 K.2.1 dc_Mo_resample_66 (by decide) ?_
      exact fq_retz K hret hlk hS hP hD (by first | exact Or.inl rfl | exact Or.inr rfl) (by rw [if_neg hn]; exact ⟨rfl, rfl⟩) dc_Mo_resample_67 (Nat.le_of_ble_eq_true rfl) (Nat.le_of_ble_eq_true rfl)
    · skip
      have hca := fq_zp b38
      refine lv_iload_n K.1 K.2.1 dc_Mo_resample_41 rfl (lv_at hl 3 rfl) ?_
      refine lv_iconst (v := 2) K.1 K.2.1 dc_Mo_resample_42 (by decide) ?_
      refine lv_icmp_eq (tgt := 66) K.1 K.2.1 dc_Mo_resample_43 rfl (fun b43 => ?_) (fun b43 => ?_)
      · skip
        have hn : ¬ ((sd = false ∧ ns < 5) ∧ ¬ ot_n fK ns = 2 ∧ (1 ≤ xn.toInt ∧ xn.toInt ≤ 4) ∧ 1 ≤ y.toInt ∧ y.toInt ≤ 4) := fun z => z.2.1 (by rw [← hoc]; exact (nI_eq (by omega) (by decide)).mp b43)
        refine lv_iconst (v := 0) K.1 K.2.1 dc_Mo_resample_66 (by decide) ?_
        exact fq_retz K hret hlk hS hP hD (by first | exact Or.inl rfl | exact Or.inr rfl) (by rw [if_neg hn]; exact ⟨rfl, rfl⟩) dc_Mo_resample_67 (Nat.le_of_ble_eq_true rfl) (Nat.le_of_ble_eq_true rfl)
      · skip
        have ho2 : ¬ ot_n fK ns = 2 := fun z => b43 (by rw [hoc, z]; rfl)
        refine lv_iload_n K.1 K.2.1 dc_Mo_resample_46 rfl (lv_at hl 1 rfl) ?_
        refine lv_iconst (v := 1) K.1 K.2.1 dc_Mo_resample_47 (by decide) ?_
        refine lv_icmp_lt (tgt := 66) K.1 K.2.1 dc_Mo_resample_48 rfl (fun b48 => ?_) (fun b48 => ?_)
        · skip
          rw [Int32.lt_iff_toInt_lt, show (1 : Int32).toInt = 1 by decide] at b48
          have hn : ¬ ((sd = false ∧ ns < 5) ∧ ¬ ot_n fK ns = 2 ∧ (1 ≤ xn.toInt ∧ xn.toInt ≤ 4) ∧ 1 ≤ y.toInt ∧ y.toInt ≤ 4) := fun z => by have := z.2.2; omega
          refine lv_iconst (v := 0) K.1 K.2.1 dc_Mo_resample_66 (by decide) ?_
          exact fq_retz K hret hlk hS hP hD (by first | exact Or.inl rfl | exact Or.inr rfl) (by rw [if_neg hn]; exact ⟨rfl, rfl⟩) dc_Mo_resample_67 (Nat.le_of_ble_eq_true rfl) (Nat.le_of_ble_eq_true rfl)
        · skip
          rw [Int32.lt_iff_toInt_lt, show (1 : Int32).toInt = 1 by decide] at b48
          refine lv_iload_n K.1 K.2.1 dc_Mo_resample_51 rfl (lv_at hl 1 rfl) ?_
          refine lv_iconst (v := 4) K.1 K.2.1 dc_Mo_resample_52 (by decide) ?_
          refine lv_icmp_gt (tgt := 66) K.1 K.2.1 dc_Mo_resample_53 rfl (fun b53 => ?_) (fun b53 => ?_)
          · skip
            rw [Int32.lt_iff_toInt_lt, show (4 : Int32).toInt = 4 by decide] at b53
            have hn : ¬ ((sd = false ∧ ns < 5) ∧ ¬ ot_n fK ns = 2 ∧ (1 ≤ xn.toInt ∧ xn.toInt ≤ 4) ∧ 1 ≤ y.toInt ∧ y.toInt ≤ 4) := fun z => by have := z.2.2; omega
            refine lv_iconst (v := 0) K.1 K.2.1 dc_Mo_resample_66 (by decide) ?_
            exact fq_retz K hret hlk hS hP hD (by first | exact Or.inl rfl | exact Or.inr rfl) (by rw [if_neg hn]; exact ⟨rfl, rfl⟩) dc_Mo_resample_67 (Nat.le_of_ble_eq_true rfl) (Nat.le_of_ble_eq_true rfl)
          · skip
            rw [Int32.lt_iff_toInt_lt, show (4 : Int32).toInt = 4 by decide] at b53
            refine lv_iload_n K.1 K.2.1 dc_Mo_resample_56 rfl (lv_at hl 2 rfl) ?_
            refine lv_iconst (v := 1) K.1 K.2.1 dc_Mo_resample_57 (by decide) ?_
            refine lv_icmp_lt (tgt := 66) K.1 K.2.1 dc_Mo_resample_58 rfl (fun b58 => ?_) (fun b58 => ?_)
            · skip
              rw [Int32.lt_iff_toInt_lt, show (1 : Int32).toInt = 1 by decide] at b58
              have hn : ¬ ((sd = false ∧ ns < 5) ∧ ¬ ot_n fK ns = 2 ∧ (1 ≤ xn.toInt ∧ xn.toInt ≤ 4) ∧ 1 ≤ y.toInt ∧ y.toInt ≤ 4) := fun z => by have := z.2.2; omega
              refine lv_iconst (v := 0) K.1 K.2.1 dc_Mo_resample_66 (by decide) ?_
              exact fq_retz K hret hlk hS hP hD (by first | exact Or.inl rfl | exact Or.inr rfl) (by rw [if_neg hn]; exact ⟨rfl, rfl⟩) dc_Mo_resample_67 (Nat.le_of_ble_eq_true rfl) (Nat.le_of_ble_eq_true rfl)
            · skip
              rw [Int32.lt_iff_toInt_lt, show (1 : Int32).toInt = 1 by decide] at b58
              refine lv_iload_n K.1 K.2.1 dc_Mo_resample_61 rfl (lv_at hl 2 rfl) ?_
              refine lv_iconst (v := 4) K.1 K.2.1 dc_Mo_resample_62 (by decide) ?_
              refine lv_icmp_le (tgt := 68) K.1 K.2.1 dc_Mo_resample_63 rfl (fun b63 => ?_) (fun b63 => ?_)
              · skip
                rw [Int32.le_iff_toInt_le, show (4 : Int32).toInt = 4 by decide] at b63
                have hg := rs_gb (a := xn.toInt.toNat) (b := y.toInt.toNat) ⟨by omega, by omega⟩ ⟨by omega, by omega⟩
                refine lv_iload_n K.1 K.2.1 dc_Mo_resample_68 rfl (lv_at hl 1 rfl) ?_
                refine fq_asi (y := nI xn.toInt.toNat) (fz_n (by omega)) ?_
                refine lv_iload_n K.1 K.2.1 dc_Mo_resample_69 rfl (lv_at hl 2 rfl) ?_
                refine fq_asi (y := nI y.toInt.toNat) (fz_n (by omega)) ?_
                have hc := fq_cut.of (wc := []) hP hD hS hA [] (by decide) rfl
                refine fq_ci (wr := [(h, .inr (12, [.int (nI rm), .int (fq_b sd), .int (nI ns), .ref aK, .ref aN, .int (nI iw), .int (nI ow), .int (fq_b ih), .int (fq_b oh), .ref aB, .int (nI ca), .int (nI us), .int (fq_b cl), .int (fq_b fl), .ref aS, .int (nI tk), .ref aL, .ref aX, .int (nI md), .int (nI gi), .int (nI su), .int (nI ps), .int (nI cs)])), (aK, .inl (cI, 5, .inl fK)), (aN, .inl (cI, 25, .inl fN)), (aB, .inl (cI, 120, .inl fB)), (aS, .inl (cI, 120, .inl fS)), (aL, .inl (cI, 2300, .inl fL)), (aX, .inl (cI, 2300, .inl fX))]) (fq_rS K hK hZ hS hc (ct_Mo_divisor l D cI cO tE xn.toInt.toNat y.toInt.toNat (⟨by omega, by omega⟩) (⟨by omega, by omega⟩) _) yk_Mo_divisor wd_886 wd_885 ⟨⟨rfl, rfl⟩, ⟨Nat.le_of_ble_eq_true rfl, Nat.le_of_ble_eq_true rfl⟩, ⟨Nat.le_of_ble_eq_true rfl, Nat.le_of_ble_eq_true rfl⟩⟩ hl.1 rfl (Nat.le_of_ble_eq_true rfl) dc_Mo_resample_70) hP hD hS hc [] [0, 1, 2, 3, 4, 5, 6] rfl rfl (by decide) (by decide) (fun r2 w H locs hw2 hP hD hS => ?_)
                obtain ⟨rfl, rfl⟩ := hw2
                have hP : va_P D fq_cl ([(h, .inr (12, [.int (nI rm), .int (fq_b sd), .int (nI ns), .ref aK, .ref aN, .int (nI iw), .int (nI ow), .int (fq_b ih), .int (fq_b oh), .ref aB, .int (nI ca), .int (nI us), .int (fq_b cl), .int (fq_b fl), .ref aS, .int (nI tk), .ref aL, .ref aX, .int (nI md), .int (nI gi), .int (nI su), .int (nI ps), .int (nI cs)])), (aK, .inl (cI, 5, .inl fK)), (aN, .inl (cI, 25, .inl fN)), (aB, .inl (cI, 120, .inl fB)), (aS, .inl (cI, 120, .inl fS)), (aL, .inl (cI, 2300, .inl fL)), (aX, .inl (cI, 2300, .inl fX))]) _ := hP
                have hD : va_D A ([(h, .inr (12, [.int (nI rm), .int (fq_b sd), .int (nI ns), .ref aK, .ref aN, .int (nI iw), .int (nI ow), .int (fq_b ih), .int (fq_b oh), .ref aB, .int (nI ca), .int (nI us), .int (fq_b cl), .int (fq_b fl), .ref aS, .int (nI tk), .ref aL, .ref aX, .int (nI md), .int (nI gi), .int (nI su), .int (nI ps), .int (nI cs)])), (aK, .inl (cI, 5, .inl fK)), (aN, .inl (cI, 25, .inl fN)), (aB, .inl (cI, 120, .inl fB)), (aS, .inl (cI, 120, .inl fS)), (aL, .inl (cI, 2300, .inl fL)), (aX, .inl (cI, 2300, .inl fX))]) := hD
                refine lv_istore K.1 K.2.1 dc_Mo_resample_73 hl (by decide) rfl (fun ls hl => ?_)
                have hl : lv_has ls 5 [(4, .int (nI (rs_g xn.toInt.toNat y.toInt.toNat))), (0, .ref h), (1, .int xn), (2, .int y), (3, .int (nI oc))] := hl
                refine lv_aload_n K.1 K.2.1 dc_Mo_resample_75 rfl (lv_at hl 1 rfl) ?_
                refine lv_iconst (v := 3) K.1 K.2.1 dc_Mo_resample_76 (by decide) ?_
                refine lv_iload_n K.1 K.2.1 dc_Mo_resample_77 rfl (lv_at hl 2 rfl) ?_
                refine fq_asi (y := nI xn.toInt.toNat) (fz_n (by omega)) ?_
                refine lv_iload K.1 K.2.1 dc_Mo_resample_78 (lv_at hl 0 rfl) ?_
                refine lv_idiv K.1 K.2.1 dc_Mo_resample_80 (nI_ne0 (by omega) (by omega)) ?_
                refine fq_asi (y := nI (xn.toInt.toNat / rs_g xn.toInt.toNat y.toInt.toNat)) (pk_div (by omega) (by omega) (by omega)) ?_
                refine lv_iload_n K.1 K.2.1 dc_Mo_resample_81 rfl (lv_at hl 3 rfl) ?_
                refine fq_asi (y := nI y.toInt.toNat) (fz_n (by omega)) ?_
                refine lv_iload K.1 K.2.1 dc_Mo_resample_82 (lv_at hl 0 rfl) ?_
                refine lv_idiv K.1 K.2.1 dc_Mo_resample_84 (nI_ne0 (by omega) (by omega)) ?_
                refine fq_asi (y := nI (y.toInt.toNat / rs_g xn.toInt.toNat y.toInt.toNat)) (pk_div (by omega) (by omega) (by omega)) ?_
                refine lv_iconst (v := 0) K.1 K.2.1 dc_Mo_resample_85 (by decide) ?_
                refine lv_iconst (v := 0) K.1 K.2.1 dc_Mo_resample_86 (by decide) ?_
                refine lv_iconst (v := 0) K.1 K.2.1 dc_Mo_resample_87 (by decide) ?_
                have hc := fq_cut.of (wc := [(h, .inr (12, [.int (nI rm), .int (fq_b sd), .int (nI ns), .ref aK, .ref aN, .int (nI iw), .int (nI ow), .int (fq_b ih), .int (fq_b oh), .ref aB, .int (nI ca), .int (nI us), .int (fq_b cl), .int (fq_b fl), .ref aS, .int (nI tk), .ref aL, .ref aX, .int (nI md), .int (nI gi), .int (nI su), .int (nI ps), .int (nI cs)])), (aK, .inl (cI, 5, .inl fK)), (aN, .inl (cI, 25, .inl fN)), (aB, .inl (cI, 120, .inl fB)), (aS, .inl (cI, 120, .inl fS)), (aL, .inl (cI, 2300, .inl fL)), (aX, .inl (cI, 2300, .inl fX))]) hP hD hS hA [0, 1, 2, 3, 4, 5, 6] (by decide) rfl
                refine fq_cv (wr := []) (fq_rV K hK hZ hS hc (ct_Mo_add l D cI cO tE h aK aN aB aS aL aX rm sd ns iw ow ih oh ca us cl fl tk md gi su ps cs fK fN fB fS fL fX 3 (nI (xn.toInt.toNat / rs_g xn.toInt.toNat y.toInt.toNat)) (nI (y.toInt.toNat / rs_g xn.toInt.toNat y.toInt.toNat)) 0 0 0 hca.2 _) yk_Mo_add wd_853 wd_14 wd_851 0 rfl rfl rfl ⟨⟨rfl, rfl⟩, ⟨Nat.le_of_ble_eq_true rfl, Nat.le_of_ble_eq_true rfl⟩, ⟨Nat.le_of_ble_eq_true rfl, Nat.le_of_ble_eq_true rfl⟩⟩ hl.1 rfl (Nat.le_of_ble_eq_true rfl) dc_Mo_resample_88) hP hD hS hc [0, 1, 2, 3, 4, 5, 6] [] rfl rfl (by decide) (by decide) (fun  w H locs hw3 hP hD hS => ?_)
                subst hw3
                have hP : va_P D fq_cl ([(h, .inr (12, [.int (nI rm), .int (fq_b sd), .int (nI (ns + 1)), .ref aK, .ref aN, .int (nI iw), .int (nI ow), .int (fq_b ih), .int (fq_b oh), .ref aB, .int (nI ca), .int (nI us), .int (fq_b cl), .int (fq_b fl), .ref aS, .int (nI tk), .ref aL, .ref aX, .int (nI md), .int (nI gi), .int (nI su), .int (nI ps), .int (nI cs)])), (aK, .inl (cI, 5, .inl (upd fK ns 3))), (aN, .inl (cI, 25, .inl (upd (upd (upd (upd (upd fN (5 * ns) (nI (xn.toInt.toNat / rs_g xn.toInt.toNat y.toInt.toNat))) (5 * ns + 1) (nI (y.toInt.toNat / rs_g xn.toInt.toNat y.toInt.toNat))) (5 * ns + 2) 0) (5 * ns + 3) 0) (5 * ns + 4) 0))), (aB, .inl (cI, 120, .inl fB)), (aS, .inl (cI, 120, .inl fS)), (aL, .inl (cI, 2300, .inl fL)), (aX, .inl (cI, 2300, .inl fX))]) _ := hP
                have hD : va_D A ([(h, .inr (12, [.int (nI rm), .int (fq_b sd), .int (nI (ns + 1)), .ref aK, .ref aN, .int (nI iw), .int (nI ow), .int (fq_b ih), .int (fq_b oh), .ref aB, .int (nI ca), .int (nI us), .int (fq_b cl), .int (fq_b fl), .ref aS, .int (nI tk), .ref aL, .ref aX, .int (nI md), .int (nI gi), .int (nI su), .int (nI ps), .int (nI cs)])), (aK, .inl (cI, 5, .inl (upd fK ns 3))), (aN, .inl (cI, 25, .inl (upd (upd (upd (upd (upd fN (5 * ns) (nI (xn.toInt.toNat / rs_g xn.toInt.toNat y.toInt.toNat))) (5 * ns + 1) (nI (y.toInt.toNat / rs_g xn.toInt.toNat y.toInt.toNat))) (5 * ns + 2) 0) (5 * ns + 3) 0) (5 * ns + 4) 0))), (aB, .inl (cI, 120, .inl fB)), (aS, .inl (cI, 120, .inl fS)), (aL, .inl (cI, 2300, .inl fL)), (aX, .inl (cI, 2300, .inl fX))]) := hD
                refine lv_iconst (v := 1) K.1 K.2.1 dc_Mo_resample_91 (by decide) ?_
                exact fq_retz K hret hlk hS hP hD (by first | exact Or.inl rfl | exact Or.inr rfl) (by rw [if_pos ⟨hca, ho2, ⟨by omega, by omega⟩, by omega, by omega⟩]; exact ⟨rfl, rfl⟩) dc_Mo_resample_92 (Nat.le_of_ble_eq_true rfl) (Nat.le_of_ble_eq_true rfl)
              · skip
                rw [Int32.le_iff_toInt_le, show (4 : Int32).toInt = 4 by decide] at b63
                have hn : ¬ ((sd = false ∧ ns < 5) ∧ ¬ ot_n fK ns = 2 ∧ (1 ≤ xn.toInt ∧ xn.toInt ≤ 4) ∧ 1 ≤ y.toInt ∧ y.toInt ≤ 4) := fun z => by have := z.2.2; omega
                refine lv_iconst (v := 0) K.1 K.2.1 dc_Mo_resample_66 (by decide) ?_
                exact fq_retz K hret hlk hS hP hD (by first | exact Or.inl rfl | exact Or.inr rfl) (by rw [if_neg hn]; exact ⟨rfl, rfl⟩) dc_Mo_resample_67 (Nat.le_of_ble_eq_true rfl) (Nat.le_of_ble_eq_true rfl)
  · skip
    have hk : k < ns := by have := hI5.1; rw [nI_leI (by omega) (by omega)] at b11; omega
    refine lv_aload_n K.1 K.2.1 dc_Mo_resample_14 rfl (lv_at hl 0 rfl) ?_
    refine fq_get K hK cl_Mo hP 0 3 rfl (by decide) wd_773 rfl dc_Mo_resample_15 ?_
    refine lv_iload K.1 K.2.1 dc_Mo_resample_18 (lv_at hl 4 rfl) ?_
    refine fq_ald K hK hP 1 rfl (vp_in_nI (show k < 5 by omega) (by decide)) dc_Mo_resample_20 ?_
    refine fq_asi (y := fK k) (by rw [nI_clamp (show k < 2 ^ 31 by omega)]) ?_
    refine lv_iconst (v := 3) K.1 K.2.1 dc_Mo_resample_21 (by decide) ?_
    refine lv_icmp_ne (tgt := 28) K.1 K.2.1 dc_Mo_resample_22 rfl (fun b22 => ?_) (fun b22 => ?_)
    · skip
      refine lv_iinc (v := nI (k + 1)) K.1 K.2.1 dc_Mo_resample_28 hl (k := 4) rfl (nI_1 k) (by decide) rfl (fun ls hl => ?_)
      have hl : lv_has ls 5 [(4, .int (nI (k + 1))), (0, .ref h), (1, .int xn), (2, .int y), (3, .int (nI oc))] := hl
      refine lv_goto (tgt := 5) K.1 K.2.1 dc_Mo_resample_31 rfl ?_
      exact ih5 (k + 1, oc) _ _ _ (by show ns - (k + 1) < ns - k; omega) ⟨⟨hk, ot_x hI5.2 b22⟩, lv_sub hl [1, 2, 3, 4, 0] rfl, hP, hD, hS⟩
    · skip
      refine lv_iinc (v := nI (oc + 1)) K.1 K.2.1 dc_Mo_resample_25 hl (k := 3) rfl (nI_1 oc) (by decide) rfl (fun ls hl => ?_)
      have hl : lv_has ls 5 [(3, .int (nI (oc + 1))), (0, .ref h), (1, .int xn), (2, .int y), (4, .int (nI k))] := hl
      refine lv_iinc (v := nI (k + 1)) K.1 K.2.1 dc_Mo_resample_28 hl (k := 4) rfl (nI_1 k) (by decide) rfl (fun ls hl => ?_)
      have hl : lv_has ls 5 [(4, .int (nI (k + 1))), (3, .int (nI (oc + 1))), (0, .ref h), (1, .int xn), (2, .int y)] := hl
      refine lv_goto (tgt := 5) K.1 K.2.1 dc_Mo_resample_31 rfl ?_
      exact ih5 (k + 1, oc + 1) _ _ _ (by show ns - (k + 1) < ns - k; omega) ⟨⟨hk, ot_y hI5.2 b22⟩, lv_sub hl [2, 3, 4, 1, 0] rfl, hP, hD, hS⟩
