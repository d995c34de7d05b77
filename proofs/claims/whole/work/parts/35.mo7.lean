theorem wd_17 : Cond.selects cn_Mo my_Mo_work my_Mo_work ∈ fq_TB := fq_in 17 (by decide +kernel) rfl
theorem wd_18 : Cond.selects cn_Mo my_Mo_madeOf my_Mo_madeOf ∈ fq_TB := fq_in 18 (by decide +kernel) rfl
theorem wd_19 : Cond.selects cn_Mo my_Mo_pass my_Mo_pass ∈ fq_TB := fq_in 19 (by decide +kernel) rfl
theorem wd_784 : Cond.fieldLink cn_Mo 26 cn_Mo "samples" "[I" ∈ fq_TB := fq_in 784 (by decide +kernel) rfl
theorem wd_860 : Cond.constantLong cn_Mo 71 256 ∈ fq_TB := fq_in 860 (by decide +kernel) rfl
theorem wd_935 : Cond.instanceMethod my_Mo_work ∈ fq_TB := fq_in 935 (by decide +kernel) rfl
theorem wd_936 : Cond.code my_Mo_work cb_Mo_work 4 none ∈ fq_TB := fq_in 936 (by decide +kernel) rfl
theorem wd_937 : Cond.methodLink cn_Mo 131 my_Mo_madeOf ∈ fq_TB := fq_in 937 (by decide +kernel) rfl
theorem wd_939 : Cond.instanceMethod my_Mo_madeOf ∈ fq_TB := fq_in 939 (by decide +kernel) rfl
theorem wd_940 : Cond.code my_Mo_madeOf cb_Mo_madeOf 6 (some .int) ∈ fq_TB := fq_in 940 (by decide +kernel) rfl
theorem wd_941 : Cond.methodLink cn_Mo 134 my_Mo_pass ∈ fq_TB := fq_in 941 (by decide +kernel) rfl
theorem wd_943 : Cond.instanceMethod my_Mo_pass ∈ fq_TB := fq_in 943 (by decide +kernel) rfl
theorem wd_944 : Cond.code my_Mo_pass cb_Mo_pass 6 none ∈ fq_TB := fq_in 944 (by decide +kernel) rfl
theorem wd_945 : Cond.methodLink cn_Mo 117 my_Mo_sectionAt ∈ fq_TB := fq_in 945 (by decide +kernel) rfl
theorem wd_960 : Cond.methodLink cn_Mo 121 my_Mo_windowAt ∈ fq_TB := fq_in 960 (by decide +kernel) rfl
theorem wd_964 : Cond.methodLink cn_Mo 125 my_Mo_resampledAt ∈ fq_TB := fq_in 964 (by decide +kernel) rfl

theorem mo_nn {sp : fm_S} (hok : fm_ok sp) (h : 2 ≤ sp.1) : 0 ≤ sp.2.1 ∧ 0 ≤ sp.2.2.1 := by
  obtain ⟨h3, -, -, hw, hr⟩ := hok
  by_cases e : sp.1 = 2
  · obtain ⟨a, b, c⟩ := hw e; omega
  · obtain ⟨a, b⟩ := hr (by omega); omega

theorem dc_Mo_madeOf_0 : decode cb_Mo_madeOf 0 = .ok (.iload_n 2, 1) := by decide +kernel
theorem dc_Mo_madeOf_1 : decode cb_Mo_madeOf 1 = .ok (.ifCond .eq 13, 3) := by decide +kernel
theorem dc_Mo_madeOf_4 : decode cb_Mo_madeOf 4 = .ok (.aload_n 0, 1) := by decide +kernel
theorem dc_Mo_madeOf_5 : decode cb_Mo_madeOf 5 = .ok (.getfield 7, 3) := by decide +kernel
theorem dc_Mo_madeOf_8 : decode cb_Mo_madeOf 8 = .ok (.iload_n 1, 1) := by decide +kernel
theorem dc_Mo_madeOf_9 : decode cb_Mo_madeOf 9 = .ok (.iaload, 1) := by decide +kernel
theorem dc_Mo_madeOf_10 : decode cb_Mo_madeOf 10 = .ok (.iconst 2, 1) := by decide +kernel
theorem dc_Mo_madeOf_11 : decode cb_Mo_madeOf 11 = .ok (.if_icmp .ge 5, 3) := by decide +kernel
theorem dc_Mo_madeOf_14 : decode cb_Mo_madeOf 14 = .ok (.iload_n 2, 1) := by decide +kernel
theorem dc_Mo_madeOf_15 : decode cb_Mo_madeOf 15 = .ok (.ireturn, 1) := by decide +kernel
theorem dc_Mo_madeOf_16 : decode cb_Mo_madeOf 16 = .ok (.aload_n 0, 1) := by decide +kernel
theorem dc_Mo_madeOf_17 : decode cb_Mo_madeOf 17 = .ok (.getfield 13, 3) := by decide +kernel
theorem dc_Mo_madeOf_20 : decode cb_Mo_madeOf 20 = .ok (.iconst 5, 1) := by decide +kernel
theorem dc_Mo_madeOf_21 : decode cb_Mo_madeOf 21 = .ok (.iload_n 1, 1) := by decide +kernel
theorem dc_Mo_madeOf_22 : decode cb_Mo_madeOf 22 = .ok (.imul, 1) := by decide +kernel
theorem dc_Mo_madeOf_23 : decode cb_Mo_madeOf 23 = .ok (.iaload, 1) := by decide +kernel
theorem dc_Mo_madeOf_24 : decode cb_Mo_madeOf 24 = .ok (.istore_n 3, 1) := by decide +kernel
theorem dc_Mo_madeOf_25 : decode cb_Mo_madeOf 25 = .ok (.aload_n 0, 1) := by decide +kernel
theorem dc_Mo_madeOf_26 : decode cb_Mo_madeOf 26 = .ok (.getfield 13, 3) := by decide +kernel
theorem dc_Mo_madeOf_29 : decode cb_Mo_madeOf 29 = .ok (.iconst 5, 1) := by decide +kernel
theorem dc_Mo_madeOf_30 : decode cb_Mo_madeOf 30 = .ok (.iload_n 1, 1) := by decide +kernel
theorem dc_Mo_madeOf_31 : decode cb_Mo_madeOf 31 = .ok (.imul, 1) := by decide +kernel
theorem dc_Mo_madeOf_32 : decode cb_Mo_madeOf 32 = .ok (.iconst 1, 1) := by decide +kernel
theorem dc_Mo_madeOf_33 : decode cb_Mo_madeOf 33 = .ok (.iadd, 1) := by decide +kernel
theorem dc_Mo_madeOf_34 : decode cb_Mo_madeOf 34 = .ok (.iaload, 1) := by decide +kernel
theorem dc_Mo_madeOf_35 : decode cb_Mo_madeOf 35 = .ok (.istore 4, 2) := by decide +kernel
theorem dc_Mo_madeOf_37 : decode cb_Mo_madeOf 37 = .ok (.aload_n 0, 1) := by decide +kernel
theorem dc_Mo_madeOf_38 : decode cb_Mo_madeOf 38 = .ok (.getfield 7, 3) := by decide +kernel
theorem dc_Mo_madeOf_41 : decode cb_Mo_madeOf 41 = .ok (.iload_n 1, 1) := by decide +kernel
theorem dc_Mo_madeOf_42 : decode cb_Mo_madeOf 42 = .ok (.iaload, 1) := by decide +kernel
theorem dc_Mo_madeOf_43 : decode cb_Mo_madeOf 43 = .ok (.iconst 2, 1) := by decide +kernel
theorem dc_Mo_madeOf_44 : decode cb_Mo_madeOf 44 = .ok (.if_icmp .ne 21, 3) := by decide +kernel
theorem dc_Mo_madeOf_47 : decode cb_Mo_madeOf 47 = .ok (.aload_n 0, 1) := by decide +kernel
theorem dc_Mo_madeOf_48 : decode cb_Mo_madeOf 48 = .ok (.getfield 114, 3) := by decide +kernel
theorem dc_Mo_madeOf_51 : decode cb_Mo_madeOf 51 = .ok (.ifCond .eq 12, 3) := by decide +kernel
theorem dc_Mo_madeOf_54 : decode cb_Mo_madeOf 54 = .ok (.iload_n 2, 1) := by decide +kernel
theorem dc_Mo_madeOf_55 : decode cb_Mo_madeOf 55 = .ok (.iload 4, 2) := by decide +kernel
theorem dc_Mo_madeOf_57 : decode cb_Mo_madeOf 57 = .ok (.iadd, 1) := by decide +kernel
theorem dc_Mo_madeOf_58 : decode cb_Mo_madeOf 58 = .ok (.iconst 1, 1) := by decide +kernel
theorem dc_Mo_madeOf_59 : decode cb_Mo_madeOf 59 = .ok (.isub, 1) := by decide +kernel
theorem dc_Mo_madeOf_60 : decode cb_Mo_madeOf 60 = .ok (.goto 4, 3) := by decide +kernel
theorem dc_Mo_madeOf_63 : decode cb_Mo_madeOf 63 = .ok (.iload_n 2, 1) := by decide +kernel
theorem dc_Mo_madeOf_64 : decode cb_Mo_madeOf 64 = .ok (.ireturn, 1) := by decide +kernel
theorem dc_Mo_madeOf_65 : decode cb_Mo_madeOf 65 = .ok (.iload_n 3, 1) := by decide +kernel
theorem dc_Mo_madeOf_66 : decode cb_Mo_madeOf 66 = .ok (.iload 4, 2) := by decide +kernel
theorem dc_Mo_madeOf_68 : decode cb_Mo_madeOf 68 = .ok (.if_icmp .le 7, 3) := by decide +kernel
theorem dc_Mo_madeOf_71 : decode cb_Mo_madeOf 71 = .ok (.iload_n 3, 1) := by decide +kernel
theorem dc_Mo_madeOf_72 : decode cb_Mo_madeOf 72 = .ok (.goto 5, 3) := by decide +kernel
theorem dc_Mo_madeOf_75 : decode cb_Mo_madeOf 75 = .ok (.iload 4, 2) := by decide +kernel
theorem dc_Mo_madeOf_77 : decode cb_Mo_madeOf 77 = .ok (.istore 5, 2) := by decide +kernel
theorem dc_Mo_madeOf_79 : decode cb_Mo_madeOf 79 = .ok (.aload_n 0, 1) := by decide +kernel
theorem dc_Mo_madeOf_80 : decode cb_Mo_madeOf 80 = .ok (.getfield 114, 3) := by decide +kernel
theorem dc_Mo_madeOf_83 : decode cb_Mo_madeOf 83 = .ok (.ifCond .eq 21, 3) := by decide +kernel
theorem dc_Mo_madeOf_86 : decode cb_Mo_madeOf 86 = .ok (.iload_n 2, 1) := by decide +kernel
theorem dc_Mo_madeOf_87 : decode cb_Mo_madeOf 87 = .ok (.iload_n 3, 1) := by decide +kernel
theorem dc_Mo_madeOf_88 : decode cb_Mo_madeOf 88 = .ok (.imul, 1) := by decide +kernel
theorem dc_Mo_madeOf_89 : decode cb_Mo_madeOf 89 = .ok (.iconst 2, 1) := by decide +kernel
theorem dc_Mo_madeOf_90 : decode cb_Mo_madeOf 90 = .ok (.iload 5, 2) := by decide +kernel
theorem dc_Mo_madeOf_92 : decode cb_Mo_madeOf 92 = .ok (.imul, 1) := by decide +kernel
theorem dc_Mo_madeOf_93 : decode cb_Mo_madeOf 93 = .ok (.iadd, 1) := by decide +kernel
theorem dc_Mo_madeOf_94 : decode cb_Mo_madeOf 94 = .ok (.iconst 3, 1) := by decide +kernel
theorem dc_Mo_madeOf_95 : decode cb_Mo_madeOf 95 = .ok (.isub, 1) := by decide +kernel
theorem dc_Mo_madeOf_96 : decode cb_Mo_madeOf 96 = .ok (.iload 4, 2) := by decide +kernel
theorem dc_Mo_madeOf_98 : decode cb_Mo_madeOf 98 = .ok (.idiv, 1) := by decide +kernel
theorem dc_Mo_madeOf_99 : decode cb_Mo_madeOf 99 = .ok (.iconst 1, 1) := by decide +kernel
theorem dc_Mo_madeOf_100 : decode cb_Mo_madeOf 100 = .ok (.iadd, 1) := by decide +kernel
theorem dc_Mo_madeOf_101 : decode cb_Mo_madeOf 101 = .ok (.goto 14, 3) := by decide +kernel
theorem dc_Mo_madeOf_104 : decode cb_Mo_madeOf 104 = .ok (.iload_n 2, 1) := by decide +kernel
theorem dc_Mo_madeOf_105 : decode cb_Mo_madeOf 105 = .ok (.iload_n 3, 1) := by decide +kernel
theorem dc_Mo_madeOf_106 : decode cb_Mo_madeOf 106 = .ok (.imul, 1) := by decide +kernel
theorem dc_Mo_madeOf_107 : decode cb_Mo_madeOf 107 = .ok (.iload 4, 2) := by decide +kernel
theorem dc_Mo_madeOf_109 : decode cb_Mo_madeOf 109 = .ok (.iadd, 1) := by decide +kernel
theorem dc_Mo_madeOf_110 : decode cb_Mo_madeOf 110 = .ok (.iconst 1, 1) := by decide +kernel
theorem dc_Mo_madeOf_111 : decode cb_Mo_madeOf 111 = .ok (.isub, 1) := by decide +kernel
theorem dc_Mo_madeOf_112 : decode cb_Mo_madeOf 112 = .ok (.iload 4, 2) := by decide +kernel
theorem dc_Mo_madeOf_114 : decode cb_Mo_madeOf 114 = .ok (.idiv, 1) := by decide +kernel
theorem dc_Mo_madeOf_115 : decode cb_Mo_madeOf 115 = .ok (.ireturn, 1) := by decide +kernel
theorem yk_Mo_madeOf : fq_Y my_Mo_madeOf cb_Mo_madeOf 6 (some .int) 2 := ⟨wd_940, wd_36, by decide +kernel⟩
theorem dc_Mo_pass_0 : decode cb_Mo_pass 0 = .ok (.iconst 5, 1) := by decide +kernel
theorem dc_Mo_pass_1 : decode cb_Mo_pass 1 = .ok (.iload_n 1, 1) := by decide +kernel
theorem dc_Mo_pass_2 : decode cb_Mo_pass 2 = .ok (.imul, 1) := by decide +kernel
theorem dc_Mo_pass_3 : decode cb_Mo_pass 3 = .ok (.istore 4, 2) := by decide +kernel
theorem dc_Mo_pass_5 : decode cb_Mo_pass 5 = .ok (.iconst 0, 1) := by decide +kernel
theorem dc_Mo_pass_6 : decode cb_Mo_pass 6 = .ok (.istore 5, 2) := by decide +kernel
theorem dc_Mo_pass_8 : decode cb_Mo_pass 8 = .ok (.iload 5, 2) := by decide +kernel
theorem dc_Mo_pass_10 : decode cb_Mo_pass 10 = .ok (.iload_n 3, 1) := by decide +kernel
theorem dc_Mo_pass_11 : decode cb_Mo_pass 11 = .ok (.if_icmp .ge 155, 3) := by decide +kernel
theorem dc_Mo_pass_14 : decode cb_Mo_pass 14 = .ok (.aload_n 0, 1) := by decide +kernel
theorem dc_Mo_pass_15 : decode cb_Mo_pass 15 = .ok (.getfield 7, 3) := by decide +kernel
theorem dc_Mo_pass_18 : decode cb_Mo_pass 18 = .ok (.iload_n 1, 1) := by decide +kernel
theorem dc_Mo_pass_19 : decode cb_Mo_pass 19 = .ok (.iaload, 1) := by decide +kernel
theorem dc_Mo_pass_20 : decode cb_Mo_pass 20 = .ok (.ifCond .ne 22, 3) := by decide +kernel
theorem dc_Mo_pass_23 : decode cb_Mo_pass 23 = .ok (.aload_n 0, 1) := by decide +kernel
theorem dc_Mo_pass_24 : decode cb_Mo_pass 24 = .ok (.getfield 32, 3) := by decide +kernel
theorem dc_Mo_pass_27 : decode cb_Mo_pass 27 = .ok (.iload 5, 2) := by decide +kernel
theorem dc_Mo_pass_29 : decode cb_Mo_pass 29 = .ok (.aload_n 0, 1) := by decide +kernel
theorem dc_Mo_pass_30 : decode cb_Mo_pass 30 = .ok (.iload 4, 2) := by decide +kernel
theorem dc_Mo_pass_32 : decode cb_Mo_pass 32 = .ok (.iload 5, 2) := by decide +kernel
theorem dc_Mo_pass_34 : decode cb_Mo_pass 34 = .ok (.iload_n 2, 1) := by decide +kernel
theorem dc_Mo_pass_35 : decode cb_Mo_pass 35 = .ok (.invokevirtual 117, 3) := by decide +kernel
theorem dc_Mo_pass_38 : decode cb_Mo_pass 38 = .ok (.iastore, 1) := by decide +kernel
theorem dc_Mo_pass_39 : decode cb_Mo_pass 39 = .ok (.goto 121, 3) := by decide +kernel
theorem dc_Mo_pass_42 : decode cb_Mo_pass 42 = .ok (.aload_n 0, 1) := by decide +kernel
theorem dc_Mo_pass_43 : decode cb_Mo_pass 43 = .ok (.getfield 7, 3) := by decide +kernel
theorem dc_Mo_pass_46 : decode cb_Mo_pass 46 = .ok (.iload_n 1, 1) := by decide +kernel
theorem dc_Mo_pass_47 : decode cb_Mo_pass 47 = .ok (.iaload, 1) := by decide +kernel
theorem dc_Mo_pass_48 : decode cb_Mo_pass 48 = .ok (.iconst 1, 1) := by decide +kernel
theorem dc_Mo_pass_49 : decode cb_Mo_pass 49 = .ok (.if_icmp .ne 38, 3) := by decide +kernel
theorem dc_Mo_pass_52 : decode cb_Mo_pass 52 = .ok (.aload_n 0, 1) := by decide +kernel
theorem dc_Mo_pass_53 : decode cb_Mo_pass 53 = .ok (.getfield 32, 3) := by decide +kernel
theorem dc_Mo_pass_56 : decode cb_Mo_pass 56 = .ok (.iload 5, 2) := by decide +kernel
theorem dc_Mo_pass_58 : decode cb_Mo_pass 58 = .ok (.aload_n 0, 1) := by decide +kernel
theorem dc_Mo_pass_59 : decode cb_Mo_pass 59 = .ok (.getfield 13, 3) := by decide +kernel
theorem dc_Mo_pass_62 : decode cb_Mo_pass 62 = .ok (.iload 4, 2) := by decide +kernel
theorem dc_Mo_pass_64 : decode cb_Mo_pass 64 = .ok (.iaload, 1) := by decide +kernel
theorem dc_Mo_pass_65 : decode cb_Mo_pass 65 = .ok (.i2l, 1) := by decide +kernel
theorem dc_Mo_pass_66 : decode cb_Mo_pass 66 = .ok (.aload_n 0, 1) := by decide +kernel
theorem dc_Mo_pass_67 : decode cb_Mo_pass 67 = .ok (.iload 5, 2) := by decide +kernel
theorem dc_Mo_pass_69 : decode cb_Mo_pass 69 = .ok (.iload_n 2, 1) := by decide +kernel
theorem dc_Mo_pass_70 : decode cb_Mo_pass 70 = .ok (.invokevirtual 106, 3) := by decide +kernel
theorem dc_Mo_pass_73 : decode cb_Mo_pass 73 = .ok (.lmul, 1) := by decide +kernel
theorem dc_Mo_pass_74 : decode cb_Mo_pass 74 = .ok (.ldc2_w 71, 3) := by decide +kernel
theorem dc_Mo_pass_77 : decode cb_Mo_pass 77 = .ok (.invokestatic 40, 3) := by decide +kernel
theorem dc_Mo_pass_80 : decode cb_Mo_pass 80 = .ok (.invokestatic 110, 3) := by decide +kernel
theorem dc_Mo_pass_83 : decode cb_Mo_pass 83 = .ok (.iastore, 1) := by decide +kernel
theorem dc_Mo_pass_84 : decode cb_Mo_pass 84 = .ok (.goto 76, 3) := by decide +kernel
theorem dc_Mo_pass_87 : decode cb_Mo_pass 87 = .ok (.aload_n 0, 1) := by decide +kernel
theorem dc_Mo_pass_88 : decode cb_Mo_pass 88 = .ok (.getfield 7, 3) := by decide +kernel
theorem dc_Mo_pass_91 : decode cb_Mo_pass 91 = .ok (.iload_n 1, 1) := by decide +kernel
theorem dc_Mo_pass_92 : decode cb_Mo_pass 92 = .ok (.iaload, 1) := by decide +kernel
theorem dc_Mo_pass_93 : decode cb_Mo_pass 93 = .ok (.iconst 2, 1) := by decide +kernel
theorem dc_Mo_pass_94 : decode cb_Mo_pass 94 = .ok (.if_icmp .ne 36, 3) := by decide +kernel
theorem dc_Mo_pass_97 : decode cb_Mo_pass 97 = .ok (.aload_n 0, 1) := by decide +kernel
theorem dc_Mo_pass_98 : decode cb_Mo_pass 98 = .ok (.getfield 32, 3) := by decide +kernel
theorem dc_Mo_pass_101 : decode cb_Mo_pass 101 = .ok (.iload 5, 2) := by decide +kernel
theorem dc_Mo_pass_103 : decode cb_Mo_pass 103 = .ok (.aload_n 0, 1) := by decide +kernel
theorem dc_Mo_pass_104 : decode cb_Mo_pass 104 = .ok (.aload_n 0, 1) := by decide +kernel
theorem dc_Mo_pass_105 : decode cb_Mo_pass 105 = .ok (.getfield 13, 3) := by decide +kernel
theorem dc_Mo_pass_108 : decode cb_Mo_pass 108 = .ok (.iload 4, 2) := by decide +kernel
theorem dc_Mo_pass_110 : decode cb_Mo_pass 110 = .ok (.iaload, 1) := by decide +kernel
theorem dc_Mo_pass_111 : decode cb_Mo_pass 111 = .ok (.aload_n 0, 1) := by decide +kernel
theorem dc_Mo_pass_112 : decode cb_Mo_pass 112 = .ok (.getfield 13, 3) := by decide +kernel
theorem dc_Mo_pass_115 : decode cb_Mo_pass 115 = .ok (.iload 4, 2) := by decide +kernel
theorem dc_Mo_pass_117 : decode cb_Mo_pass 117 = .ok (.iconst 1, 1) := by decide +kernel
theorem dc_Mo_pass_118 : decode cb_Mo_pass 118 = .ok (.iadd, 1) := by decide +kernel
theorem dc_Mo_pass_119 : decode cb_Mo_pass 119 = .ok (.iaload, 1) := by decide +kernel
theorem dc_Mo_pass_120 : decode cb_Mo_pass 120 = .ok (.iload 5, 2) := by decide +kernel
theorem dc_Mo_pass_122 : decode cb_Mo_pass 122 = .ok (.iload_n 2, 1) := by decide +kernel
theorem dc_Mo_pass_123 : decode cb_Mo_pass 123 = .ok (.invokevirtual 121, 3) := by decide +kernel
theorem dc_Mo_pass_126 : decode cb_Mo_pass 126 = .ok (.iastore, 1) := by decide +kernel
theorem dc_Mo_pass_127 : decode cb_Mo_pass 127 = .ok (.goto 33, 3) := by decide +kernel
theorem dc_Mo_pass_130 : decode cb_Mo_pass 130 = .ok (.aload_n 0, 1) := by decide +kernel
theorem dc_Mo_pass_131 : decode cb_Mo_pass 131 = .ok (.getfield 32, 3) := by decide +kernel
theorem dc_Mo_pass_134 : decode cb_Mo_pass 134 = .ok (.iload 5, 2) := by decide +kernel
theorem dc_Mo_pass_136 : decode cb_Mo_pass 136 = .ok (.aload_n 0, 1) := by decide +kernel
theorem dc_Mo_pass_137 : decode cb_Mo_pass 137 = .ok (.aload_n 0, 1) := by decide +kernel
theorem dc_Mo_pass_138 : decode cb_Mo_pass 138 = .ok (.getfield 13, 3) := by decide +kernel
theorem dc_Mo_pass_141 : decode cb_Mo_pass 141 = .ok (.iload 4, 2) := by decide +kernel
theorem dc_Mo_pass_143 : decode cb_Mo_pass 143 = .ok (.iaload, 1) := by decide +kernel
theorem dc_Mo_pass_144 : decode cb_Mo_pass 144 = .ok (.aload_n 0, 1) := by decide +kernel
theorem dc_Mo_pass_145 : decode cb_Mo_pass 145 = .ok (.getfield 13, 3) := by decide +kernel
theorem dc_Mo_pass_148 : decode cb_Mo_pass 148 = .ok (.iload 4, 2) := by decide +kernel
theorem dc_Mo_pass_150 : decode cb_Mo_pass 150 = .ok (.iconst 1, 1) := by decide +kernel
theorem dc_Mo_pass_151 : decode cb_Mo_pass 151 = .ok (.iadd, 1) := by decide +kernel
theorem dc_Mo_pass_152 : decode cb_Mo_pass 152 = .ok (.iaload, 1) := by decide +kernel
theorem dc_Mo_pass_153 : decode cb_Mo_pass 153 = .ok (.iload 5, 2) := by decide +kernel
theorem dc_Mo_pass_155 : decode cb_Mo_pass 155 = .ok (.iload_n 2, 1) := by decide +kernel
theorem dc_Mo_pass_156 : decode cb_Mo_pass 156 = .ok (.invokevirtual 125, 3) := by decide +kernel
theorem dc_Mo_pass_159 : decode cb_Mo_pass 159 = .ok (.iastore, 1) := by decide +kernel
theorem dc_Mo_pass_160 : decode cb_Mo_pass 160 = .ok (.iinc 5 1, 3) := by decide +kernel
theorem dc_Mo_pass_163 : decode cb_Mo_pass 163 = .ok (.goto (-155), 3) := by decide +kernel
theorem dc_Mo_pass_166 : decode cb_Mo_pass 166 = .ok (.iconst 0, 1) := by decide +kernel
theorem dc_Mo_pass_167 : decode cb_Mo_pass 167 = .ok (.istore 5, 2) := by decide +kernel
theorem dc_Mo_pass_169 : decode cb_Mo_pass 169 = .ok (.iload 5, 2) := by decide +kernel
theorem dc_Mo_pass_171 : decode cb_Mo_pass 171 = .ok (.iload_n 3, 1) := by decide +kernel
theorem dc_Mo_pass_172 : decode cb_Mo_pass 172 = .ok (.if_icmp .ge 23, 3) := by decide +kernel
theorem dc_Mo_pass_175 : decode cb_Mo_pass 175 = .ok (.aload_n 0, 1) := by decide +kernel
theorem dc_Mo_pass_176 : decode cb_Mo_pass 176 = .ok (.getfield 29, 3) := by decide +kernel
theorem dc_Mo_pass_179 : decode cb_Mo_pass 179 = .ok (.iload 5, 2) := by decide +kernel
theorem dc_Mo_pass_181 : decode cb_Mo_pass 181 = .ok (.aload_n 0, 1) := by decide +kernel
theorem dc_Mo_pass_182 : decode cb_Mo_pass 182 = .ok (.getfield 32, 3) := by decide +kernel
theorem dc_Mo_pass_185 : decode cb_Mo_pass 185 = .ok (.iload 5, 2) := by decide +kernel
theorem dc_Mo_pass_187 : decode cb_Mo_pass 187 = .ok (.iaload, 1) := by decide +kernel
theorem dc_Mo_pass_188 : decode cb_Mo_pass 188 = .ok (.iastore, 1) := by decide +kernel
theorem dc_Mo_pass_189 : decode cb_Mo_pass 189 = .ok (.iinc 5 1, 3) := by decide +kernel
theorem dc_Mo_pass_192 : decode cb_Mo_pass 192 = .ok (.goto (-23), 3) := by decide +kernel
theorem dc_Mo_pass_195 : decode cb_Mo_pass 195 = .ok (.return_, 1) := by decide +kernel
theorem yk_Mo_pass : fq_Y my_Mo_pass cb_Mo_pass 6 none 3 := ⟨wd_944, wd_36, by decide +kernel⟩
theorem dc_Mo_work_0 : decode cb_Mo_work 0 = .ok (.aload_n 0, 1) := by decide +kernel
theorem dc_Mo_work_1 : decode cb_Mo_work 1 = .ok (.getfield 128, 3) := by decide +kernel
theorem dc_Mo_work_4 : decode cb_Mo_work 4 = .ok (.istore_n 1, 1) := by decide +kernel
theorem dc_Mo_work_5 : decode cb_Mo_work 5 = .ok (.iconst 0, 1) := by decide +kernel
theorem dc_Mo_work_6 : decode cb_Mo_work 6 = .ok (.istore_n 2, 1) := by decide +kernel
theorem dc_Mo_work_7 : decode cb_Mo_work 7 = .ok (.iload_n 2, 1) := by decide +kernel
theorem dc_Mo_work_8 : decode cb_Mo_work 8 = .ok (.iload_n 1, 1) := by decide +kernel
theorem dc_Mo_work_9 : decode cb_Mo_work 9 = .ok (.if_icmp .ge 21, 3) := by decide +kernel
theorem dc_Mo_work_12 : decode cb_Mo_work 12 = .ok (.aload_n 0, 1) := by decide +kernel
theorem dc_Mo_work_13 : decode cb_Mo_work 13 = .ok (.getfield 29, 3) := by decide +kernel
theorem dc_Mo_work_16 : decode cb_Mo_work 16 = .ok (.iload_n 2, 1) := by decide +kernel
theorem dc_Mo_work_17 : decode cb_Mo_work 17 = .ok (.aload_n 0, 1) := by decide +kernel
theorem dc_Mo_work_18 : decode cb_Mo_work 18 = .ok (.getfield 26, 3) := by decide +kernel
theorem dc_Mo_work_21 : decode cb_Mo_work 21 = .ok (.iload_n 2, 1) := by decide +kernel
theorem dc_Mo_work_22 : decode cb_Mo_work 22 = .ok (.iaload, 1) := by decide +kernel
theorem dc_Mo_work_23 : decode cb_Mo_work 23 = .ok (.iastore, 1) := by decide +kernel
theorem dc_Mo_work_24 : decode cb_Mo_work 24 = .ok (.iinc 2 1, 3) := by decide +kernel
theorem dc_Mo_work_27 : decode cb_Mo_work 27 = .ok (.goto (-20), 3) := by decide +kernel
theorem dc_Mo_work_30 : decode cb_Mo_work 30 = .ok (.iconst 0, 1) := by decide +kernel
theorem dc_Mo_work_31 : decode cb_Mo_work 31 = .ok (.istore_n 2, 1) := by decide +kernel
theorem dc_Mo_work_32 : decode cb_Mo_work 32 = .ok (.iload_n 2, 1) := by decide +kernel
theorem dc_Mo_work_33 : decode cb_Mo_work 33 = .ok (.aload_n 0, 1) := by decide +kernel
theorem dc_Mo_work_34 : decode cb_Mo_work 34 = .ok (.getfield 54, 3) := by decide +kernel
theorem dc_Mo_work_37 : decode cb_Mo_work 37 = .ok (.if_icmp .ge 25, 3) := by decide +kernel
theorem dc_Mo_work_40 : decode cb_Mo_work 40 = .ok (.aload_n 0, 1) := by decide +kernel
theorem dc_Mo_work_41 : decode cb_Mo_work 41 = .ok (.iload_n 2, 1) := by decide +kernel
theorem dc_Mo_work_42 : decode cb_Mo_work 42 = .ok (.iload_n 1, 1) := by decide +kernel
theorem dc_Mo_work_43 : decode cb_Mo_work 43 = .ok (.invokevirtual 131, 3) := by decide +kernel
theorem dc_Mo_work_46 : decode cb_Mo_work 46 = .ok (.istore_n 3, 1) := by decide +kernel
theorem dc_Mo_work_47 : decode cb_Mo_work 47 = .ok (.aload_n 0, 1) := by decide +kernel
theorem dc_Mo_work_48 : decode cb_Mo_work 48 = .ok (.iload_n 2, 1) := by decide +kernel
theorem dc_Mo_work_49 : decode cb_Mo_work 49 = .ok (.iload_n 1, 1) := by decide +kernel
theorem dc_Mo_work_50 : decode cb_Mo_work 50 = .ok (.iload_n 3, 1) := by decide +kernel
theorem dc_Mo_work_51 : decode cb_Mo_work 51 = .ok (.invokevirtual 134, 3) := by decide +kernel
theorem dc_Mo_work_54 : decode cb_Mo_work 54 = .ok (.iload_n 3, 1) := by decide +kernel
theorem dc_Mo_work_55 : decode cb_Mo_work 55 = .ok (.istore_n 1, 1) := by decide +kernel
theorem dc_Mo_work_56 : decode cb_Mo_work 56 = .ok (.iinc 2 1, 3) := by decide +kernel
theorem dc_Mo_work_59 : decode cb_Mo_work 59 = .ok (.goto (-27), 3) := by decide +kernel
theorem dc_Mo_work_62 : decode cb_Mo_work 62 = .ok (.aload_n 0, 1) := by decide +kernel
theorem dc_Mo_work_63 : decode cb_Mo_work 63 = .ok (.iload_n 1, 1) := by decide +kernel
theorem dc_Mo_work_64 : decode cb_Mo_work 64 = .ok (.putfield 138, 3) := by decide +kernel
theorem dc_Mo_work_67 : decode cb_Mo_work 67 = .ok (.return_, 1) := by decide +kernel
theorem yk_Mo_work : fq_Y my_Mo_work cb_Mo_work 4 none 0 := ⟨wd_936, wd_36, by decide +kernel⟩
set_option maxHeartbeats 4000000 in
set_option maxRecDepth 100000 in
theorem ct_Mo_madeOf (l : Launch) (D : va_G) (cI cO : ClassId) (tE : Nat) (h aK aN aB aS aL aX : Nat) (rm : Nat) (sd : Bool) (ns : Nat) (iw : Nat) (ow : Nat) (ih : Bool) (oh : Bool) (ca : Nat) (us : Nat) (cl : Bool) (fl : Bool) (tk : Nat) (md : Nat) (gi : Nat) (su : Nat) (ps : Nat) (cs : Nat) (fK fN fB fS fL fX : Nat → Int32) (sp : fm_S) (kk nn : Nat) (hk : kk < 5) (hKk : fK kk = nI sp.1) (hN : mo_N fN kk sp) (hok : fm_ok sp) (hn : nn ≤ 2300) (sz : Nat) : Met l my_Mo_madeOf (fq_w my_Mo_madeOf cb_Mo_madeOf 6 (some .int)) ({ frames := 0, cells := 0, slots := 0, locals := 0 }) (va_Pc ([.ref h, .int (nI kk), .int (nI nn)]) (fq_Pre D cI cO tE sz ([(h, .inr (12, [.int (nI rm), .int (fq_b sd), .int (nI ns), .ref aK, .ref aN, .int (nI iw), .int (nI ow), .int (fq_b ih), .int (fq_b oh), .ref aB, .int (nI ca), .int (nI us), .int (fq_b cl), .int (fq_b fl), .ref aS, .int (nI tk), .ref aL, .ref aX, .int (nI md), .int (nI gi), .int (nI su), .int (nI ps), .int (nI cs)])), (aK, .inl (cI, 5, .inl fK)), (aN, .inl (cI, 25, .inl fN)), (aB, .inl (cI, 120, .inl fB)), (aS, .inl (cI, 120, .inl fS)), (aL, .inl (cI, 2300, .inl fL)), (aX, .inl (cI, 2300, .inl fX))]))) (va_Qi (S := va_W) (fun r w => w = [(h, .inr (12, [.int (nI rm), .int (fq_b sd), .int (nI ns), .ref aK, .ref aN, .int (nI iw), .int (nI ow), .int (fq_b ih), .int (fq_b oh), .ref aB, .int (nI ca), .int (nI us), .int (fq_b cl), .int (fq_b fl), .ref aS, .int (nI tk), .ref aL, .ref aX, .int (nI md), .int (nI gi), .int (nI su), .int (nI ps), .int (nI cs)])), (aK, .inl (cI, 5, .inl fK)), (aN, .inl (cI, 25, .inl fN)), (aB, .inl (cI, 120, .inl fB)), (aS, .inl (cI, 120, .inl fS)), (aL, .inl (cI, 2300, .inl fL)), (aX, .inl (cI, 2300, .inl fX))] ∧ r = nI (fm_m sp fl nn)) (fq_Bw D (va_A ([(h, .inr (12, [.int (nI rm), .int (fq_b sd), .int (nI ns), .ref aK, .ref aN, .int (nI iw), .int (nI ow), .int (fq_b ih), .int (fq_b oh), .ref aB, .int (nI ca), .int (nI us), .int (fq_b cl), .int (fq_b fl), .ref aS, .int (nI tk), .ref aL, .ref aX, .int (nI md), .int (nI gi), .int (nI su), .int (nI ps), .int (nI cs)])), (aK, .inl (cI, 5, .inl fK)), (aN, .inl (cI, 25, .inl fN)), (aB, .inl (cI, 120, .inl fB)), (aS, .inl (cI, 120, .inl fS)), (aL, .inl (cI, 2300, .inl fL)), (aX, .inl (cI, 2300, .inl fX))]) sz)) (va_A ([(h, .inr (12, [.int (nI rm), .int (fq_b sd), .int (nI ns), .ref aK, .ref aN, .int (nI iw), .int (nI ow), .int (fq_b ih), .int (fq_b oh), .ref aB, .int (nI ca), .int (nI us), .int (fq_b cl), .int (fq_b fl), .ref aS, .int (nI tk), .ref aL, .ref aX, .int (nI md), .int (nI gi), .int (nI su), .int (nI ps), .int (nI cs)])), (aK, .inl (cI, 5, .inl fK)), (aN, .inl (cI, 25, .inl fN)), (aB, .inl (cI, 120, .inl fB)), (aS, .inl (cI, 120, .inl fS)), (aL, .inl (cI, 2300, .inl fL)), (aX, .inl (cI, 2300, .inl fX))]) sz)) (0) (0) (va_A ([(h, .inr (12, [.int (nI rm), .int (fq_b sd), .int (nI ns), .ref aK, .ref aN, .int (nI iw), .int (nI ow), .int (fq_b ih), .int (fq_b oh), .ref aB, .int (nI ca), .int (nI us), .int (fq_b cl), .int (fq_b fl), .ref aS, .int (nI tk), .ref aL, .ref aX, .int (nI md), .int (nI gi), .int (nI su), .int (nI ps), .int (nI cs)])), (aK, .inl (cI, 5, .inl fK)), (aN, .inl (cI, 25, .inl fN)), (aB, .inl (cI, 120, .inl fB)), (aS, .inl (cI, 120, .inl fS)), (aL, .inl (cI, 2300, .inl fL)), (aX, .inl (cI, 2300, .inl fX))]) sz) := by
  refine fq_open (by decide +kernel) (Nat.le_of_ble_eq_true rfl) ?_
  intro pg ev s mt below meth cd ls K hret hlk hin hK hZ hP hD hA hS hl
  generalize va_A ([(h, .inr (12, [.int (nI rm), .int (fq_b sd), .int (nI ns), .ref aK, .ref aN, .int (nI iw), .int (nI ow), .int (fq_b ih), .int (fq_b oh), .ref aB, .int (nI ca), .int (nI us), .int (fq_b cl), .int (fq_b fl), .ref aS, .int (nI tk), .ref aL, .ref aX, .int (nI md), .int (nI gi), .int (nI su), .int (nI ps), .int (nI cs)])), (aK, .inl (cI, 5, .inl fK)), (aN, .inl (cI, 25, .inl fN)), (aB, .inl (cI, 120, .inl fB)), (aS, .inl (cI, 120, .inl fS)), (aL, .inl (cI, 2300, .inl fL)), (aX, .inl (cI, 2300, .inl fX))]) sz = A at hZ hD hA hS ⊢
  have K : fq_Ctx pg mt cd cb_Mo_madeOf 6 s _ cn_Mo := K
  have hl : lv_has ls 6 [(0, .ref h), (1, .int (nI kk)), (2, .int (nI nn))] := hl
  have hk3 := hok.1
  refine lv_iload_n K.1 K.2.1 dc_Mo_madeOf_0 rfl (lv_at hl 2 rfl) ?_
  refine lv_if_eq (tgt := 14) K.1 K.2.1 dc_Mo_madeOf_1 rfl (fun b1 => ?_) (fun b1 => ?_)
  · skip
    have z1 : nn = 0 := (nI_eq (by omega) (by decide)).mp b1
    refine lv_iload_n K.1 K.2.1 dc_Mo_madeOf_14 rfl (lv_at hl 2 rfl) ?_
    exact fq_reti K hret hlk hS hP hD ⟨rfl, mo_m0 (by first | exact Or.inl z1 | exact Or.inr g1)⟩ dc_Mo_madeOf_15 (Nat.le_of_ble_eq_true rfl) (Nat.le_of_ble_eq_true rfl)
  · skip
    have z0 : ¬ nn = 0 := fun z => b1 (by rw [z]; rfl)
    refine lv_aload_n K.1 K.2.1 dc_Mo_madeOf_4 rfl (lv_at hl 0 rfl) ?_
    refine fq_get K hK cl_Mo hP 0 3 rfl (by decide) wd_773 rfl dc_Mo_madeOf_5 ?_
    refine lv_iload_n K.1 K.2.1 dc_Mo_madeOf_8 rfl (lv_at hl 1 rfl) ?_
    refine fq_ald K hK hP 1 rfl (vp_in_nI (show kk < 5 by omega) (by decide)) dc_Mo_madeOf_9 ?_
    refine fq_asi (y := fK kk) (by rw [nI_clamp (show kk < 2 ^ 31 by omega)]) ?_
    refine fq_asi (y := nI sp.1) (hKk) ?_
    refine lv_iconst (v := 2) K.1 K.2.1 dc_Mo_madeOf_10 (by decide) ?_
    refine lv_icmp_ge (tgt := 16) K.1 K.2.1 dc_Mo_madeOf_11 rfl (fun b11 => ?_) (fun b11 => ?_)
    · skip
      have g2 : 2 ≤ sp.1 := (nI_leI (a := 2) (by decide) (by omega)).mp b11
      refine lv_aload_n K.1 K.2.1 dc_Mo_madeOf_16 rfl (lv_at hl 0 rfl) ?_
      refine fq_get K hK cl_Mo hP 0 4 rfl (by decide) wd_774 rfl dc_Mo_madeOf_17 ?_
      refine lv_iconst (v := 5) K.1 K.2.1 dc_Mo_madeOf_20 (by decide) ?_
      refine lv_iload_n K.1 K.2.1 dc_Mo_madeOf_21 rfl (lv_at hl 1 rfl) ?_
      refine lv_imul K.1 K.2.1 dc_Mo_madeOf_22 ?_
      refine fq_asi (y := nI (5 * kk)) (pk_mul 5 kk) ?_
      refine fq_ald K hK hP 2 rfl (vp_in_nI (show 5 * kk < 25 by omega) (by decide)) dc_Mo_madeOf_23 ?_
      refine fq_asi (y := fN (5 * kk)) (by rw [nI_clamp (show 5 * kk < 2 ^ 31 by omega)]) ?_
      refine fq_asi (y := nI sp.2.1.toNat) (mo_nt hN.1 (mo_nn hok g2).1) ?_
      refine lv_istore_n K.1 K.2.1 dc_Mo_madeOf_24 rfl hl (by decide) rfl (fun ls hl => ?_)
      have hl : lv_has ls 6 [(3, .int (nI sp.2.1.toNat)), (0, .ref h), (1, .int (nI kk)), (2, .int (nI nn))] := hl
      refine lv_aload_n K.1 K.2.1 dc_Mo_madeOf_25 rfl (lv_at hl 1 rfl) ?_
      refine fq_get K hK cl_Mo hP 0 4 rfl (by decide) wd_774 rfl dc_Mo_madeOf_26 ?_
      refine lv_iconst (v := 5) K.1 K.2.1 dc_Mo_madeOf_29 (by decide) ?_
      refine lv_iload_n K.1 K.2.1 dc_Mo_madeOf_30 rfl (lv_at hl 2 rfl) ?_
      refine lv_imul K.1 K.2.1 dc_Mo_madeOf_31 ?_
      refine fq_asi (y := nI (5 * kk)) (pk_mul 5 kk) ?_
      refine lv_iconst (v := 1) K.1 K.2.1 dc_Mo_madeOf_32 (by decide) ?_
      refine lv_iadd K.1 K.2.1 dc_Mo_madeOf_33 ?_
      refine fq_asi (y := nI (5 * kk + 1)) (nI_add (5 * kk) 1) ?_
      refine fq_ald K hK hP 2 rfl (vp_in_nI (show 5 * kk + 1 < 25 by omega) (by decide)) dc_Mo_madeOf_34 ?_
      refine fq_asi (y := fN (5 * kk + 1)) (by rw [nI_clamp (show 5 * kk + 1 < 2 ^ 31 by omega)]) ?_
      refine fq_asi (y := nI sp.2.2.1.toNat) (mo_nt hN.2.1 (mo_nn hok g2).2) ?_
      refine lv_istore K.1 K.2.1 dc_Mo_madeOf_35 hl (by decide) rfl (fun ls hl => ?_)
      have hl : lv_has ls 6 [(4, .int (nI sp.2.2.1.toNat)), (3, .int (nI sp.2.1.toNat)), (0, .ref h), (1, .int (nI kk)), (2, .int (nI nn))] := hl
      refine lv_aload_n K.1 K.2.1 dc_Mo_madeOf_37 rfl (lv_at hl 2 rfl) ?_
      refine fq_get K hK cl_Mo hP 0 3 rfl (by decide) wd_773 rfl dc_Mo_madeOf_38 ?_
      refine lv_iload_n K.1 K.2.1 dc_Mo_madeOf_41 rfl (lv_at hl 3 rfl) ?_
      refine fq_ald K hK hP 1 rfl (vp_in_nI (show kk < 5 by omega) (by decide)) dc_Mo_madeOf_42 ?_
      refine fq_asi (y := fK kk) (by rw [nI_clamp (show kk < 2 ^ 31 by omega)]) ?_
      refine fq_asi (y := nI sp.1) (hKk) ?_
      refine lv_iconst (v := 2) K.1 K.2.1 dc_Mo_madeOf_43 (by decide) ?_
      refine lv_icmp_ne (tgt := 65) K.1 K.2.1 dc_Mo_madeOf_44 rfl (fun b44 => ?_) (fun b44 => ?_)
      · skip
        have nh2 : ¬ sp.1 = 2 := fun z => b44 (by rw [z]; rfl)
        have h3 : sp.1 = 3 := by omega
        have hU := mo_Uo hok h3
        have hnb := mo_nb (u := sp.2.1.toNat) hn hU.2.2.2.1 z0
        have hrb := rs_rb hU.2.2.2.1 hU.2.2.2.2
        refine lv_iload_n K.1 K.2.1 dc_Mo_madeOf_65 rfl (lv_at hl 1 rfl) ?_
        refine lv_iload K.1 K.2.1 dc_Mo_madeOf_66 (lv_at hl 0 rfl) ?_
        refine lv_icmp_le (tgt := 75) K.1 K.2.1 dc_Mo_madeOf_68 rfl (fun b68 => ?_) (fun b68 => ?_)
        · skip
          refine lv_iload K.1 K.2.1 dc_Mo_madeOf_75 (lv_at hl 0 rfl) ?_
          refine fq_asi (y := nI (rs_r sp.2.1.toNat sp.2.2.1.toNat)) (mo_mx1 hU.2.2.2.1 hU.2.2.2.2 b68) ?_
          refine lv_istore K.1 K.2.1 dc_Mo_madeOf_77 hl (by decide) rfl (fun ls hl => ?_)
          have hl : lv_has ls 6 [(5, .int (nI (rs_r sp.2.1.toNat sp.2.2.1.toNat))), (4, .int (nI sp.2.2.1.toNat)), (3, .int (nI sp.2.1.toNat)), (0, .ref h), (1, .int (nI kk)), (2, .int (nI nn))] := hl
          refine lv_aload_n K.1 K.2.1 dc_Mo_madeOf_79 rfl (lv_at hl 3 rfl) ?_
          refine fq_get K hK cl_Mo hP 0 13 rfl (by decide) wd_783 rfl dc_Mo_madeOf_80 ?_
          refine lv_if_eq (tgt := 104) K.1 K.2.1 dc_Mo_madeOf_83 rfl (fun b83 => ?_) (fun b83 => ?_)
          · skip
            have hf : fl = false := fq_b0 b83
            refine lv_iload_n K.1 K.2.1 dc_Mo_madeOf_104 rfl (lv_at hl 5 rfl) ?_
            refine lv_iload_n K.1 K.2.1 dc_Mo_madeOf_105 rfl (lv_at hl 2 rfl) ?_
            refine lv_imul K.1 K.2.1 dc_Mo_madeOf_106 ?_
            refine fq_asi (y := nI (nn * sp.2.1.toNat)) (pk_mul _ _) ?_
            refine lv_iload K.1 K.2.1 dc_Mo_madeOf_107 (lv_at hl 1 rfl) ?_
            refine lv_iadd K.1 K.2.1 dc_Mo_madeOf_109 ?_
            refine fq_asi (y := nI (nn * sp.2.1.toNat + sp.2.2.1.toNat)) (nI_add _ _) ?_
            refine lv_iconst (v := 1) K.1 K.2.1 dc_Mo_madeOf_110 (by decide) ?_
            refine lv_isub K.1 K.2.1 dc_Mo_madeOf_111 ?_
            refine fq_asi (y := nI (nn * sp.2.1.toNat + sp.2.2.1.toNat - 1)) (pk_sub (a := nn * sp.2.1.toNat + sp.2.2.1.toNat) (b := 1) (by omega)) ?_
            refine lv_iload K.1 K.2.1 dc_Mo_madeOf_112 (lv_at hl 1 rfl) ?_
            refine lv_idiv K.1 K.2.1 dc_Mo_madeOf_114 (nI_ne0 (by have := hU.2.2.2.2; omega) (by have := hU.2.2.2.2; omega)) ?_
            refine fq_asi (y := nI ((nn * sp.2.1.toNat + sp.2.2.1.toNat - 1) / sp.2.2.1.toNat)) (pk_div (by have := hU.2.2.2.2; omega) (by have := hU.2.2.2.2; omega) (by have := hU.2.2.2.2; omega)) ?_
            exact fq_reti K hret hlk hS hP hD ⟨rfl, mo_m3 z0 h3 hf⟩ dc_Mo_madeOf_115 (Nat.le_of_ble_eq_true rfl) (Nat.le_of_ble_eq_true rfl)
          · skip
            have hf : fl = true := fq_b1 b83
            refine lv_iload_n K.1 K.2.1 dc_Mo_madeOf_86 rfl (lv_at hl 5 rfl) ?_
            refine lv_iload_n K.1 K.2.1 dc_Mo_madeOf_87 rfl (lv_at hl 2 rfl) ?_
            refine lv_imul K.1 K.2.1 dc_Mo_madeOf_88 ?_
            refine fq_asi (y := nI (nn * sp.2.1.toNat)) (pk_mul _ _) ?_
            refine lv_iconst (v := 2) K.1 K.2.1 dc_Mo_madeOf_89 (by decide) ?_
            refine lv_iload K.1 K.2.1 dc_Mo_madeOf_90 (lv_at hl 0 rfl) ?_
            refine lv_imul K.1 K.2.1 dc_Mo_madeOf_92 ?_
            refine fq_asi (y := nI (2 * rs_r sp.2.1.toNat sp.2.2.1.toNat)) (pk_mul 2 _) ?_
            refine lv_iadd K.1 K.2.1 dc_Mo_madeOf_93 ?_
            refine fq_asi (y := nI (nn * sp.2.1.toNat + 2 * rs_r sp.2.1.toNat sp.2.2.1.toNat)) (nI_add _ _) ?_
            refine lv_iconst (v := 3) K.1 K.2.1 dc_Mo_madeOf_94 (by decide) ?_
            refine lv_isub K.1 K.2.1 dc_Mo_madeOf_95 ?_
            refine fq_asi (y := nI (nn * sp.2.1.toNat + 2 * rs_r sp.2.1.toNat sp.2.2.1.toNat - 3)) (pk_sub (a := nn * sp.2.1.toNat + 2 * rs_r sp.2.1.toNat sp.2.2.1.toNat) (b := 3) (by omega)) ?_
            refine lv_iload K.1 K.2.1 dc_Mo_madeOf_96 (lv_at hl 1 rfl) ?_
            refine lv_idiv K.1 K.2.1 dc_Mo_madeOf_98 (nI_ne0 (by have := hU.2.2.2.2; omega) (by have := hU.2.2.2.2; omega)) ?_
            refine fq_asi (y := nI ((nn * sp.2.1.toNat + 2 * rs_r sp.2.1.toNat sp.2.2.1.toNat - 3) / sp.2.2.1.toNat)) (pk_div (by have := hU.2.2.2.2; omega) (by have := hU.2.2.2.2; omega) (by have := hU.2.2.2.2; omega)) ?_
            refine lv_iconst (v := 1) K.1 K.2.1 dc_Mo_madeOf_99 (by decide) ?_
            refine lv_iadd K.1 K.2.1 dc_Mo_madeOf_100 ?_
            refine fq_asi (y := nI ((nn * sp.2.1.toNat + 2 * rs_r sp.2.1.toNat sp.2.2.1.toNat - 3) / sp.2.2.1.toNat + 1)) (nI_1 _) ?_
            refine lv_goto (tgt := 115) K.1 K.2.1 dc_Mo_madeOf_101 rfl ?_
            exact fq_reti K hret hlk hS hP hD ⟨rfl, mo_m3t hok z0 h3 hf⟩ dc_Mo_madeOf_115 (Nat.le_of_ble_eq_true rfl) (Nat.le_of_ble_eq_true rfl)
        · skip
          refine lv_iload_n K.1 K.2.1 dc_Mo_madeOf_71 rfl (lv_at hl 1 rfl) ?_
          refine lv_goto (tgt := 77) K.1 K.2.1 dc_Mo_madeOf_72 rfl ?_
          refine fq_asi (y := nI (rs_r sp.2.1.toNat sp.2.2.1.toNat)) (mo_mx2 hU.2.2.2.1 hU.2.2.2.2 b68) ?_
          refine lv_istore K.1 K.2.1 dc_Mo_madeOf_77 hl (by decide) rfl (fun ls hl => ?_)
          have hl : lv_has ls 6 [(5, .int (nI (rs_r sp.2.1.toNat sp.2.2.1.toNat))), (4, .int (nI sp.2.2.1.toNat)), (3, .int (nI sp.2.1.toNat)), (0, .ref h), (1, .int (nI kk)), (2, .int (nI nn))] := hl
          refine lv_aload_n K.1 K.2.1 dc_Mo_madeOf_79 rfl (lv_at hl 3 rfl) ?_
          refine fq_get K hK cl_Mo hP 0 13 rfl (by decide) wd_783 rfl dc_Mo_madeOf_80 ?_
          refine lv_if_eq (tgt := 104) K.1 K.2.1 dc_Mo_madeOf_83 rfl (fun b83 => ?_) (fun b83 => ?_)
          · skip
            have hf : fl = false := fq_b0 b83
            refine lv_iload_n K.1 K.2.1 dc_Mo_madeOf_104 rfl (lv_at hl 5 rfl) ?_
            refine lv_iload_n K.1 K.2.1 dc_Mo_madeOf_105 rfl (lv_at hl 2 rfl) ?_
            refine lv_imul K.1 K.2.1 dc_Mo_madeOf_106 ?_
            refine fq_asi (y := nI (nn * sp.2.1.toNat)) (pk_mul _ _) ?_
            refine lv_iload K.1 K.2.1 dc_Mo_madeOf_107 (lv_at hl 1 rfl) ?_
            refine lv_iadd K.1 K.2.1 dc_Mo_madeOf_109 ?_
            refine fq_asi (y := nI (nn * sp.2.1.toNat + sp.2.2.1.toNat)) (nI_add _ _) ?_
            refine lv_iconst (v := 1) K.1 K.2.1 dc_Mo_madeOf_110 (by decide) ?_
            refine lv_isub K.1 K.2.1 dc_Mo_madeOf_111 ?_
            refine fq_asi (y := nI (nn * sp.2.1.toNat + sp.2.2.1.toNat - 1)) (pk_sub (a := nn * sp.2.1.toNat + sp.2.2.1.toNat) (b := 1) (by omega)) ?_
            refine lv_iload K.1 K.2.1 dc_Mo_madeOf_112 (lv_at hl 1 rfl) ?_
            refine lv_idiv K.1 K.2.1 dc_Mo_madeOf_114 (nI_ne0 (by have := hU.2.2.2.2; omega) (by have := hU.2.2.2.2; omega)) ?_
            refine fq_asi (y := nI ((nn * sp.2.1.toNat + sp.2.2.1.toNat - 1) / sp.2.2.1.toNat)) (pk_div (by have := hU.2.2.2.2; omega) (by have := hU.2.2.2.2; omega) (by have := hU.2.2.2.2; omega)) ?_
            exact fq_reti K hret hlk hS hP hD ⟨rfl, mo_m3 z0 h3 hf⟩ dc_Mo_madeOf_115 (Nat.le_of_ble_eq_true rfl) (Nat.le_of_ble_eq_true rfl)
          · skip
            have hf : fl = true := fq_b1 b83
            refine lv_iload_n K.1 K.2.1 dc_Mo_madeOf_86 rfl (lv_at hl 5 rfl) ?_
            refine lv_iload_n K.1 K.2.1 dc_Mo_madeOf_87 rfl (lv_at hl 2 rfl) ?_
            refine lv_imul K.1 K.2.1 dc_Mo_madeOf_88 ?_
            refine fq_asi (y := nI (nn * sp.2.1.toNat)) (pk_mul _ _) ?_
            refine lv_iconst (v := 2) K.1 K.2.1 dc_Mo_madeOf_89 (by decide) ?_
            refine lv_iload K.1 K.2.1 dc_Mo_madeOf_90 (lv_at hl 0 rfl) ?_
            refine lv_imul K.1 K.2.1 dc_Mo_madeOf_92 ?_
            refine fq_asi (y := nI (2 * rs_r sp.2.1.toNat sp.2.2.1.toNat)) (pk_mul 2 _) ?_
            refine lv_iadd K.1 K.2.1 dc_Mo_madeOf_93 ?_
            refine fq_asi (y := nI (nn * sp.2.1.toNat + 2 * rs_r sp.2.1.toNat sp.2.2.1.toNat)) (nI_add _ _) ?_
            refine lv_iconst (v := 3) K.1 K.2.1 dc_Mo_madeOf_94 (by decide) ?_
            refine lv_isub K.1 K.2.1 dc_Mo_madeOf_95 ?_
            refine fq_asi (y := nI (nn * sp.2.1.toNat + 2 * rs_r sp.2.1.toNat sp.2.2.1.toNat - 3)) (pk_sub (a := nn * sp.2.1.toNat + 2 * rs_r sp.2.1.toNat sp.2.2.1.toNat) (b := 3) (by omega)) ?_
            refine lv_iload K.1 K.2.1 dc_Mo_madeOf_96 (lv_at hl 1 rfl) ?_
            refine lv_idiv K.1 K.2.1 dc_Mo_madeOf_98 (nI_ne0 (by have := hU.2.2.2.2; omega) (by have := hU.2.2.2.2; omega)) ?_
            refine fq_asi (y := nI ((nn * sp.2.1.toNat + 2 * rs_r sp.2.1.toNat sp.2.2.1.toNat - 3) / sp.2.2.1.toNat)) (pk_div (by have := hU.2.2.2.2; omega) (by have := hU.2.2.2.2; omega) (by have := hU.2.2.2.2; omega)) ?_
            refine lv_iconst (v := 1) K.1 K.2.1 dc_Mo_madeOf_99 (by decide) ?_
            refine lv_iadd K.1 K.2.1 dc_Mo_madeOf_100 ?_
            refine fq_asi (y := nI ((nn * sp.2.1.toNat + 2 * rs_r sp.2.1.toNat sp.2.2.1.toNat - 3) / sp.2.2.1.toNat + 1)) (nI_1 _) ?_
            refine lv_goto (tgt := 115) K.1 K.2.1 dc_Mo_madeOf_101 rfl ?_
            exact fq_reti K hret hlk hS hP hD ⟨rfl, mo_m3t hok z0 h3 hf⟩ dc_Mo_madeOf_115 (Nat.le_of_ble_eq_true rfl) (Nat.le_of_ble_eq_true rfl)
      · skip
        have h2 : sp.1 = 2 := (nI_eq (by omega) (by decide)).mp b44
        refine lv_aload_n K.1 K.2.1 dc_Mo_madeOf_47 rfl (lv_at hl 2 rfl) ?_
        refine fq_get K hK cl_Mo hP 0 13 rfl (by decide) wd_783 rfl dc_Mo_madeOf_48 ?_
        refine lv_if_eq (tgt := 63) K.1 K.2.1 dc_Mo_madeOf_51 rfl (fun b51 => ?_) (fun b51 => ?_)
        · skip
          have hf : fl = false := fq_b0 b51
          refine lv_iload_n K.1 K.2.1 dc_Mo_madeOf_63 rfl (lv_at hl 4 rfl) ?_
          exact fq_reti K hret hlk hS hP hD ⟨rfl, mo_m2 z0 h2 hf⟩ dc_Mo_madeOf_64 (Nat.le_of_ble_eq_true rfl) (Nat.le_of_ble_eq_true rfl)
        · skip
          have hf : fl = true := fq_b1 b51
          refine lv_iload_n K.1 K.2.1 dc_Mo_madeOf_54 rfl (lv_at hl 4 rfl) ?_
          refine lv_iload K.1 K.2.1 dc_Mo_madeOf_55 (lv_at hl 0 rfl) ?_
          refine lv_iadd K.1 K.2.1 dc_Mo_madeOf_57 ?_
          refine fq_asi (y := nI (nn + sp.2.2.1.toNat)) (nI_add _ _) ?_
          refine lv_iconst (v := 1) K.1 K.2.1 dc_Mo_madeOf_58 (by decide) ?_
          refine lv_isub K.1 K.2.1 dc_Mo_madeOf_59 ?_
          refine fq_asi (y := nI (nn + sp.2.2.1.toNat - 1)) (pk_sub (a := nn + sp.2.2.1.toNat) (b := 1) (by omega)) ?_
          refine lv_goto (tgt := 64) K.1 K.2.1 dc_Mo_madeOf_60 rfl ?_
          exact fq_reti K hret hlk hS hP hD ⟨rfl, mo_m2t z0 h2 hf⟩ dc_Mo_madeOf_64 (Nat.le_of_ble_eq_true rfl) (Nat.le_of_ble_eq_true rfl)
    · skip
      have g1 : sp.1 < 2 := Nat.lt_of_not_le (fun z => b11 ((nI_leI (a := 2) (by decide) (by omega)).mpr z))
      refine lv_iload_n K.1 K.2.1 dc_Mo_madeOf_14 rfl (lv_at hl 2 rfl) ?_
      exact fq_reti K hret hlk hS hP hD ⟨rfl, mo_m0 (by first | exact Or.inl z1 | exact Or.inr g1)⟩ dc_Mo_madeOf_15 (Nat.le_of_ble_eq_true rfl) (Nat.le_of_ble_eq_true rfl)
set_option maxHeartbeats 4000000 in
set_option maxRecDepth 100000 in
theorem ct_Mo_pass (l : Launch) (D : va_G) (cI cO : ClassId) (tE : Nat) (h aK aN aB aS aL aX : Nat) (rm : Nat) (sd : Bool) (ns : Nat) (iw : Nat) (ow : Nat) (ih : Bool) (oh : Bool) (ca : Nat) (us : Nat) (cl : Bool) (fl : Bool) (tk : Nat) (md : Nat) (gi : Nat) (su : Nat) (ps : Nat) (cs : Nat) (fK fN fB fS fL fX : Nat → Int32) (sp : fm_S) (xs : List Int) (kk mm : Nat) (hk : kk < 5) (hKk : fK kk = nI sp.1) (hN : mo_N fN kk sp) (hok : fm_ok sp) (hL : mo_L fL xs) (hxi : ∀ v ∈ xs, fm_in v) (hm : mm ≤ 2300) (sz : Nat) : Met l my_Mo_pass (fq_w my_Mo_pass cb_Mo_pass 6 none) ({ frames := 2, cells := 0, slots := 0, locals := 58 }) (va_Pc ([.ref h, .int (nI kk), .int (nI xs.length), .int (nI mm)]) (fq_Pre D cI cO tE sz ([(h, .inr (12, [.int (nI rm), .int (fq_b sd), .int (nI ns), .ref aK, .ref aN, .int (nI iw), .int (nI ow), .int (fq_b ih), .int (fq_b oh), .ref aB, .int (nI ca), .int (nI us), .int (fq_b cl), .int (fq_b fl), .ref aS, .int (nI tk), .ref aL, .ref aX, .int (nI md), .int (nI gi), .int (nI su), .int (nI ps), .int (nI cs)])), (aK, .inl (cI, 5, .inl fK)), (aN, .inl (cI, 25, .inl fN)), (aB, .inl (cI, 120, .inl fB)), (aS, .inl (cI, 120, .inl fS)), (aL, .inl (cI, 2300, .inl fL)), (aX, .inl (cI, 2300, .inl fX))]))) (va_Qv (S := va_W) (fun w => ∃ gL gX : Nat → Int32, w = [(h, .inr (12, [.int (nI rm), .int (fq_b sd), .int (nI ns), .ref aK, .ref aN, .int (nI iw), .int (nI ow), .int (fq_b ih), .int (fq_b oh), .ref aB, .int (nI ca), .int (nI us), .int (fq_b cl), .int (fq_b fl), .ref aS, .int (nI tk), .ref aL, .ref aX, .int (nI md), .int (nI gi), .int (nI su), .int (nI ps), .int (nI cs)])), (aK, .inl (cI, 5, .inl fK)), (aN, .inl (cI, 25, .inl fN)), (aB, .inl (cI, 120, .inl fB)), (aS, .inl (cI, 120, .inl fS)), (aL, .inl (cI, 2300, .inl gL)), (aX, .inl (cI, 2300, .inl gX))] ∧ mo_L gL ((List.range mm).map (fm_y sp xs))) (fq_Bw D (va_A ([(h, .inr (12, [.int (nI rm), .int (fq_b sd), .int (nI ns), .ref aK, .ref aN, .int (nI iw), .int (nI ow), .int (fq_b ih), .int (fq_b oh), .ref aB, .int (nI ca), .int (nI us), .int (fq_b cl), .int (fq_b fl), .ref aS, .int (nI tk), .ref aL, .ref aX, .int (nI md), .int (nI gi), .int (nI su), .int (nI ps), .int (nI cs)])), (aK, .inl (cI, 5, .inl fK)), (aN, .inl (cI, 25, .inl fN)), (aB, .inl (cI, 120, .inl fB)), (aS, .inl (cI, 120, .inl fS)), (aL, .inl (cI, 2300, .inl fL)), (aX, .inl (cI, 2300, .inl fX))]) sz)) (va_A ([(h, .inr (12, [.int (nI rm), .int (fq_b sd), .int (nI ns), .ref aK, .ref aN, .int (nI iw), .int (nI ow), .int (fq_b ih), .int (fq_b oh), .ref aB, .int (nI ca), .int (nI us), .int (fq_b cl), .int (fq_b fl), .ref aS, .int (nI tk), .ref aL, .ref aX, .int (nI md), .int (nI gi), .int (nI su), .int (nI ps), .int (nI cs)])), (aK, .inl (cI, 5, .inl fK)), (aN, .inl (cI, 25, .inl fN)), (aB, .inl (cI, 120, .inl fB)), (aS, .inl (cI, 120, .inl fS)), (aL, .inl (cI, 2300, .inl fL)), (aX, .inl (cI, 2300, .inl fX))]) sz)) (0) (0) (va_A ([(h, .inr (12, [.int (nI rm), .int (fq_b sd), .int (nI ns), .ref aK, .ref aN, .int (nI iw), .int (nI ow), .int (fq_b ih), .int (fq_b oh), .ref aB, .int (nI ca), .int (nI us), .int (fq_b cl), .int (fq_b fl), .ref aS, .int (nI tk), .ref aL, .ref aX, .int (nI md), .int (nI gi), .int (nI su), .int (nI ps), .int (nI cs)])), (aK, .inl (cI, 5, .inl fK)), (aN, .inl (cI, 25, .inl fN)), (aB, .inl (cI, 120, .inl fB)), (aS, .inl (cI, 120, .inl fS)), (aL, .inl (cI, 2300, .inl fL)), (aX, .inl (cI, 2300, .inl fX))]) sz) := by
  refine fq_open (by decide +kernel) (Nat.le_of_ble_eq_true rfl) ?_
  intro pg ev s mt below meth cd ls K hret hlk hin hK hZ hP hD hA hS hl
  generalize va_A ([(h, .inr (12, [.int (nI rm), .int (fq_b sd), .int (nI ns), .ref aK, .ref aN, .int (nI iw), .int (nI ow), .int (fq_b ih), .int (fq_b oh), .ref aB, .int (nI ca), .int (nI us), .int (fq_b cl), .int (fq_b fl), .ref aS, .int (nI tk), .ref aL, .ref aX, .int (nI md), .int (nI gi), .int (nI su), .int (nI ps), .int (nI cs)])), (aK, .inl (cI, 5, .inl fK)), (aN, .inl (cI, 25, .inl fN)), (aB, .inl (cI, 120, .inl fB)), (aS, .inl (cI, 120, .inl fS)), (aL, .inl (cI, 2300, .inl fL)), (aX, .inl (cI, 2300, .inl fX))]) sz = A at hZ hD hA hS ⊢
  have K : fq_Ctx pg mt cd cb_Mo_pass 6 s _ cn_Mo := K
  have hl : lv_has ls 6 [(0, .ref h), (1, .int (nI kk)), (2, .int (nI xs.length)), (3, .int (nI mm))] := hl
  have hk3 := hok.1
  refine lv_iconst (v := 5) K.1 K.2.1 dc_Mo_pass_0 (by decide) ?_
  refine lv_iload_n K.1 K.2.1 dc_Mo_pass_1 rfl (lv_at hl 1 rfl) ?_
  refine lv_imul K.1 K.2.1 dc_Mo_pass_2 ?_
  refine fq_asi (y := nI (5 * kk)) (pk_mul 5 kk) ?_
  refine lv_istore K.1 K.2.1 dc_Mo_pass_3 hl (by decide) rfl (fun ls hl => ?_)
  have hl : lv_has ls 6 [(4, .int (nI (5 * kk))), (0, .ref h), (1, .int (nI kk)), (2, .int (nI xs.length)), (3, .int (nI mm))] := hl
  refine lv_iconst (v := 0) K.1 K.2.1 dc_Mo_pass_5 (by decide) ?_
  refine lv_istore K.1 K.2.1 dc_Mo_pass_6 hl (by decide) rfl (fun ls hl => ?_)
  have hl : lv_has ls 6 [(5, .int 0), (4, .int (nI (5 * kk))), (0, .ref h), (1, .int (nI kk)), (2, .int (nI xs.length)), (3, .int (nI mm))] := hl
  refine fq_lp (σ := Nat × (Nat → Int32)) (fun x => mm - x.1) (fun x H locs ls => (x.1 ≤ mm ∧ ∀ j, j < x.1 → (x.2 j).toInt = fm_y sp xs j) ∧ lv_has ls 6 [(0, .ref h), (1, .int (nI kk)), (2, .int (nI xs.length)), (3, .int (nI mm)), (4, .int (nI (5 * kk))), (5, .int (nI x.1))] ∧ va_P D fq_cl ([(h, .inr (12, [.int (nI rm), .int (fq_b sd), .int (nI ns), .ref aK, .ref aN, .int (nI iw), .int (nI ow), .int (fq_b ih), .int (fq_b oh), .ref aB, .int (nI ca), .int (nI us), .int (fq_b cl), .int (fq_b fl), .ref aS, .int (nI tk), .ref aL, .ref aX, .int (nI md), .int (nI gi), .int (nI su), .int (nI ps), .int (nI cs)])), (aK, .inl (cI, 5, .inl fK)), (aN, .inl (cI, 25, .inl fN)), (aB, .inl (cI, 120, .inl fB)), (aS, .inl (cI, 120, .inl fS)), (aL, .inl (cI, 2300, .inl fL)), (aX, .inl (cI, 2300, .inl x.2))]) H ∧ va_D A ([(h, .inr (12, [.int (nI rm), .int (fq_b sd), .int (nI ns), .ref aK, .ref aN, .int (nI iw), .int (nI ow), .int (fq_b ih), .int (fq_b oh), .ref aB, .int (nI ca), .int (nI us), .int (fq_b cl), .int (fq_b fl), .ref aS, .int (nI tk), .ref aL, .ref aX, .int (nI md), .int (nI gi), .int (nI su), .int (nI ps), .int (nI cs)])), (aK, .inl (cI, 5, .inl fK)), (aN, .inl (cI, 25, .inl fN)), (aB, .inl (cI, 120, .inl fB)), (aS, .inl (cI, 120, .inl fS)), (aL, .inl (cI, 2300, .inl fL)), (aX, .inl (cI, 2300, .inl x.2))]) ∧ va_S A s.heap H locs) ?_ (0, fX) _ _ _ ⟨⟨Nat.zero_le _, fun j hj => absurd hj (Nat.not_lt_zero j)⟩, lv_sub hl [2, 3, 4, 5, 1, 0] rfl, hP, hD, hS⟩
  rintro ⟨i, fx⟩ H locs ls ⟨hI8, hl, hP, hD, hS⟩ ih8
  have hI8 : i ≤ mm ∧ ∀ j, j < i → (fx j).toInt = fm_y sp xs j := hI8
  have hl : lv_has ls 6 [(0, .ref h), (1, .int (nI kk)), (2, .int (nI xs.length)), (3, .int (nI mm)), (4, .int (nI (5 * kk))), (5, .int (nI i))] := hl
  have hP : va_P D fq_cl ([(h, .inr (12, [.int (nI rm), .int (fq_b sd), .int (nI ns), .ref aK, .ref aN, .int (nI iw), .int (nI ow), .int (fq_b ih), .int (fq_b oh), .ref aB, .int (nI ca), .int (nI us), .int (fq_b cl), .int (fq_b fl), .ref aS, .int (nI tk), .ref aL, .ref aX, .int (nI md), .int (nI gi), .int (nI su), .int (nI ps), .int (nI cs)])), (aK, .inl (cI, 5, .inl fK)), (aN, .inl (cI, 25, .inl fN)), (aB, .inl (cI, 120, .inl fB)), (aS, .inl (cI, 120, .inl fS)), (aL, .inl (cI, 2300, .inl fL)), (aX, .inl (cI, 2300, .inl fx))]) _ := hP
  have hD : va_D A ([(h, .inr (12, [.int (nI rm), .int (fq_b sd), .int (nI ns), .ref aK, .ref aN, .int (nI iw), .int (nI ow), .int (fq_b ih), .int (fq_b oh), .ref aB, .int (nI ca), .int (nI us), .int (fq_b cl), .int (fq_b fl), .ref aS, .int (nI tk), .ref aL, .ref aX, .int (nI md), .int (nI gi), .int (nI su), .int (nI ps), .int (nI cs)])), (aK, .inl (cI, 5, .inl fK)), (aN, .inl (cI, 25, .inl fN)), (aB, .inl (cI, 120, .inl fB)), (aS, .inl (cI, 120, .inl fS)), (aL, .inl (cI, 2300, .inl fL)), (aX, .inl (cI, 2300, .inl fx))]) := hD
  refine lv_iload K.1 K.2.1 dc_Mo_pass_8 (lv_at hl 5 rfl) ?_
  refine lv_iload_n K.1 K.2.1 dc_Mo_pass_10 rfl (lv_at hl 3 rfl) ?_
  refine lv_icmp_ge (tgt := 166) K.1 K.2.1 dc_Mo_pass_11 rfl (fun b11 => ?_) (fun b11 => ?_)
  · skip
    have hi8 : i = mm := by have := hI8.1; rw [nI_leI (by omega) (by omega)] at b11; omega
    refine lv_iconst (v := 0) K.1 K.2.1 dc_Mo_pass_166 (by decide) ?_
    refine lv_istore K.1 K.2.1 dc_Mo_pass_167 hl (by decide) rfl (fun ls hl => ?_)
    have hl : lv_has ls 6 [(5, .int 0), (0, .ref h), (1, .int (nI kk)), (2, .int (nI xs.length)), (3, .int (nI mm)), (4, .int (nI (5 * kk)))] := hl
    refine fq_lp (σ := Nat × (Nat → Int32)) (fun x => mm - x.1) (fun x H locs ls => (x.1 ≤ mm ∧ ∀ j, j < x.1 → x.2 j = fx j) ∧ lv_has ls 6 [(0, .ref h), (3, .int (nI mm)), (5, .int (nI x.1))] ∧ va_P D fq_cl ([(h, .inr (12, [.int (nI rm), .int (fq_b sd), .int (nI ns), .ref aK, .ref aN, .int (nI iw), .int (nI ow), .int (fq_b ih), .int (fq_b oh), .ref aB, .int (nI ca), .int (nI us), .int (fq_b cl), .int (fq_b fl), .ref aS, .int (nI tk), .ref aL, .ref aX, .int (nI md), .int (nI gi), .int (nI su), .int (nI ps), .int (nI cs)])), (aK, .inl (cI, 5, .inl fK)), (aN, .inl (cI, 25, .inl fN)), (aB, .inl (cI, 120, .inl fB)), (aS, .inl (cI, 120, .inl fS)), (aL, .inl (cI, 2300, .inl x.2)), (aX, .inl (cI, 2300, .inl fx))]) H ∧ va_D A ([(h, .inr (12, [.int (nI rm), .int (fq_b sd), .int (nI ns), .ref aK, .ref aN, .int (nI iw), .int (nI ow), .int (fq_b ih), .int (fq_b oh), .ref aB, .int (nI ca), .int (nI us), .int (fq_b cl), .int (fq_b fl), .ref aS, .int (nI tk), .ref aL, .ref aX, .int (nI md), .int (nI gi), .int (nI su), .int (nI ps), .int (nI cs)])), (aK, .inl (cI, 5, .inl fK)), (aN, .inl (cI, 25, .inl fN)), (aB, .inl (cI, 120, .inl fB)), (aS, .inl (cI, 120, .inl fS)), (aL, .inl (cI, 2300, .inl x.2)), (aX, .inl (cI, 2300, .inl fx))]) ∧ va_S A s.heap H locs) ?_ (0, fL) _ _ _ ⟨⟨Nat.zero_le _, fun j hj => absurd hj (Nat.not_lt_zero j)⟩, lv_sub hl [1, 4, 0] rfl, hP, hD, hS⟩
    rintro ⟨i2, gl⟩ H locs ls ⟨hI169, hl, hP, hD, hS⟩ ih169
    have hI169 : i2 ≤ mm ∧ ∀ j, j < i2 → gl j = fx j := hI169
    have hl : lv_has ls 6 [(0, .ref h), (3, .int (nI mm)), (5, .int (nI i2))] := hl
    have hP : va_P D fq_cl ([(h, .inr (12, [.int (nI rm), .int (fq_b sd), .int (nI ns), .ref aK, .ref aN, .int (nI iw), .int (nI ow), .int (fq_b ih), .int (fq_b oh), .ref aB, .int (nI ca), .int (nI us), .int (fq_b cl), .int (fq_b fl), .ref aS, .int (nI tk), .ref aL, .ref aX, .int (nI md), .int (nI gi), .int (nI su), .int (nI ps), .int (nI cs)])), (aK, .inl (cI, 5, .inl fK)), (aN, .inl (cI, 25, .inl fN)), (aB, .inl (cI, 120, .inl fB)), (aS, .inl (cI, 120, .inl fS)), (aL, .inl (cI, 2300, .inl gl)), (aX, .inl (cI, 2300, .inl fx))]) _ := hP
    have hD : va_D A ([(h, .inr (12, [.int (nI rm), .int (fq_b sd), .int (nI ns), .ref aK, .ref aN, .int (nI iw), .int (nI ow), .int (fq_b ih), .int (fq_b oh), .ref aB, .int (nI ca), .int (nI us), .int (fq_b cl), .int (fq_b fl), .ref aS, .int (nI tk), .ref aL, .ref aX, .int (nI md), .int (nI gi), .int (nI su), .int (nI ps), .int (nI cs)])), (aK, .inl (cI, 5, .inl fK)), (aN, .inl (cI, 25, .inl fN)), (aB, .inl (cI, 120, .inl fB)), (aS, .inl (cI, 120, .inl fS)), (aL, .inl (cI, 2300, .inl gl)), (aX, .inl (cI, 2300, .inl fx))]) := hD
    refine lv_iload K.1 K.2.1 dc_Mo_pass_169 (lv_at hl 2 rfl) ?_
    refine lv_iload_n K.1 K.2.1 dc_Mo_pass_171 rfl (lv_at hl 1 rfl) ?_
    refine lv_icmp_ge (tgt := 195) K.1 K.2.1 dc_Mo_pass_172 rfl (fun b172 => ?_) (fun b172 => ?_)
    · skip
      have hi169 : i2 = mm := by have := hI169.1; rw [nI_leI (by omega) (by omega)] at b172; omega
      exact fq_retv K hret hlk hS hP hD ⟨_, _, rfl, mo_Lo hm (fun j hj => hI8.2 j (by omega)) (fun j hj => hI169.2 j (by omega))⟩ dc_Mo_pass_195 (Nat.le_of_ble_eq_true rfl) (Nat.le_of_ble_eq_true rfl)
    · skip
      have hi169 : i2 < mm := by have := hI169.1; rw [nI_leI (by omega) (by omega)] at b172; omega
      refine lv_aload_n K.1 K.2.1 dc_Mo_pass_175 rfl (lv_at hl 0 rfl) ?_
      refine fq_get K hK cl_Mo hP 0 16 rfl (by decide) wd_786 rfl dc_Mo_pass_176 ?_
      refine lv_iload K.1 K.2.1 dc_Mo_pass_179 (lv_at hl 2 rfl) ?_
      refine lv_aload_n K.1 K.2.1 dc_Mo_pass_181 rfl (lv_at hl 0 rfl) ?_
      refine fq_get K hK cl_Mo hP 0 17 rfl (by decide) wd_787 rfl dc_Mo_pass_182 ?_
      refine lv_iload K.1 K.2.1 dc_Mo_pass_185 (lv_at hl 2 rfl) ?_
      refine fq_ald K hK hP 6 rfl (vp_in_nI (show i2 < 2300 by omega) (by decide)) dc_Mo_pass_187 ?_
      refine fq_asi (y := fx i2) (by rw [nI_clamp (show i2 < 2 ^ 31 by omega)]) ?_
      refine lv_topi (fun v1 e_v1 => ?_)
      refine fq_ast K hK hP hD hS 5 rfl (vp_in_nI (show i2 < 2300 by omega) (by decide)) dc_Mo_pass_188 (fun H locs hP hD hS => ?_)
      rw [nI_clamp (show i2 < 2 ^ 31 by omega)] at hP hD
      have hP : va_P D fq_cl ([(h, .inr (12, [.int (nI rm), .int (fq_b sd), .int (nI ns), .ref aK, .ref aN, .int (nI iw), .int (nI ow), .int (fq_b ih), .int (fq_b oh), .ref aB, .int (nI ca), .int (nI us), .int (fq_b cl), .int (fq_b fl), .ref aS, .int (nI tk), .ref aL, .ref aX, .int (nI md), .int (nI gi), .int (nI su), .int (nI ps), .int (nI cs)])), (aK, .inl (cI, 5, .inl fK)), (aN, .inl (cI, 25, .inl fN)), (aB, .inl (cI, 120, .inl fB)), (aS, .inl (cI, 120, .inl fS)), (aL, .inl (cI, 2300, .inl (upd gl i2 v1))), (aX, .inl (cI, 2300, .inl fx))]) _ := hP
      have hD : va_D A ([(h, .inr (12, [.int (nI rm), .int (fq_b sd), .int (nI ns), .ref aK, .ref aN, .int (nI iw), .int (nI ow), .int (fq_b ih), .int (fq_b oh), .ref aB, .int (nI ca), .int (nI us), .int (fq_b cl), .int (fq_b fl), .ref aS, .int (nI tk), .ref aL, .ref aX, .int (nI md), .int (nI gi), .int (nI su), .int (nI ps), .int (nI cs)])), (aK, .inl (cI, 5, .inl fK)), (aN, .inl (cI, 25, .inl fN)), (aB, .inl (cI, 120, .inl fB)), (aS, .inl (cI, 120, .inl fS)), (aL, .inl (cI, 2300, .inl (upd gl i2 v1))), (aX, .inl (cI, 2300, .inl fx))]) := hD
      refine lv_iinc (v := nI (i2 + 1)) K.1 K.2.1 dc_Mo_pass_189 hl (k := 2) rfl (nI_1 i2) (by decide) rfl (fun ls hl => ?_)
      have hl : lv_has ls 6 [(5, .int (nI (i2 + 1))), (0, .ref h), (3, .int (nI mm))] := hl
      refine lv_goto (tgt := 169) K.1 K.2.1 dc_Mo_pass_192 rfl ?_
      exact ih169 (i2 + 1, upd gl i2 v1) _ _ _ (by show mm - (i2 + 1) < mm - i2; omega) ⟨⟨hi169, by rw [e_v1]; exact mo_cu hI169.2⟩, lv_sub hl [1, 2, 0] rfl, hP, hD, hS⟩
  · skip
    have hi8 : i < mm := by have := hI8.1; rw [nI_leI (by omega) (by omega)] at b11; omega
    refine lv_aload_n K.1 K.2.1 dc_Mo_pass_14 rfl (lv_at hl 0 rfl) ?_
    refine fq_get K hK cl_Mo hP 0 3 rfl (by decide) wd_773 rfl dc_Mo_pass_15 ?_
    refine lv_iload_n K.1 K.2.1 dc_Mo_pass_18 rfl (lv_at hl 1 rfl) ?_
    refine fq_ald K hK hP 1 rfl (vp_in_nI (show kk < 5 by omega) (by decide)) dc_Mo_pass_19 ?_
    refine fq_asi (y := fK kk) (by rw [nI_clamp (show kk < 2 ^ 31 by omega)]) ?_
    refine fq_asi (y := nI sp.1) (hKk) ?_
    refine lv_if_ne (tgt := 42) K.1 K.2.1 dc_Mo_pass_20 rfl (fun b20 => ?_) (fun b20 => ?_)
    · skip
      have nh0 : ¬ sp.1 = 0 := fun z => b20 (by rw [z]; rfl)
      refine lv_aload_n K.1 K.2.1 dc_Mo_pass_42 rfl (lv_at hl 0 rfl) ?_
      refine fq_get K hK cl_Mo hP 0 3 rfl (by decide) wd_773 rfl dc_Mo_pass_43 ?_
      refine lv_iload_n K.1 K.2.1 dc_Mo_pass_46 rfl (lv_at hl 1 rfl) ?_
      refine fq_ald K hK hP 1 rfl (vp_in_nI (show kk < 5 by omega) (by decide)) dc_Mo_pass_47 ?_
      refine fq_asi (y := fK kk) (by rw [nI_clamp (show kk < 2 ^ 31 by omega)]) ?_
      refine fq_asi (y := nI sp.1) (hKk) ?_
      refine lv_iconst (v := 1) K.1 K.2.1 dc_Mo_pass_48 (by decide) ?_
      refine lv_icmp_ne (tgt := 87) K.1 K.2.1 dc_Mo_pass_49 rfl (fun b49 => ?_) (fun b49 => ?_)
      · skip
        have nh1 : ¬ sp.1 = 1 := fun z => b49 (by rw [z]; rfl)
        refine lv_aload_n K.1 K.2.1 dc_Mo_pass_87 rfl (lv_at hl 0 rfl) ?_
        refine fq_get K hK cl_Mo hP 0 3 rfl (by decide) wd_773 rfl dc_Mo_pass_88 ?_
        refine lv_iload_n K.1 K.2.1 dc_Mo_pass_91 rfl (lv_at hl 1 rfl) ?_
        refine fq_ald K hK hP 1 rfl (vp_in_nI (show kk < 5 by omega) (by decide)) dc_Mo_pass_92 ?_
        refine fq_asi (y := fK kk) (by rw [nI_clamp (show kk < 2 ^ 31 by omega)]) ?_
        refine fq_asi (y := nI sp.1) (hKk) ?_
        refine lv_iconst (v := 2) K.1 K.2.1 dc_Mo_pass_93 (by decide) ?_
        refine lv_icmp_ne (tgt := 130) K.1 K.2.1 dc_Mo_pass_94 rfl (fun b94 => ?_) (fun b94 => ?_)
        · skip
          have nh2 : ¬ sp.1 = 2 := fun z => b94 (by rw [z]; rfl)
          have h3 : sp.1 = 3 := by omega
          refine lv_aload_n K.1 K.2.1 dc_Mo_pass_130 rfl (lv_at hl 0 rfl) ?_
          refine fq_get K hK cl_Mo hP 0 17 rfl (by decide) wd_787 rfl dc_Mo_pass_131 ?_
          refine lv_iload K.1 K.2.1 dc_Mo_pass_134 (lv_at hl 5 rfl) ?_
          refine lv_aload_n K.1 K.2.1 dc_Mo_pass_136 rfl (lv_at hl 0 rfl) ?_
          refine lv_aload_n K.1 K.2.1 dc_Mo_pass_137 rfl (lv_at hl 0 rfl) ?_
          refine fq_get K hK cl_Mo hP 0 4 rfl (by decide) wd_774 rfl dc_Mo_pass_138 ?_
          refine lv_iload K.1 K.2.1 dc_Mo_pass_141 (lv_at hl 4 rfl) ?_
          refine fq_ald K hK hP 2 rfl (vp_in_nI (show 5 * kk < 25 by omega) (by decide)) dc_Mo_pass_143 ?_
          refine fq_asi (y := fN (5 * kk)) (by rw [nI_clamp (show 5 * kk < 2 ^ 31 by omega)]) ?_
          refine fq_asi (y := nI sp.2.1.toNat) (mo_nt hN.1 (mo_nn hok (by omega)).1) ?_
          refine lv_aload_n K.1 K.2.1 dc_Mo_pass_144 rfl (lv_at hl 0 rfl) ?_
          refine fq_get K hK cl_Mo hP 0 4 rfl (by decide) wd_774 rfl dc_Mo_pass_145 ?_
          refine lv_iload K.1 K.2.1 dc_Mo_pass_148 (lv_at hl 4 rfl) ?_
          refine lv_iconst (v := 1) K.1 K.2.1 dc_Mo_pass_150 (by decide) ?_
          refine lv_iadd K.1 K.2.1 dc_Mo_pass_151 ?_
          refine fq_asi (y := nI (5 * kk + 1)) (nI_add (5 * kk) 1) ?_
          refine fq_ald K hK hP 2 rfl (vp_in_nI (show 5 * kk + 1 < 25 by omega) (by decide)) dc_Mo_pass_152 ?_
          refine fq_asi (y := fN (5 * kk + 1)) (by rw [nI_clamp (show 5 * kk + 1 < 2 ^ 31 by omega)]) ?_
          refine fq_asi (y := nI sp.2.2.1.toNat) (mo_nt hN.2.1 (mo_nn hok (by omega)).2) ?_
          refine lv_iload K.1 K.2.1 dc_Mo_pass_153 (lv_at hl 5 rfl) ?_
          refine lv_iload_n K.1 K.2.1 dc_Mo_pass_155 rfl (lv_at hl 2 rfl) ?_
          have hc := fq_cut.of (wc := [(h, .inr (12, [.int (nI rm), .int (fq_b sd), .int (nI ns), .ref aK, .ref aN, .int (nI iw), .int (nI ow), .int (fq_b ih), .int (fq_b oh), .ref aB, .int (nI ca), .int (nI us), .int (fq_b cl), .int (fq_b fl), .ref aS, .int (nI tk), .ref aL, .ref aX, .int (nI md), .int (nI gi), .int (nI su), .int (nI ps), .int (nI cs)])), (aK, .inl (cI, 5, .inl fK)), (aN, .inl (cI, 25, .inl fN)), (aB, .inl (cI, 120, .inl fB)), (aS, .inl (cI, 120, .inl fS)), (aL, .inl (cI, 2300, .inl fL)), (aX, .inl (cI, 2300, .inl fx))]) hP hD hS hA [0, 1, 2, 3, 4, 5, 6] (by decide) rfl
          refine fq_ci (wr := []) (fq_rV K hK hZ hS hc (ct_Mo_resampledAt l D cI cO tE h aK aN aB aS aL aX rm sd ns iw ow ih oh ca us cl fl tk md gi su ps cs fK fN fB fS fL fx sp xs sp.2.1.toNat sp.2.2.1.toNat i (mo_Uo hok h3) hL hxi (by omega) _) yk_Mo_resampledAt wd_966 wd_23 wd_964 0 rfl rfl rfl ⟨⟨rfl, rfl⟩, ⟨Nat.le_of_ble_eq_true rfl, Nat.le_of_ble_eq_true rfl⟩, ⟨Nat.le_of_ble_eq_true rfl, Nat.le_of_ble_eq_true rfl⟩⟩ hl.1 rfl (Nat.le_of_ble_eq_true rfl) dc_Mo_pass_156) hP hD hS hc [0, 1, 2, 3, 4, 5, 6] [] rfl rfl (by decide) (by decide) (fun r1 w H locs hw1 hP hD hS => ?_)
          obtain ⟨rfl, hy1⟩ := hw1
          have hP : va_P D fq_cl ([(h, .inr (12, [.int (nI rm), .int (fq_b sd), .int (nI ns), .ref aK, .ref aN, .int (nI iw), .int (nI ow), .int (fq_b ih), .int (fq_b oh), .ref aB, .int (nI ca), .int (nI us), .int (fq_b cl), .int (fq_b fl), .ref aS, .int (nI tk), .ref aL, .ref aX, .int (nI md), .int (nI gi), .int (nI su), .int (nI ps), .int (nI cs)])), (aK, .inl (cI, 5, .inl fK)), (aN, .inl (cI, 25, .inl fN)), (aB, .inl (cI, 120, .inl fB)), (aS, .inl (cI, 120, .inl fS)), (aL, .inl (cI, 2300, .inl fL)), (aX, .inl (cI, 2300, .inl fx))]) _ := hP
          have hD : va_D A ([(h, .inr (12, [.int (nI rm), .int (fq_b sd), .int (nI ns), .ref aK, .ref aN, .int (nI iw), .int (nI ow), .int (fq_b ih), .int (fq_b oh), .ref aB, .int (nI ca), .int (nI us), .int (fq_b cl), .int (fq_b fl), .ref aS, .int (nI tk), .ref aL, .ref aX, .int (nI md), .int (nI gi), .int (nI su), .int (nI ps), .int (nI cs)])), (aK, .inl (cI, 5, .inl fK)), (aN, .inl (cI, 25, .inl fN)), (aB, .inl (cI, 120, .inl fB)), (aS, .inl (cI, 120, .inl fS)), (aL, .inl (cI, 2300, .inl fL)), (aX, .inl (cI, 2300, .inl fx))]) := hD
          have hyv : r1.toInt = fm_y sp xs i := hy1
          refine fq_ast K hK hP hD hS 6 rfl (vp_in_nI (show i < 2300 by omega) (by decide)) dc_Mo_pass_159 (fun H locs hP hD hS => ?_)
          rw [nI_clamp (show i < 2 ^ 31 by omega)] at hP hD
          have hP : va_P D fq_cl ([(h, .inr (12, [.int (nI rm), .int (fq_b sd), .int (nI ns), .ref aK, .ref aN, .int (nI iw), .int (nI ow), .int (fq_b ih), .int (fq_b oh), .ref aB, .int (nI ca), .int (nI us), .int (fq_b cl), .int (fq_b fl), .ref aS, .int (nI tk), .ref aL, .ref aX, .int (nI md), .int (nI gi), .int (nI su), .int (nI ps), .int (nI cs)])), (aK, .inl (cI, 5, .inl fK)), (aN, .inl (cI, 25, .inl fN)), (aB, .inl (cI, 120, .inl fB)), (aS, .inl (cI, 120, .inl fS)), (aL, .inl (cI, 2300, .inl fL)), (aX, .inl (cI, 2300, .inl (upd fx i r1)))]) _ := hP
          have hD : va_D A ([(h, .inr (12, [.int (nI rm), .int (fq_b sd), .int (nI ns), .ref aK, .ref aN, .int (nI iw), .int (nI ow), .int (fq_b ih), .int (fq_b oh), .ref aB, .int (nI ca), .int (nI us), .int (fq_b cl), .int (fq_b fl), .ref aS, .int (nI tk), .ref aL, .ref aX, .int (nI md), .int (nI gi), .int (nI su), .int (nI ps), .int (nI cs)])), (aK, .inl (cI, 5, .inl fK)), (aN, .inl (cI, 25, .inl fN)), (aB, .inl (cI, 120, .inl fB)), (aS, .inl (cI, 120, .inl fS)), (aL, .inl (cI, 2300, .inl fL)), (aX, .inl (cI, 2300, .inl (upd fx i r1)))]) := hD
          refine lv_iinc (v := nI (i + 1)) K.1 K.2.1 dc_Mo_pass_160 hl (k := 5) rfl (nI_1 i) (by decide) rfl (fun ls hl => ?_)
          have hl : lv_has ls 6 [(5, .int (nI (i + 1))), (0, .ref h), (1, .int (nI kk)), (2, .int (nI xs.length)), (3, .int (nI mm)), (4, .int (nI (5 * kk)))] := hl
          refine lv_goto (tgt := 8) K.1 K.2.1 dc_Mo_pass_163 rfl ?_
          exact ih8 (i + 1, upd fx i r1) _ _ _ (by show mm - (i + 1) < mm - i; omega) ⟨⟨hi8, mo_yu hI8.2 hyv⟩, lv_sub hl [1, 2, 3, 4, 5, 0] rfl, hP, hD, hS⟩
        · skip
          have h2 : sp.1 = 2 := (nI_eq (by omega) (by decide)).mp b94
          refine lv_aload_n K.1 K.2.1 dc_Mo_pass_97 rfl (lv_at hl 0 rfl) ?_
          refine fq_get K hK cl_Mo hP 0 17 rfl (by decide) wd_787 rfl dc_Mo_pass_98 ?_
          refine lv_iload K.1 K.2.1 dc_Mo_pass_101 (lv_at hl 5 rfl) ?_
          refine lv_aload_n K.1 K.2.1 dc_Mo_pass_103 rfl (lv_at hl 0 rfl) ?_
          refine lv_aload_n K.1 K.2.1 dc_Mo_pass_104 rfl (lv_at hl 0 rfl) ?_
          refine fq_get K hK cl_Mo hP 0 4 rfl (by decide) wd_774 rfl dc_Mo_pass_105 ?_
          refine lv_iload K.1 K.2.1 dc_Mo_pass_108 (lv_at hl 4 rfl) ?_
          refine fq_ald K hK hP 2 rfl (vp_in_nI (show 5 * kk < 25 by omega) (by decide)) dc_Mo_pass_110 ?_
          refine fq_asi (y := fN (5 * kk)) (by rw [nI_clamp (show 5 * kk < 2 ^ 31 by omega)]) ?_
          refine lv_aload_n K.1 K.2.1 dc_Mo_pass_111 rfl (lv_at hl 0 rfl) ?_
          refine fq_get K hK cl_Mo hP 0 4 rfl (by decide) wd_774 rfl dc_Mo_pass_112 ?_
          refine lv_iload K.1 K.2.1 dc_Mo_pass_115 (lv_at hl 4 rfl) ?_
          refine lv_iconst (v := 1) K.1 K.2.1 dc_Mo_pass_117 (by decide) ?_
          refine lv_iadd K.1 K.2.1 dc_Mo_pass_118 ?_
          refine fq_asi (y := nI (5 * kk + 1)) (nI_add (5 * kk) 1) ?_
          refine fq_ald K hK hP 2 rfl (vp_in_nI (show 5 * kk + 1 < 25 by omega) (by decide)) dc_Mo_pass_119 ?_
          refine fq_asi (y := fN (5 * kk + 1)) (by rw [nI_clamp (show 5 * kk + 1 < 2 ^ 31 by omega)]) ?_
          refine fq_asi (y := nI sp.2.2.1.toNat) (mo_nt hN.2.1 (mo_nn hok (by omega)).2) ?_
          refine lv_iload K.1 K.2.1 dc_Mo_pass_120 (lv_at hl 5 rfl) ?_
          refine lv_iload_n K.1 K.2.1 dc_Mo_pass_122 rfl (lv_at hl 2 rfl) ?_
          have hc := fq_cut.of (wc := [(h, .inr (12, [.int (nI rm), .int (fq_b sd), .int (nI ns), .ref aK, .ref aN, .int (nI iw), .int (nI ow), .int (fq_b ih), .int (fq_b oh), .ref aB, .int (nI ca), .int (nI us), .int (fq_b cl), .int (fq_b fl), .ref aS, .int (nI tk), .ref aL, .ref aX, .int (nI md), .int (nI gi), .int (nI su), .int (nI ps), .int (nI cs)])), (aK, .inl (cI, 5, .inl fK)), (aN, .inl (cI, 25, .inl fN)), (aB, .inl (cI, 120, .inl fB)), (aS, .inl (cI, 120, .inl fS)), (aL, .inl (cI, 2300, .inl fL)), (aX, .inl (cI, 2300, .inl fx))]) hP hD hS hA [0, 1, 2, 3, 4, 5, 6] (by decide) rfl
          refine fq_ci (wr := []) (fq_rV K hK hZ hS hc (ct_Mo_windowAt l D cI cO tE h aK aN aB aS aL aX rm sd ns iw ow ih oh ca us cl fl tk md gi su ps cs fK fN fB fS fL fx sp xs (fN (5 * kk)) i h2 hok hN.1 hL hxi (by omega) _) yk_Mo_windowAt wd_962 wd_22 wd_960 0 rfl rfl rfl ⟨⟨rfl, rfl⟩, ⟨Nat.le_of_ble_eq_true rfl, Nat.le_of_ble_eq_true rfl⟩, ⟨Nat.le_of_ble_eq_true rfl, Nat.le_of_ble_eq_true rfl⟩⟩ hl.1 rfl (Nat.le_of_ble_eq_true rfl) dc_Mo_pass_123) hP hD hS hc [0, 1, 2, 3, 4, 5, 6] [] rfl rfl (by decide) (by decide) (fun r2 w H locs hw2 hP hD hS => ?_)
          obtain ⟨rfl, hy2⟩ := hw2
          have hP : va_P D fq_cl ([(h, .inr (12, [.int (nI rm), .int (fq_b sd), .int (nI ns), .ref aK, .ref aN, .int (nI iw), .int (nI ow), .int (fq_b ih), .int (fq_b oh), .ref aB, .int (nI ca), .int (nI us), .int (fq_b cl), .int (fq_b fl), .ref aS, .int (nI tk), .ref aL, .ref aX, .int (nI md), .int (nI gi), .int (nI su), .int (nI ps), .int (nI cs)])), (aK, .inl (cI, 5, .inl fK)), (aN, .inl (cI, 25, .inl fN)), (aB, .inl (cI, 120, .inl fB)), (aS, .inl (cI, 120, .inl fS)), (aL, .inl (cI, 2300, .inl fL)), (aX, .inl (cI, 2300, .inl fx))]) _ := hP
          have hD : va_D A ([(h, .inr (12, [.int (nI rm), .int (fq_b sd), .int (nI ns), .ref aK, .ref aN, .int (nI iw), .int (nI ow), .int (fq_b ih), .int (fq_b oh), .ref aB, .int (nI ca), .int (nI us), .int (fq_b cl), .int (fq_b fl), .ref aS, .int (nI tk), .ref aL, .ref aX, .int (nI md), .int (nI gi), .int (nI su), .int (nI ps), .int (nI cs)])), (aK, .inl (cI, 5, .inl fK)), (aN, .inl (cI, 25, .inl fN)), (aB, .inl (cI, 120, .inl fB)), (aS, .inl (cI, 120, .inl fS)), (aL, .inl (cI, 2300, .inl fL)), (aX, .inl (cI, 2300, .inl fx))]) := hD
          have hyv : r2.toInt = fm_y sp xs i := hy2
          refine fq_ast K hK hP hD hS 6 rfl (vp_in_nI (show i < 2300 by omega) (by decide)) dc_Mo_pass_126 (fun H locs hP hD hS => ?_)
          rw [nI_clamp (show i < 2 ^ 31 by omega)] at hP hD
          have hP : va_P D fq_cl ([(h, .inr (12, [.int (nI rm), .int (fq_b sd), .int (nI ns), .ref aK, .ref aN, .int (nI iw), .int (nI ow), .int (fq_b ih), .int (fq_b oh), .ref aB, .int (nI ca), .int (nI us), .int (fq_b cl), .int (fq_b fl), .ref aS, .int (nI tk), .ref aL, .ref aX, .int (nI md), .int (nI gi), .int (nI su), .int (nI ps), .int (nI cs)])), (aK, .inl (cI, 5, .inl fK)), (aN, .inl (cI, 25, .inl fN)), (aB, .inl (cI, 120, .inl fB)), (aS, .inl (cI, 120, .inl fS)), (aL, .inl (cI, 2300, .inl fL)), (aX, .inl (cI, 2300, .inl (upd fx i r2)))]) _ := hP
          have hD : va_D A ([(h, .inr (12, [.int (nI rm), .int (fq_b sd), .int (nI ns), .ref aK, .ref aN, .int (nI iw), .int (nI ow), .int (fq_b ih), .int (fq_b oh), .ref aB, .int (nI ca), .int (nI us), .int (fq_b cl), .int (fq_b fl), .ref aS, .int (nI tk), .ref aL, .ref aX, .int (nI md), .int (nI gi), .int (nI su), .int (nI ps), .int (nI cs)])), (aK, .inl (cI, 5, .inl fK)), (aN, .inl (cI, 25, .inl fN)), (aB, .inl (cI, 120, .inl fB)), (aS, .inl (cI, 120, .inl fS)), (aL, .inl (cI, 2300, .inl fL)), (aX, .inl (cI, 2300, .inl (upd fx i r2)))]) := hD
          refine lv_goto (tgt := 160) K.1 K.2.1 dc_Mo_pass_127 rfl ?_
          refine lv_iinc (v := nI (i + 1)) K.1 K.2.1 dc_Mo_pass_160 hl (k := 5) rfl (nI_1 i) (by decide) rfl (fun ls hl => ?_)
          have hl : lv_has ls 6 [(5, .int (nI (i + 1))), (0, .ref h), (1, .int (nI kk)), (2, .int (nI xs.length)), (3, .int (nI mm)), (4, .int (nI (5 * kk)))] := hl
          refine lv_goto (tgt := 8) K.1 K.2.1 dc_Mo_pass_163 rfl ?_
          exact ih8 (i + 1, upd fx i r2) _ _ _ (by show mm - (i + 1) < mm - i; omega) ⟨⟨hi8, mo_yu hI8.2 hyv⟩, lv_sub hl [1, 2, 3, 4, 5, 0] rfl, hP, hD, hS⟩
      · skip
        have h1 : sp.1 = 1 := (nI_eq (by omega) (by decide)).mp b49
        refine lv_aload_n K.1 K.2.1 dc_Mo_pass_52 rfl (lv_at hl 0 rfl) ?_
        refine fq_get K hK cl_Mo hP 0 17 rfl (by decide) wd_787 rfl dc_Mo_pass_53 ?_
        refine lv_iload K.1 K.2.1 dc_Mo_pass_56 (lv_at hl 5 rfl) ?_
        refine lv_aload_n K.1 K.2.1 dc_Mo_pass_58 rfl (lv_at hl 0 rfl) ?_
        refine fq_get K hK cl_Mo hP 0 4 rfl (by decide) wd_774 rfl dc_Mo_pass_59 ?_
        refine lv_iload K.1 K.2.1 dc_Mo_pass_62 (lv_at hl 4 rfl) ?_
        refine fq_ald K hK hP 2 rfl (vp_in_nI (show 5 * kk < 25 by omega) (by decide)) dc_Mo_pass_64 ?_
        refine fq_asi (y := fN (5 * kk)) (by rw [nI_clamp (show 5 * kk < 2 ^ 31 by omega)]) ?_
        refine lv_i2l K.1 K.2.1 dc_Mo_pass_65 rfl ?_
        refine lv_aload_n K.1 K.2.1 dc_Mo_pass_66 rfl (lv_at hl 0 rfl) ?_
        refine lv_iload K.1 K.2.1 dc_Mo_pass_67 (lv_at hl 5 rfl) ?_
        refine lv_iload_n K.1 K.2.1 dc_Mo_pass_69 rfl (lv_at hl 2 rfl) ?_
        have hc := fq_cut.of (wc := [(h, .inr (12, [.int (nI rm), .int (fq_b sd), .int (nI ns), .ref aK, .ref aN, .int (nI iw), .int (nI ow), .int (fq_b ih), .int (fq_b oh), .ref aB, .int (nI ca), .int (nI us), .int (fq_b cl), .int (fq_b fl), .ref aS, .int (nI tk), .ref aL, .ref aX, .int (nI md), .int (nI gi), .int (nI su), .int (nI ps), .int (nI cs)])), (aK, .inl (cI, 5, .inl fK)), (aN, .inl (cI, 25, .inl fN)), (aB, .inl (cI, 120, .inl fB)), (aS, .inl (cI, 120, .inl fS)), (aL, .inl (cI, 2300, .inl fL)), (aX, .inl (cI, 2300, .inl fx))]) hP hD hS hA [0, 1, 2, 3, 4, 5, 6] (by decide) rfl
        refine fq_cl_ (wr := []) (fq_rV K hK hZ hS hc (ct_Mo_x l D cI cO tE h aK aN aB aS aL aX rm sd ns iw ow ih oh ca us cl fl tk md gi su ps cs fK fN fB fS fL fx (nI i) xs hL _) yk_Mo_x wd_951 wd_21 wd_949 0 rfl rfl rfl ⟨⟨rfl, rfl⟩, ⟨Nat.le_of_ble_eq_true rfl, Nat.le_of_ble_eq_true rfl⟩, ⟨Nat.le_of_ble_eq_true rfl, Nat.le_of_ble_eq_true rfl⟩⟩ hl.1 rfl (Nat.le_of_ble_eq_true rfl) dc_Mo_pass_70) hP hD hS hc [0, 1, 2, 3, 4, 5, 6] [] rfl rfl (by decide) (by decide) (fun r3 w H locs hw3 hP hD hS => ?_)
        obtain ⟨rfl, hx1⟩ := hw3
        have hP : va_P D fq_cl ([(h, .inr (12, [.int (nI rm), .int (fq_b sd), .int (nI ns), .ref aK, .ref aN, .int (nI iw), .int (nI ow), .int (fq_b ih), .int (fq_b oh), .ref aB, .int (nI ca), .int (nI us), .int (fq_b cl), .int (fq_b fl), .ref aS, .int (nI tk), .ref aL, .ref aX, .int (nI md), .int (nI gi), .int (nI su), .int (nI ps), .int (nI cs)])), (aK, .inl (cI, 5, .inl fK)), (aN, .inl (cI, 25, .inl fN)), (aB, .inl (cI, 120, .inl fB)), (aS, .inl (cI, 120, .inl fS)), (aL, .inl (cI, 2300, .inl fL)), (aX, .inl (cI, 2300, .inl fx))]) _ := hP
        have hD : va_D A ([(h, .inr (12, [.int (nI rm), .int (fq_b sd), .int (nI ns), .ref aK, .ref aN, .int (nI iw), .int (nI ow), .int (fq_b ih), .int (fq_b oh), .ref aB, .int (nI ca), .int (nI us), .int (fq_b cl), .int (fq_b fl), .ref aS, .int (nI tk), .ref aL, .ref aX, .int (nI md), .int (nI gi), .int (nI su), .int (nI ps), .int (nI cs)])), (aK, .inl (cI, 5, .inl fK)), (aN, .inl (cI, 25, .inl fN)), (aB, .inl (cI, 120, .inl fB)), (aS, .inl (cI, 120, .inl fS)), (aL, .inl (cI, 2300, .inl fL)), (aX, .inl (cI, 2300, .inl fx))]) := hD
        refine lv_lmul K.1 K.2.1 dc_Mo_pass_73 ?_
        refine lv_ldc2 (v := 256) K.1 K.2.1 K.2.2.2.1 (K.2.2.2.2 _ wd_860) dc_Mo_pass_74 ?_
        have hc := fq_cut.of (wc := []) hP hD hS hA [] (by decide) rfl
        refine fq_cl_ (wr := [(h, .inr (12, [.int (nI rm), .int (fq_b sd), .int (nI ns), .ref aK, .ref aN, .int (nI iw), .int (nI ow), .int (fq_b ih), .int (fq_b oh), .ref aB, .int (nI ca), .int (nI us), .int (fq_b cl), .int (fq_b fl), .ref aS, .int (nI tk), .ref aL, .ref aX, .int (nI md), .int (nI gi), .int (nI su), .int (nI ps), .int (nI cs)])), (aK, .inl (cI, 5, .inl fK)), (aN, .inl (cI, 25, .inl fN)), (aB, .inl (cI, 120, .inl fB)), (aS, .inl (cI, 120, .inl fS)), (aL, .inl (cI, 2300, .inl fL)), (aX, .inl (cI, 2300, .inl fx))]) (fq_rS K hK hZ hS hc (ct_Mo_floor l D cI cO tE (((fN (5 * kk)).toInt64) * r3) 256 (by decide) _) yk_Mo_floor wd_868 wd_867 ⟨⟨rfl, rfl⟩, ⟨Nat.le_of_ble_eq_true rfl, Nat.le_of_ble_eq_true rfl⟩, ⟨Nat.le_of_ble_eq_true rfl, Nat.le_of_ble_eq_true rfl⟩⟩ hl.1 rfl (Nat.le_of_ble_eq_true rfl) dc_Mo_pass_77) hP hD hS hc [] [0, 1, 2, 3, 4, 5, 6] rfl rfl (by decide) (by decide) (fun r4 w H locs hw4 hP hD hS => ?_)
        obtain ⟨rfl, hd1⟩ := hw4
        have hP : va_P D fq_cl ([(h, .inr (12, [.int (nI rm), .int (fq_b sd), .int (nI ns), .ref aK, .ref aN, .int (nI iw), .int (nI ow), .int (fq_b ih), .int (fq_b oh), .ref aB, .int (nI ca), .int (nI us), .int (fq_b cl), .int (fq_b fl), .ref aS, .int (nI tk), .ref aL, .ref aX, .int (nI md), .int (nI gi), .int (nI su), .int (nI ps), .int (nI cs)])), (aK, .inl (cI, 5, .inl fK)), (aN, .inl (cI, 25, .inl fN)), (aB, .inl (cI, 120, .inl fB)), (aS, .inl (cI, 120, .inl fS)), (aL, .inl (cI, 2300, .inl fL)), (aX, .inl (cI, 2300, .inl fx))]) _ := hP
        have hD : va_D A ([(h, .inr (12, [.int (nI rm), .int (fq_b sd), .int (nI ns), .ref aK, .ref aN, .int (nI iw), .int (nI ow), .int (fq_b ih), .int (fq_b oh), .ref aB, .int (nI ca), .int (nI us), .int (fq_b cl), .int (fq_b fl), .ref aS, .int (nI tk), .ref aL, .ref aX, .int (nI md), .int (nI gi), .int (nI su), .int (nI ps), .int (nI cs)])), (aK, .inl (cI, 5, .inl fK)), (aN, .inl (cI, 25, .inl fN)), (aB, .inl (cI, 120, .inl fB)), (aS, .inl (cI, 120, .inl fS)), (aL, .inl (cI, 2300, .inl fL)), (aX, .inl (cI, 2300, .inl fx))]) := hD
        have hc := fq_cut.of (wc := []) hP hD hS hA [] (by decide) rfl
        refine fq_ci (wr := [(h, .inr (12, [.int (nI rm), .int (fq_b sd), .int (nI ns), .ref aK, .ref aN, .int (nI iw), .int (nI ow), .int (fq_b ih), .int (fq_b oh), .ref aB, .int (nI ca), .int (nI us), .int (fq_b cl), .int (fq_b fl), .ref aS, .int (nI tk), .ref aL, .ref aX, .int (nI md), .int (nI gi), .int (nI su), .int (nI ps), .int (nI cs)])), (aK, .inl (cI, 5, .inl fK)), (aN, .inl (cI, 25, .inl fN)), (aB, .inl (cI, 120, .inl fB)), (aS, .inl (cI, 120, .inl fS)), (aL, .inl (cI, 2300, .inl fL)), (aX, .inl (cI, 2300, .inl fx))]) (fq_rS K hK hZ hS hc (ct_Mo_clipped l D cI cO tE r4 _) yk_Mo_clipped wd_954 wd_953 ⟨⟨rfl, rfl⟩, ⟨Nat.le_of_ble_eq_true rfl, Nat.le_of_ble_eq_true rfl⟩, ⟨Nat.le_of_ble_eq_true rfl, Nat.le_of_ble_eq_true rfl⟩⟩ hl.1 rfl (Nat.le_of_ble_eq_true rfl) dc_Mo_pass_80) hP hD hS hc [] [0, 1, 2, 3, 4, 5, 6] rfl rfl (by decide) (by decide) (fun r5 w H locs hw5 hP hD hS => ?_)
        obtain ⟨rfl, hd2⟩ := hw5
        have hP : va_P D fq_cl ([(h, .inr (12, [.int (nI rm), .int (fq_b sd), .int (nI ns), .ref aK, .ref aN, .int (nI iw), .int (nI ow), .int (fq_b ih), .int (fq_b oh), .ref aB, .int (nI ca), .int (nI us), .int (fq_b cl), .int (fq_b fl), .ref aS, .int (nI tk), .ref aL, .ref aX, .int (nI md), .int (nI gi), .int (nI su), .int (nI ps), .int (nI cs)])), (aK, .inl (cI, 5, .inl fK)), (aN, .inl (cI, 25, .inl fN)), (aB, .inl (cI, 120, .inl fB)), (aS, .inl (cI, 120, .inl fS)), (aL, .inl (cI, 2300, .inl fL)), (aX, .inl (cI, 2300, .inl fx))]) _ := hP
        have hD : va_D A ([(h, .inr (12, [.int (nI rm), .int (fq_b sd), .int (nI ns), .ref aK, .ref aN, .int (nI iw), .int (nI ow), .int (fq_b ih), .int (fq_b oh), .ref aB, .int (nI ca), .int (nI us), .int (fq_b cl), .int (fq_b fl), .ref aS, .int (nI tk), .ref aL, .ref aX, .int (nI md), .int (nI gi), .int (nI su), .int (nI ps), .int (nI cs)])), (aK, .inl (cI, 5, .inl fK)), (aN, .inl (cI, 25, .inl fN)), (aB, .inl (cI, 120, .inl fB)), (aS, .inl (cI, 120, .inl fS)), (aL, .inl (cI, 2300, .inl fL)), (aX, .inl (cI, 2300, .inl fx))]) := hD
        have hyv : r5.toInt = fm_y sp xs i := (mo_gain h1 hok hN hxi (by omega) hx1 hd1 hd2)
        refine fq_ast K hK hP hD hS 6 rfl (vp_in_nI (show i < 2300 by omega) (by decide)) dc_Mo_pass_83 (fun H locs hP hD hS => ?_)
        rw [nI_clamp (show i < 2 ^ 31 by omega)] at hP hD
        have hP : va_P D fq_cl ([(h, .inr (12, [.int (nI rm), .int (fq_b sd), .int (nI ns), .ref aK, .ref aN, .int (nI iw), .int (nI ow), .int (fq_b ih), .int (fq_b oh), .ref aB, .int (nI ca), .int (nI us), .int (fq_b cl), .int (fq_b fl), .ref aS, .int (nI tk), .ref aL, .ref aX, .int (nI md), .int (nI gi), .int (nI su), .int (nI ps), .int (nI cs)])), (aK, .inl (cI, 5, .inl fK)), (aN, .inl (cI, 25, .inl fN)), (aB, .inl (cI, 120, .inl fB)), (aS, .inl (cI, 120, .inl fS)), (aL, .inl (cI, 2300, .inl fL)), (aX, .inl (cI, 2300, .inl (upd fx i r5)))]) _ := hP
        have hD : va_D A ([(h, .inr (12, [.int (nI rm), .int (fq_b sd), .int (nI ns), .ref aK, .ref aN, .int (nI iw), .int (nI ow), .int (fq_b ih), .int (fq_b oh), .ref aB, .int (nI ca), .int (nI us), .int (fq_b cl), .int (fq_b fl), .ref aS, .int (nI tk), .ref aL, .ref aX, .int (nI md), .int (nI gi), .int (nI su), .int (nI ps), .int (nI cs)])), (aK, .inl (cI, 5, .inl fK)), (aN, .inl (cI, 25, .inl fN)), (aB, .inl (cI, 120, .inl fB)), (aS, .inl (cI, 120, .inl fS)), (aL, .inl (cI, 2300, .inl fL)), (aX, .inl (cI, 2300, .inl (upd fx i r5)))]) := hD
        refine lv_goto (tgt := 160) K.1 K.2.1 dc_Mo_pass_84 rfl ?_
        refine lv_iinc (v := nI (i + 1)) K.1 K.2.1 dc_Mo_pass_160 hl (k := 5) rfl (nI_1 i) (by decide) rfl (fun ls hl => ?_)
        have hl : lv_has ls 6 [(5, .int (nI (i + 1))), (0, .ref h), (1, .int (nI kk)), (2, .int (nI xs.length)), (3, .int (nI mm)), (4, .int (nI (5 * kk)))] := hl
        refine lv_goto (tgt := 8) K.1 K.2.1 dc_Mo_pass_163 rfl ?_
        exact ih8 (i + 1, upd fx i r5) _ _ _ (by show mm - (i + 1) < mm - i; omega) ⟨⟨hi8, mo_yu hI8.2 hyv⟩, lv_sub hl [1, 2, 3, 4, 5, 0] rfl, hP, hD, hS⟩
    · skip
      have h0 : sp.1 = 0 := (nI_eq (by omega) (by decide)).mp b20
      refine lv_aload_n K.1 K.2.1 dc_Mo_pass_23 rfl (lv_at hl 0 rfl) ?_
      refine fq_get K hK cl_Mo hP 0 17 rfl (by decide) wd_787 rfl dc_Mo_pass_24 ?_
      refine lv_iload K.1 K.2.1 dc_Mo_pass_27 (lv_at hl 5 rfl) ?_
      refine lv_aload_n K.1 K.2.1 dc_Mo_pass_29 rfl (lv_at hl 0 rfl) ?_
      refine lv_iload K.1 K.2.1 dc_Mo_pass_30 (lv_at hl 4 rfl) ?_
      refine lv_iload K.1 K.2.1 dc_Mo_pass_32 (lv_at hl 5 rfl) ?_
      refine lv_iload_n K.1 K.2.1 dc_Mo_pass_34 rfl (lv_at hl 2 rfl) ?_
      have hc := fq_cut.of (wc := [(h, .inr (12, [.int (nI rm), .int (fq_b sd), .int (nI ns), .ref aK, .ref aN, .int (nI iw), .int (nI ow), .int (fq_b ih), .int (fq_b oh), .ref aB, .int (nI ca), .int (nI us), .int (fq_b cl), .int (fq_b fl), .ref aS, .int (nI tk), .ref aL, .ref aX, .int (nI md), .int (nI gi), .int (nI su), .int (nI ps), .int (nI cs)])), (aK, .inl (cI, 5, .inl fK)), (aN, .inl (cI, 25, .inl fN)), (aB, .inl (cI, 120, .inl fB)), (aS, .inl (cI, 120, .inl fS)), (aL, .inl (cI, 2300, .inl fL)), (aX, .inl (cI, 2300, .inl fx))]) hP hD hS hA [0, 1, 2, 3, 4, 5, 6] (by decide) rfl
      refine fq_ci (wr := []) (fq_rV K hK hZ hS hc (ct_Mo_sectionAt l D cI cO tE h aK aN aB aS aL aX rm sd ns iw ow ih oh ca us cl fl tk md gi su ps cs fK fN fB fS fL fx sp xs kk i h0 hok hN hL hxi hk (by omega) hI8.2 _) yk_Mo_sectionAt wd_947 wd_20 wd_945 0 rfl rfl rfl ⟨⟨rfl, rfl⟩, ⟨Nat.le_of_ble_eq_true rfl, Nat.le_of_ble_eq_true rfl⟩, ⟨Nat.le_of_ble_eq_true rfl, Nat.le_of_ble_eq_true rfl⟩⟩ hl.1 rfl (Nat.le_of_ble_eq_true rfl) dc_Mo_pass_35) hP hD hS hc [0, 1, 2, 3, 4, 5, 6] [] rfl rfl (by decide) (by decide) (fun r6 w H locs hw6 hP hD hS => ?_)
      obtain ⟨rfl, hy3⟩ := hw6
      have hP : va_P D fq_cl ([(h, .inr (12, [.int (nI rm), .int (fq_b sd), .int (nI ns), .ref aK, .ref aN, .int (nI iw), .int (nI ow), .int (fq_b ih), .int (fq_b oh), .ref aB, .int (nI ca), .int (nI us), .int (fq_b cl), .int (fq_b fl), .ref aS, .int (nI tk), .ref aL, .ref aX, .int (nI md), .int (nI gi), .int (nI su), .int (nI ps), .int (nI cs)])), (aK, .inl (cI, 5, .inl fK)), (aN, .inl (cI, 25, .inl fN)), (aB, .inl (cI, 120, .inl fB)), (aS, .inl (cI, 120, .inl fS)), (aL, .inl (cI, 2300, .inl fL)), (aX, .inl (cI, 2300, .inl fx))]) _ := hP
      have hD : va_D A ([(h, .inr (12, [.int (nI rm), .int (fq_b sd), .int (nI ns), .ref aK, .ref aN, .int (nI iw), .int (nI ow), .int (fq_b ih), .int (fq_b oh), .ref aB, .int (nI ca), .int (nI us), .int (fq_b cl), .int (fq_b fl), .ref aS, .int (nI tk), .ref aL, .ref aX, .int (nI md), .int (nI gi), .int (nI su), .int (nI ps), .int (nI cs)])), (aK, .inl (cI, 5, .inl fK)), (aN, .inl (cI, 25, .inl fN)), (aB, .inl (cI, 120, .inl fB)), (aS, .inl (cI, 120, .inl fS)), (aL, .inl (cI, 2300, .inl fL)), (aX, .inl (cI, 2300, .inl fx))]) := hD
      have hyv : r6.toInt = fm_y sp xs i := hy3
      refine fq_ast K hK hP hD hS 6 rfl (vp_in_nI (show i < 2300 by omega) (by decide)) dc_Mo_pass_38 (fun H locs hP hD hS => ?_)
      rw [nI_clamp (show i < 2 ^ 31 by omega)] at hP hD
      have hP : va_P D fq_cl ([(h, .inr (12, [.int (nI rm), .int (fq_b sd), .int (nI ns), .ref aK, .ref aN, .int (nI iw), .int (nI ow), .int (fq_b ih), .int (fq_b oh), .ref aB, .int (nI ca), .int (nI us), .int (fq_b cl), .int (fq_b fl), .ref aS, .int (nI tk), .ref aL, .ref aX, .int (nI md), .int (nI gi), .int (nI su), .int (nI ps), .int (nI cs)])), (aK, .inl (cI, 5, .inl fK)), (aN, .inl (cI, 25, .inl fN)), (aB, .inl (cI, 120, .inl fB)), (aS, .inl (cI, 120, .inl fS)), (aL, .inl (cI, 2300, .inl fL)), (aX, .inl (cI, 2300, .inl (upd fx i r6)))]) _ := hP
      have hD : va_D A ([(h, .inr (12, [.int (nI rm), .int (fq_b sd), .int (nI ns), .ref aK, .ref aN, .int (nI iw), .int (nI ow), .int (fq_b ih), .int (fq_b oh), .ref aB, .int (nI ca), .int (nI us), .int (fq_b cl), .int (fq_b fl), .ref aS, .int (nI tk), .ref aL, .ref aX, .int (nI md), .int (nI gi), .int (nI su), .int (nI ps), .int (nI cs)])), (aK, .inl (cI, 5, .inl fK)), (aN, .inl (cI, 25, .inl fN)), (aB, .inl (cI, 120, .inl fB)), (aS, .inl (cI, 120, .inl fS)), (aL, .inl (cI, 2300, .inl fL)), (aX, .inl (cI, 2300, .inl (upd fx i r6)))]) := hD
      refine lv_goto (tgt := 160) K.1 K.2.1 dc_Mo_pass_39 rfl ?_
      refine lv_iinc (v := nI (i + 1)) K.1 K.2.1 dc_Mo_pass_160 hl (k := 5) rfl (nI_1 i) (by decide) rfl (fun ls hl => ?_)
      have hl : lv_has ls 6 [(5, .int (nI (i + 1))), (0, .ref h), (1, .int (nI kk)), (2, .int (nI xs.length)), (3, .int (nI mm)), (4, .int (nI (5 * kk)))] := hl
      refine lv_goto (tgt := 8) K.1 K.2.1 dc_Mo_pass_163 rfl ?_
      exact ih8 (i + 1, upd fx i r6) _ _ _ (by show mm - (i + 1) < mm - i; omega) ⟨⟨hi8, mo_yu hI8.2 hyv⟩, lv_sub hl [1, 2, 3, 4, 5, 0] rfl, hP, hD, hS⟩
set_option maxHeartbeats 4000000 in
set_option maxRecDepth 100000 in
theorem ct_Mo_work (l : Launch) (D : va_G) (cI cO : ClassId) (tE : Nat) (h aK aN aB aS aL aX : Nat) (rm : Nat) (sd : Bool) (ns : Nat) (iw : Nat) (ow : Nat) (ih : Bool) (oh : Bool) (ca : Nat) (us : Nat) (cl : Bool) (fl : Bool) (tk : Nat) (md : Nat) (gi : Nat) (su : Nat) (ps : Nat) (cs : Nat) (fK fN fB fS fL fX : Nat → Int32) (sps : List fm_S) (X : List Int) (hpl : pl_ok sps) (hns : ns = sps.length) (hKN : mo_K fK fN sps) (hX1 : X.length ≤ 120) (htk : tk = X.length) (hSX : ∀ j, j < X.length → (fS j).toInt = X.getD j 0) (hX2 : ∀ v ∈ X, fm_in v) (sz : Nat) : Met l my_Mo_work (fq_w my_Mo_work cb_Mo_work 4 none) ({ frames := 3, cells := 0, slots := 0, locals := 83 }) (va_Pc ([.ref h]) (fq_Pre D cI cO tE sz ([(h, .inr (12, [.int (nI rm), .int (fq_b sd), .int (nI ns), .ref aK, .ref aN, .int (nI iw), .int (nI ow), .int (fq_b ih), .int (fq_b oh), .ref aB, .int (nI ca), .int (nI us), .int (fq_b cl), .int (fq_b fl), .ref aS, .int (nI tk), .ref aL, .ref aX, .int (nI md), .int (nI gi), .int (nI su), .int (nI ps), .int (nI cs)])), (aK, .inl (cI, 5, .inl fK)), (aN, .inl (cI, 25, .inl fN)), (aB, .inl (cI, 120, .inl fB)), (aS, .inl (cI, 120, .inl fS)), (aL, .inl (cI, 2300, .inl fL)), (aX, .inl (cI, 2300, .inl fX))]))) (va_Qv (S := va_W) (fun w => ∃ gL gX : Nat → Int32, w = [(h, .inr (12, [.int (nI rm), .int (fq_b sd), .int (nI ns), .ref aK, .ref aN, .int (nI iw), .int (nI ow), .int (fq_b ih), .int (fq_b oh), .ref aB, .int (nI ca), .int (nI us), .int (fq_b cl), .int (fq_b fl), .ref aS, .int (nI tk), .ref aL, .ref aX, .int (nI ((fm_O sps fl X).length)), .int (nI gi), .int (nI su), .int (nI ps), .int (nI cs)])), (aK, .inl (cI, 5, .inl fK)), (aN, .inl (cI, 25, .inl fN)), (aB, .inl (cI, 120, .inl fB)), (aS, .inl (cI, 120, .inl fS)), (aL, .inl (cI, 2300, .inl gL)), (aX, .inl (cI, 2300, .inl gX))] ∧ mo_L gL (fm_O sps fl X)) (fq_Bw D (va_A ([(h, .inr (12, [.int (nI rm), .int (fq_b sd), .int (nI ns), .ref aK, .ref aN, .int (nI iw), .int (nI ow), .int (fq_b ih), .int (fq_b oh), .ref aB, .int (nI ca), .int (nI us), .int (fq_b cl), .int (fq_b fl), .ref aS, .int (nI tk), .ref aL, .ref aX, .int (nI md), .int (nI gi), .int (nI su), .int (nI ps), .int (nI cs)])), (aK, .inl (cI, 5, .inl fK)), (aN, .inl (cI, 25, .inl fN)), (aB, .inl (cI, 120, .inl fB)), (aS, .inl (cI, 120, .inl fS)), (aL, .inl (cI, 2300, .inl fL)), (aX, .inl (cI, 2300, .inl fX))]) sz)) (va_A ([(h, .inr (12, [.int (nI rm), .int (fq_b sd), .int (nI ns), .ref aK, .ref aN, .int (nI iw), .int (nI ow), .int (fq_b ih), .int (fq_b oh), .ref aB, .int (nI ca), .int (nI us), .int (fq_b cl), .int (fq_b fl), .ref aS, .int (nI tk), .ref aL, .ref aX, .int (nI md), .int (nI gi), .int (nI su), .int (nI ps), .int (nI cs)])), (aK, .inl (cI, 5, .inl fK)), (aN, .inl (cI, 25, .inl fN)), (aB, .inl (cI, 120, .inl fB)), (aS, .inl (cI, 120, .inl fS)), (aL, .inl (cI, 2300, .inl fL)), (aX, .inl (cI, 2300, .inl fX))]) sz)) (0) (0) (va_A ([(h, .inr (12, [.int (nI rm), .int (fq_b sd), .int (nI ns), .ref aK, .ref aN, .int (nI iw), .int (nI ow), .int (fq_b ih), .int (fq_b oh), .ref aB, .int (nI ca), .int (nI us), .int (fq_b cl), .int (fq_b fl), .ref aS, .int (nI tk), .ref aL, .ref aX, .int (nI md), .int (nI gi), .int (nI su), .int (nI ps), .int (nI cs)])), (aK, .inl (cI, 5, .inl fK)), (aN, .inl (cI, 25, .inl fN)), (aB, .inl (cI, 120, .inl fB)), (aS, .inl (cI, 120, .inl fS)), (aL, .inl (cI, 2300, .inl fL)), (aX, .inl (cI, 2300, .inl fX))]) sz) := by
  refine fq_open (by decide +kernel) (Nat.le_of_ble_eq_true rfl) ?_
  intro pg ev s mt below meth cd ls K hret hlk hin hK hZ hP hD hA hS hl
  generalize va_A ([(h, .inr (12, [.int (nI rm), .int (fq_b sd), .int (nI ns), .ref aK, .ref aN, .int (nI iw), .int (nI ow), .int (fq_b ih), .int (fq_b oh), .ref aB, .int (nI ca), .int (nI us), .int (fq_b cl), .int (fq_b fl), .ref aS, .int (nI tk), .ref aL, .ref aX, .int (nI md), .int (nI gi), .int (nI su), .int (nI ps), .int (nI cs)])), (aK, .inl (cI, 5, .inl fK)), (aN, .inl (cI, 25, .inl fN)), (aB, .inl (cI, 120, .inl fB)), (aS, .inl (cI, 120, .inl fS)), (aL, .inl (cI, 2300, .inl fL)), (aX, .inl (cI, 2300, .inl fX))]) sz = A at hZ hD hA hS ⊢
  have K : fq_Ctx pg mt cd cb_Mo_work 4 s _ cn_Mo := K
  have hl : lv_has ls 4 [(0, .ref h)] := hl
  have hn5 := hpl.2.1
  refine lv_aload_n K.1 K.2.1 dc_Mo_work_0 rfl (lv_at hl 0 rfl) ?_
  refine fq_get K hK cl_Mo hP 0 15 rfl (by decide) wd_785 rfl dc_Mo_work_1 ?_
  refine lv_istore_n K.1 K.2.1 dc_Mo_work_4 rfl hl (by decide) rfl (fun ls hl => ?_)
  have hl : lv_has ls 4 [(1, .int (nI tk)), (0, .ref h)] := hl
  refine lv_iconst (v := 0) K.1 K.2.1 dc_Mo_work_5 (by decide) ?_
  refine lv_istore_n K.1 K.2.1 dc_Mo_work_6 rfl hl (by decide) rfl (fun ls hl => ?_)
  have hl : lv_has ls 4 [(2, .int 0), (1, .int (nI tk)), (0, .ref h)] := hl
  refine fq_lp (σ := Nat × (Nat → Int32)) (fun x => tk - x.1) (fun x H locs ls => (x.1 ≤ tk ∧ ∀ j, j < x.1 → x.2 j = fS j) ∧ lv_has ls 4 [(0, .ref h), (1, .int (nI tk)), (2, .int (nI x.1))] ∧ va_P D fq_cl ([(h, .inr (12, [.int (nI rm), .int (fq_b sd), .int (nI ns), .ref aK, .ref aN, .int (nI iw), .int (nI ow), .int (fq_b ih), .int (fq_b oh), .ref aB, .int (nI ca), .int (nI us), .int (fq_b cl), .int (fq_b fl), .ref aS, .int (nI tk), .ref aL, .ref aX, .int (nI md), .int (nI gi), .int (nI su), .int (nI ps), .int (nI cs)])), (aK, .inl (cI, 5, .inl fK)), (aN, .inl (cI, 25, .inl fN)), (aB, .inl (cI, 120, .inl fB)), (aS, .inl (cI, 120, .inl fS)), (aL, .inl (cI, 2300, .inl x.2)), (aX, .inl (cI, 2300, .inl fX))]) H ∧ va_D A ([(h, .inr (12, [.int (nI rm), .int (fq_b sd), .int (nI ns), .ref aK, .ref aN, .int (nI iw), .int (nI ow), .int (fq_b ih), .int (fq_b oh), .ref aB, .int (nI ca), .int (nI us), .int (fq_b cl), .int (fq_b fl), .ref aS, .int (nI tk), .ref aL, .ref aX, .int (nI md), .int (nI gi), .int (nI su), .int (nI ps), .int (nI cs)])), (aK, .inl (cI, 5, .inl fK)), (aN, .inl (cI, 25, .inl fN)), (aB, .inl (cI, 120, .inl fB)), (aS, .inl (cI, 120, .inl fS)), (aL, .inl (cI, 2300, .inl x.2)), (aX, .inl (cI, 2300, .inl fX))]) ∧ va_S A s.heap H locs) ?_ (0, fL) _ _ _ ⟨⟨Nat.zero_le _, fun j hj => absurd hj (Nat.not_lt_zero j)⟩, lv_sub hl [2, 1, 0] rfl, hP, hD, hS⟩
  rintro ⟨i, gl⟩ H locs ls ⟨hI7, hl, hP, hD, hS⟩ ih7
  have hI7 : i ≤ tk ∧ ∀ j, j < i → gl j = fS j := hI7
  have hl : lv_has ls 4 [(0, .ref h), (1, .int (nI tk)), (2, .int (nI i))] := hl
  have hP : va_P D fq_cl ([(h, .inr (12, [.int (nI rm), .int (fq_b sd), .int (nI ns), .ref aK, .ref aN, .int (nI iw), .int (nI ow), .int (fq_b ih), .int (fq_b oh), .ref aB, .int (nI ca), .int (nI us), .int (fq_b cl), .int (fq_b fl), .ref aS, .int (nI tk), .ref aL, .ref aX, .int (nI md), .int (nI gi), .int (nI su), .int (nI ps), .int (nI cs)])), (aK, .inl (cI, 5, .inl fK)), (aN, .inl (cI, 25, .inl fN)), (aB, .inl (cI, 120, .inl fB)), (aS, .inl (cI, 120, .inl fS)), (aL, .inl (cI, 2300, .inl gl)), (aX, .inl (cI, 2300, .inl fX))]) _ := hP
  have hD : va_D A ([(h, .inr (12, [.int (nI rm), .int (fq_b sd), .int (nI ns), .ref aK, .ref aN, .int (nI iw), .int (nI ow), .int (fq_b ih), .int (fq_b oh), .ref aB, .int (nI ca), .int (nI us), .int (fq_b cl), .int (fq_b fl), .ref aS, .int (nI tk), .ref aL, .ref aX, .int (nI md), .int (nI gi), .int (nI su), .int (nI ps), .int (nI cs)])), (aK, .inl (cI, 5, .inl fK)), (aN, .inl (cI, 25, .inl fN)), (aB, .inl (cI, 120, .inl fB)), (aS, .inl (cI, 120, .inl fS)), (aL, .inl (cI, 2300, .inl gl)), (aX, .inl (cI, 2300, .inl fX))]) := hD
  refine lv_iload_n K.1 K.2.1 dc_Mo_work_7 rfl (lv_at hl 2 rfl) ?_
  refine lv_iload_n K.1 K.2.1 dc_Mo_work_8 rfl (lv_at hl 1 rfl) ?_
  refine lv_icmp_ge (tgt := 30) K.1 K.2.1 dc_Mo_work_9 rfl (fun b9 => ?_) (fun b9 => ?_)
  · skip
    have hi7 : i = tk := by have := hI7.1; rw [nI_leI (by omega) (by omega)] at b9; omega
    refine lv_iconst (v := 0) K.1 K.2.1 dc_Mo_work_30 (by decide) ?_
    refine lv_istore_n K.1 K.2.1 dc_Mo_work_31 rfl hl (by decide) rfl (fun ls hl => ?_)
    have hl : lv_has ls 4 [(2, .int 0), (0, .ref h), (1, .int (nI tk))] := hl
    refine fq_lp (σ := Nat × Nat × (Nat → Int32) × (Nat → Int32)) (fun x => ns - x.1) (fun x H locs ls => (x.1 ≤ ns ∧ x.2.1 = (fm_O (sps.take x.1) fl X).length ∧ mo_L x.2.2.1 (fm_O (sps.take x.1) fl X)) ∧ lv_has ls 4 [(0, .ref h), (1, .int (nI x.2.1)), (2, .int (nI x.1))] ∧ va_P D fq_cl ([(h, .inr (12, [.int (nI rm), .int (fq_b sd), .int (nI ns), .ref aK, .ref aN, .int (nI iw), .int (nI ow), .int (fq_b ih), .int (fq_b oh), .ref aB, .int (nI ca), .int (nI us), .int (fq_b cl), .int (fq_b fl), .ref aS, .int (nI tk), .ref aL, .ref aX, .int (nI md), .int (nI gi), .int (nI su), .int (nI ps), .int (nI cs)])), (aK, .inl (cI, 5, .inl fK)), (aN, .inl (cI, 25, .inl fN)), (aB, .inl (cI, 120, .inl fB)), (aS, .inl (cI, 120, .inl fS)), (aL, .inl (cI, 2300, .inl x.2.2.1)), (aX, .inl (cI, 2300, .inl x.2.2.2))]) H ∧ va_D A ([(h, .inr (12, [.int (nI rm), .int (fq_b sd), .int (nI ns), .ref aK, .ref aN, .int (nI iw), .int (nI ow), .int (fq_b ih), .int (fq_b oh), .ref aB, .int (nI ca), .int (nI us), .int (fq_b cl), .int (fq_b fl), .ref aS, .int (nI tk), .ref aL, .ref aX, .int (nI md), .int (nI gi), .int (nI su), .int (nI ps), .int (nI cs)])), (aK, .inl (cI, 5, .inl fK)), (aN, .inl (cI, 25, .inl fN)), (aB, .inl (cI, 120, .inl fB)), (aS, .inl (cI, 120, .inl fS)), (aL, .inl (cI, 2300, .inl x.2.2.1)), (aX, .inl (cI, 2300, .inl x.2.2.2))]) ∧ va_S A s.heap H locs) ?_ (0, tk, gl, fX) _ _ _ ⟨⟨Nat.zero_le _, htk, mo_cp (xs := X) (by omega) (hi7.trans htk) hI7.2 hSX⟩, lv_sub hl [1, 2, 0] rfl, hP, hD, hS⟩
    rintro ⟨k, nv, ml, mx⟩ H locs ls ⟨hI32, hl, hP, hD, hS⟩ ih32
    have hI32 : k ≤ ns ∧ nv = (fm_O (sps.take k) fl X).length ∧ mo_L ml (fm_O (sps.take k) fl X) := hI32
    have hl : lv_has ls 4 [(0, .ref h), (1, .int (nI nv)), (2, .int (nI k))] := hl
    have hP : va_P D fq_cl ([(h, .inr (12, [.int (nI rm), .int (fq_b sd), .int (nI ns), .ref aK, .ref aN, .int (nI iw), .int (nI ow), .int (fq_b ih), .int (fq_b oh), .ref aB, .int (nI ca), .int (nI us), .int (fq_b cl), .int (fq_b fl), .ref aS, .int (nI tk), .ref aL, .ref aX, .int (nI md), .int (nI gi), .int (nI su), .int (nI ps), .int (nI cs)])), (aK, .inl (cI, 5, .inl fK)), (aN, .inl (cI, 25, .inl fN)), (aB, .inl (cI, 120, .inl fB)), (aS, .inl (cI, 120, .inl fS)), (aL, .inl (cI, 2300, .inl ml)), (aX, .inl (cI, 2300, .inl mx))]) _ := hP
    have hD : va_D A ([(h, .inr (12, [.int (nI rm), .int (fq_b sd), .int (nI ns), .ref aK, .ref aN, .int (nI iw), .int (nI ow), .int (fq_b ih), .int (fq_b oh), .ref aB, .int (nI ca), .int (nI us), .int (fq_b cl), .int (fq_b fl), .ref aS, .int (nI tk), .ref aL, .ref aX, .int (nI md), .int (nI gi), .int (nI su), .int (nI ps), .int (nI cs)])), (aK, .inl (cI, 5, .inl fK)), (aN, .inl (cI, 25, .inl fN)), (aB, .inl (cI, 120, .inl fB)), (aS, .inl (cI, 120, .inl fS)), (aL, .inl (cI, 2300, .inl ml)), (aX, .inl (cI, 2300, .inl mx))]) := hD
    refine lv_iload_n K.1 K.2.1 dc_Mo_work_32 rfl (lv_at hl 2 rfl) ?_
    refine lv_aload_n K.1 K.2.1 dc_Mo_work_33 rfl (lv_at hl 0 rfl) ?_
    refine fq_get K hK cl_Mo hP 0 2 rfl (by decide) wd_772 rfl dc_Mo_work_34 ?_
    refine lv_icmp_ge (tgt := 62) K.1 K.2.1 dc_Mo_work_37 rfl (fun b37 => ?_) (fun b37 => ?_)
    · skip
      have hk : k = ns := by have := hI32.1; rw [nI_leI (by omega) (by omega)] at b37; omega
      refine lv_aload_n K.1 K.2.1 dc_Mo_work_62 rfl (lv_at hl 0 rfl) ?_
      refine lv_iload_n K.1 K.2.1 dc_Mo_work_63 rfl (lv_at hl 1 rfl) ?_
      refine fq_put K hK cl_Mo hP hD hS 0 18 rfl (by decide) wd_788 rfl rfl rfl (Nat.le_of_ble_eq_true rfl) dc_Mo_work_64 (fun H locs hP hD hS => ?_)
      have hP : va_P D fq_cl ([(h, .inr (12, [.int (nI rm), .int (fq_b sd), .int (nI ns), .ref aK, .ref aN, .int (nI iw), .int (nI ow), .int (fq_b ih), .int (fq_b oh), .ref aB, .int (nI ca), .int (nI us), .int (fq_b cl), .int (fq_b fl), .ref aS, .int (nI tk), .ref aL, .ref aX, .int (nI nv), .int (nI gi), .int (nI su), .int (nI ps), .int (nI cs)])), (aK, .inl (cI, 5, .inl fK)), (aN, .inl (cI, 25, .inl fN)), (aB, .inl (cI, 120, .inl fB)), (aS, .inl (cI, 120, .inl fS)), (aL, .inl (cI, 2300, .inl ml)), (aX, .inl (cI, 2300, .inl mx))]) _ := hP
      have hD : va_D A ([(h, .inr (12, [.int (nI rm), .int (fq_b sd), .int (nI ns), .ref aK, .ref aN, .int (nI iw), .int (nI ow), .int (fq_b ih), .int (fq_b oh), .ref aB, .int (nI ca), .int (nI us), .int (fq_b cl), .int (fq_b fl), .ref aS, .int (nI tk), .ref aL, .ref aX, .int (nI nv), .int (nI gi), .int (nI su), .int (nI ps), .int (nI cs)])), (aK, .inl (cI, 5, .inl fK)), (aN, .inl (cI, 25, .inl fN)), (aB, .inl (cI, 120, .inl fB)), (aS, .inl (cI, 120, .inl fS)), (aL, .inl (cI, 2300, .inl ml)), (aX, .inl (cI, 2300, .inl mx))]) := hD
      exact fq_retv K hret hlk hS hP hD (by have e : nv = (fm_O sps fl X).length := (by rw [hI32.2.1, mo_tka (hk.trans hns)]); rw [e]; exact ⟨_, _, rfl, (by have z := hI32.2.2; rw [mo_tka (hk.trans hns)] at z; exact z)⟩) dc_Mo_work_67 (Nat.le_of_ble_eq_true rfl) (Nat.le_of_ble_eq_true rfl)
    · skip
      have hk : k < ns := by have := hI32.1; rw [nI_leI (by omega) (by omega)] at b37; omega
      obtain ⟨sp, hsp⟩ : ∃ sp, sps[k]? = some sp := ⟨_, List.getElem?_eq_getElem (show k < sps.length by omega)⟩
      have hmm : fm_m sp fl nv = (fm_O (sps.take (k + 1)) fl X).length := by rw [hI32.2.1, mo_tks hsp, fm_o_length]
      have hb1 := mo_tkl hpl fl hX1 k
      have hb2 := mo_tkl hpl fl hX1 (k + 1)
      refine lv_aload_n K.1 K.2.1 dc_Mo_work_40 rfl (lv_at hl 0 rfl) ?_
      refine lv_iload_n K.1 K.2.1 dc_Mo_work_41 rfl (lv_at hl 2 rfl) ?_
      refine lv_iload_n K.1 K.2.1 dc_Mo_work_42 rfl (lv_at hl 1 rfl) ?_
      have hc := fq_cut.of (wc := [(h, .inr (12, [.int (nI rm), .int (fq_b sd), .int (nI ns), .ref aK, .ref aN, .int (nI iw), .int (nI ow), .int (fq_b ih), .int (fq_b oh), .ref aB, .int (nI ca), .int (nI us), .int (fq_b cl), .int (fq_b fl), .ref aS, .int (nI tk), .ref aL, .ref aX, .int (nI md), .int (nI gi), .int (nI su), .int (nI ps), .int (nI cs)])), (aK, .inl (cI, 5, .inl fK)), (aN, .inl (cI, 25, .inl fN)), (aB, .inl (cI, 120, .inl fB)), (aS, .inl (cI, 120, .inl fS)), (aL, .inl (cI, 2300, .inl ml)), (aX, .inl (cI, 2300, .inl mx))]) hP hD hS hA [0, 1, 2, 3, 4, 5, 6] (by decide) rfl
      refine fq_ci (wr := []) (fq_rV K hK hZ hS hc (ct_Mo_madeOf l D cI cO tE h aK aN aB aS aL aX rm sd ns iw ow ih oh ca us cl fl tk md gi su ps cs fK fN fB fS ml mx sp k nv (by omega) ((hKN k sp hsp).1) ((hKN k sp hsp).2.1) (hpl.1 sp (List.mem_of_getElem? hsp)) (by have := hI32.2.1; omega) _) yk_Mo_madeOf wd_939 wd_18 wd_937 0 rfl rfl rfl ⟨⟨rfl, rfl⟩, ⟨Nat.le_of_ble_eq_true rfl, Nat.le_of_ble_eq_true rfl⟩, ⟨Nat.le_of_ble_eq_true rfl, Nat.le_of_ble_eq_true rfl⟩⟩ hl.1 rfl (Nat.le_of_ble_eq_true rfl) dc_Mo_work_43) hP hD hS hc [0, 1, 2, 3, 4, 5, 6] [] rfl rfl (by decide) (by decide) (fun r1 w H locs hw1 hP hD hS => ?_)
      obtain ⟨rfl, rfl⟩ := hw1
      have hP : va_P D fq_cl ([(h, .inr (12, [.int (nI rm), .int (fq_b sd), .int (nI ns), .ref aK, .ref aN, .int (nI iw), .int (nI ow), .int (fq_b ih), .int (fq_b oh), .ref aB, .int (nI ca), .int (nI us), .int (fq_b cl), .int (fq_b fl), .ref aS, .int (nI tk), .ref aL, .ref aX, .int (nI md), .int (nI gi), .int (nI su), .int (nI ps), .int (nI cs)])), (aK, .inl (cI, 5, .inl fK)), (aN, .inl (cI, 25, .inl fN)), (aB, .inl (cI, 120, .inl fB)), (aS, .inl (cI, 120, .inl fS)), (aL, .inl (cI, 2300, .inl ml)), (aX, .inl (cI, 2300, .inl mx))]) _ := hP
      have hD : va_D A ([(h, .inr (12, [.int (nI rm), .int (fq_b sd), .int (nI ns), .ref aK, .ref aN, .int (nI iw), .int (nI ow), .int (fq_b ih), .int (fq_b oh), .ref aB, .int (nI ca), .int (nI us), .int (fq_b cl), .int (fq_b fl), .ref aS, .int (nI tk), .ref aL, .ref aX, .int (nI md), .int (nI gi), .int (nI su), .int (nI ps), .int (nI cs)])), (aK, .inl (cI, 5, .inl fK)), (aN, .inl (cI, 25, .inl fN)), (aB, .inl (cI, 120, .inl fB)), (aS, .inl (cI, 120, .inl fS)), (aL, .inl (cI, 2300, .inl ml)), (aX, .inl (cI, 2300, .inl mx))]) := hD
      refine lv_istore_n K.1 K.2.1 dc_Mo_work_46 rfl hl (by decide) rfl (fun ls hl => ?_)
      have hl : lv_has ls 4 [(3, .int (nI (fm_m sp fl nv))), (0, .ref h), (1, .int (nI nv)), (2, .int (nI k))] := hl
      refine lv_aload_n K.1 K.2.1 dc_Mo_work_47 rfl (lv_at hl 1 rfl) ?_
      refine lv_iload_n K.1 K.2.1 dc_Mo_work_48 rfl (lv_at hl 3 rfl) ?_
      refine lv_iload_n K.1 K.2.1 dc_Mo_work_49 rfl (lv_at hl 2 rfl) ?_
      refine fq_asi (y := nI (fm_O (sps.take k) fl X).length) (by rw [hI32.2.1]) ?_
      refine lv_iload_n K.1 K.2.1 dc_Mo_work_50 rfl (lv_at hl 0 rfl) ?_
      have hc := fq_cut.of (wc := [(h, .inr (12, [.int (nI rm), .int (fq_b sd), .int (nI ns), .ref aK, .ref aN, .int (nI iw), .int (nI ow), .int (fq_b ih), .int (fq_b oh), .ref aB, .int (nI ca), .int (nI us), .int (fq_b cl), .int (fq_b fl), .ref aS, .int (nI tk), .ref aL, .ref aX, .int (nI md), .int (nI gi), .int (nI su), .int (nI ps), .int (nI cs)])), (aK, .inl (cI, 5, .inl fK)), (aN, .inl (cI, 25, .inl fN)), (aB, .inl (cI, 120, .inl fB)), (aS, .inl (cI, 120, .inl fS)), (aL, .inl (cI, 2300, .inl ml)), (aX, .inl (cI, 2300, .inl mx))]) hP hD hS hA [0, 1, 2, 3, 4, 5, 6] (by decide) rfl
      refine fq_cv (wr := []) (fq_rV K hK hZ hS hc (ct_Mo_pass l D cI cO tE h aK aN aB aS aL aX rm sd ns iw ow ih oh ca us cl fl tk md gi su ps cs fK fN fB fS ml mx sp (fm_O (sps.take k) fl X) k (fm_m sp fl nv) (by omega) ((hKN k sp hsp).1) ((hKN k sp hsp).2.1) (hpl.1 sp (List.mem_of_getElem? hsp)) hI32.2.2 (mo_tki hpl fl hX2 k) (by omega) _) yk_Mo_pass wd_943 wd_19 wd_941 0 rfl rfl rfl ⟨⟨rfl, rfl⟩, ⟨Nat.le_of_ble_eq_true rfl, Nat.le_of_ble_eq_true rfl⟩, ⟨Nat.le_of_ble_eq_true rfl, Nat.le_of_ble_eq_true rfl⟩⟩ hl.1 rfl (Nat.le_of_ble_eq_true rfl) dc_Mo_work_51) hP hD hS hc [0, 1, 2, 3, 4, 5, 6] [] rfl rfl (by decide) (by decide) (fun  w H locs hw2 hP hD hS => ?_)
      obtain ⟨gL1, gX1, rfl, hgL1⟩ := hw2
      have hP : va_P D fq_cl ([(h, .inr (12, [.int (nI rm), .int (fq_b sd), .int (nI ns), .ref aK, .ref aN, .int (nI iw), .int (nI ow), .int (fq_b ih), .int (fq_b oh), .ref aB, .int (nI ca), .int (nI us), .int (fq_b cl), .int (fq_b fl), .ref aS, .int (nI tk), .ref aL, .ref aX, .int (nI md), .int (nI gi), .int (nI su), .int (nI ps), .int (nI cs)])), (aK, .inl (cI, 5, .inl fK)), (aN, .inl (cI, 25, .inl fN)), (aB, .inl (cI, 120, .inl fB)), (aS, .inl (cI, 120, .inl fS)), (aL, .inl (cI, 2300, .inl gL1)), (aX, .inl (cI, 2300, .inl gX1))]) _ := hP
      have hD : va_D A ([(h, .inr (12, [.int (nI rm), .int (fq_b sd), .int (nI ns), .ref aK, .ref aN, .int (nI iw), .int (nI ow), .int (fq_b ih), .int (fq_b oh), .ref aB, .int (nI ca), .int (nI us), .int (fq_b cl), .int (fq_b fl), .ref aS, .int (nI tk), .ref aL, .ref aX, .int (nI md), .int (nI gi), .int (nI su), .int (nI ps), .int (nI cs)])), (aK, .inl (cI, 5, .inl fK)), (aN, .inl (cI, 25, .inl fN)), (aB, .inl (cI, 120, .inl fB)), (aS, .inl (cI, 120, .inl fS)), (aL, .inl (cI, 2300, .inl gL1)), (aX, .inl (cI, 2300, .inl gX1))]) := hD
      refine lv_iload_n K.1 K.2.1 dc_Mo_work_54 rfl (lv_at hl 0 rfl) ?_
      refine lv_istore_n K.1 K.2.1 dc_Mo_work_55 rfl hl (by decide) rfl (fun ls hl => ?_)
      have hl : lv_has ls 4 [(1, .int (nI (fm_m sp fl nv))), (3, .int (nI (fm_m sp fl nv))), (0, .ref h), (2, .int (nI k))] := hl
      refine lv_iinc (v := nI (k + 1)) K.1 K.2.1 dc_Mo_work_56 hl (k := 3) rfl (nI_1 k) (by decide) rfl (fun ls hl => ?_)
      have hl : lv_has ls 4 [(2, .int (nI (k + 1))), (1, .int (nI (fm_m sp fl nv))), (3, .int (nI (fm_m sp fl nv))), (0, .ref h)] := hl
      refine lv_goto (tgt := 32) K.1 K.2.1 dc_Mo_work_59 rfl ?_
      exact ih32 (k + 1, fm_m sp fl nv, gL1, gX1) _ _ _ (by show ns - (k + 1) < ns - k; omega) ⟨⟨hk, hmm, by rw [mo_tks hsp]; unfold fm_o; rw [← hI32.2.1]; exact hgL1⟩, lv_sub hl [3, 1, 0] rfl, hP, hD, hS⟩
  · skip
    have hi7 : i < tk := by have := hI7.1; rw [nI_leI (by omega) (by omega)] at b9; omega
    refine lv_aload_n K.1 K.2.1 dc_Mo_work_12 rfl (lv_at hl 0 rfl) ?_
    refine fq_get K hK cl_Mo hP 0 16 rfl (by decide) wd_786 rfl dc_Mo_work_13 ?_
    refine lv_iload_n K.1 K.2.1 dc_Mo_work_16 rfl (lv_at hl 2 rfl) ?_
    refine lv_aload_n K.1 K.2.1 dc_Mo_work_17 rfl (lv_at hl 0 rfl) ?_
    refine fq_get K hK cl_Mo hP 0 14 rfl (by decide) wd_784 rfl dc_Mo_work_18 ?_
    refine lv_iload_n K.1 K.2.1 dc_Mo_work_21 rfl (lv_at hl 2 rfl) ?_
    refine fq_ald K hK hP 4 rfl (vp_in_nI (show i < 120 by omega) (by decide)) dc_Mo_work_22 ?_
    refine fq_asi (y := fS i) (by rw [nI_clamp (show i < 2 ^ 31 by omega)]) ?_
    refine lv_topi (fun v1 e_v1 => ?_)
    refine fq_ast K hK hP hD hS 5 rfl (vp_in_nI (show i < 2300 by omega) (by decide)) dc_Mo_work_23 (fun H locs hP hD hS => ?_)
    rw [nI_clamp (show i < 2 ^ 31 by omega)] at hP hD
    have hP : va_P D fq_cl ([(h, .inr (12, [.int (nI rm), .int (fq_b sd), .int (nI ns), .ref aK, .ref aN, .int (nI iw), .int (nI ow), .int (fq_b ih), .int (fq_b oh), .ref aB, .int (nI ca), .int (nI us), .int (fq_b cl), .int (fq_b fl), .ref aS, .int (nI tk), .ref aL, .ref aX, .int (nI md), .int (nI gi), .int (nI su), .int (nI ps), .int (nI cs)])), (aK, .inl (cI, 5, .inl fK)), (aN, .inl (cI, 25, .inl fN)), (aB, .inl (cI, 120, .inl fB)), (aS, .inl (cI, 120, .inl fS)), (aL, .inl (cI, 2300, .inl (upd gl i v1))), (aX, .inl (cI, 2300, .inl fX))]) _ := hP
    have hD : va_D A ([(h, .inr (12, [.int (nI rm), .int (fq_b sd), .int (nI ns), .ref aK, .ref aN, .int (nI iw), .int (nI ow), .int (fq_b ih), .int (fq_b oh), .ref aB, .int (nI ca), .int (nI us), .int (fq_b cl), .int (fq_b fl), .ref aS, .int (nI tk), .ref aL, .ref aX, .int (nI md), .int (nI gi), .int (nI su), .int (nI ps), .int (nI cs)])), (aK, .inl (cI, 5, .inl fK)), (aN, .inl (cI, 25, .inl fN)), (aB, .inl (cI, 120, .inl fB)), (aS, .inl (cI, 120, .inl fS)), (aL, .inl (cI, 2300, .inl (upd gl i v1))), (aX, .inl (cI, 2300, .inl fX))]) := hD
    refine lv_iinc (v := nI (i + 1)) K.1 K.2.1 dc_Mo_work_24 hl (k := 2) rfl (nI_1 i) (by decide) rfl (fun ls hl => ?_)
    have hl : lv_has ls 4 [(2, .int (nI (i + 1))), (0, .ref h), (1, .int (nI tk))] := hl
    refine lv_goto (tgt := 7) K.1 K.2.1 dc_Mo_work_27 rfl ?_
    exact ih7 (i + 1, upd gl i v1) _ _ _ (by show tk - (i + 1) < tk - i; omega) ⟨⟨hi7, by rw [e_v1]; exact mo_cu hI7.2⟩, lv_sub hl [1, 2, 0] rfl, hP, hD, hS⟩
