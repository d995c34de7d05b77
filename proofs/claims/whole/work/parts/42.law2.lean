theorem wd_48 : Cond.classLink cn_La 7 cn_FP ∈ fq_TB := fq_in 48 (by decide +kernel) rfl
theorem wd_50 : Cond.methodLink cn_La 15 my_FP_init ∈ fq_TB := fq_in 50 (by decide +kernel) rfl
theorem wd_206 : Cond.methodLink cn_La 21 my_FP_section ∈ fq_TB := fq_in 206 (by decide +kernel) rfl
theorem wd_332 : Cond.methodLink cn_La 26 my_FP_halfPower ∈ fq_TB := fq_in 332 (by decide +kernel) rfl
theorem wd_350 : Cond.methodLink cn_La 31 my_FP_gain ∈ fq_TB := fq_in 350 (by decide +kernel) rfl
theorem wd_367 : Cond.methodLink cn_La 36 my_FP_window ∈ fq_TB := fq_in 367 (by decide +kernel) rfl
theorem wd_407 : Cond.methodLink cn_La 41 my_FP_resample ∈ fq_TB := fq_in 407 (by decide +kernel) rfl
theorem wd_450 : Cond.methodLink cn_La 45 my_FP_format ∈ fq_TB := fq_in 450 (by decide +kernel) rfl
theorem wd_458 : Cond.methodLink cn_La 50 my_FP_response ∈ fq_TB := fq_in 458 (by decide +kernel) rfl
theorem wd_496 : Cond.methodLink cn_La 55 my_FP_start ∈ fq_TB := fq_in 496 (by decide +kernel) rfl
theorem wd_537 : Cond.methodLink cn_La 60 my_FP_restart ∈ fq_TB := fq_in 537 (by decide +kernel) rfl
theorem wd_541 : Cond.methodLink cn_La 64 my_FP_bytes ∈ fq_TB := fq_in 541 (by decide +kernel) rfl
theorem wd_561 : Cond.methodLink cn_La 68 my_FP_close ∈ fq_TB := fq_in 561 (by decide +kernel) rfl
theorem wd_565 : Cond.methodLink cn_La 72 my_FP_produce ∈ fq_TB := fq_in 565 (by decide +kernel) rfl
theorem wd_707 : Cond.methodLink cn_La 77 my_FP_consume ∈ fq_TB := fq_in 707 (by decide +kernel) rfl
theorem wd_715 : Cond.methodLink cn_La 81 my_FP_interrupt ∈ fq_TB := fq_in 715 (by decide +kernel) rfl
theorem wd_719 : Cond.methodLink cn_La 86 my_FP_state ∈ fq_TB := fq_in 719 (by decide +kernel) rfl
theorem wd_723 : Cond.methodLink cn_La 91 my_FP_waiting ∈ fq_TB := fq_in 723 (by decide +kernel) rfl
theorem wd_727 : Cond.methodLink cn_La 95 my_FP_sinkByte ∈ fq_TB := fq_in 727 (by decide +kernel) rfl
theorem wd_751 : Cond.methodLink cn_La 99 my_FP_power ∈ fq_TB := fq_in 751 (by decide +kernel) rfl
theorem wd_761 : Cond.methodLink cn_La 9 my_La_cell ∈ fq_TB := fq_in 761 (by decide +kernel) rfl
theorem wd_764 : Cond.classLink cn_La 18 cn_Mo ∈ fq_TB := fq_in 764 (by decide +kernel) rfl
theorem wd_766 : Cond.methodLink cn_La 20 my_Mo_init ∈ fq_TB := fq_in 766 (by decide +kernel) rfl
theorem wd_840 : Cond.methodLink cn_La 25 my_Mo_section ∈ fq_TB := fq_in 840 (by decide +kernel) rfl
theorem wd_855 : Cond.methodLink cn_La 30 my_Mo_halfPower ∈ fq_TB := fq_in 855 (by decide +kernel) rfl
theorem wd_873 : Cond.methodLink cn_La 35 my_Mo_gain ∈ fq_TB := fq_in 873 (by decide +kernel) rfl
theorem wd_877 : Cond.methodLink cn_La 40 my_Mo_window ∈ fq_TB := fq_in 877 (by decide +kernel) rfl
theorem wd_881 : Cond.methodLink cn_La 44 my_Mo_resample ∈ fq_TB := fq_in 881 (by decide +kernel) rfl
theorem wd_888 : Cond.methodLink cn_La 49 my_Mo_format ∈ fq_TB := fq_in 888 (by decide +kernel) rfl
theorem wd_892 : Cond.methodLink cn_La 54 my_Mo_response ∈ fq_TB := fq_in 892 (by decide +kernel) rfl
theorem wd_902 : Cond.methodLink cn_La 59 my_Mo_start ∈ fq_TB := fq_in 902 (by decide +kernel) rfl
theorem wd_910 : Cond.methodLink cn_La 63 my_Mo_restart ∈ fq_TB := fq_in 910 (by decide +kernel) rfl
theorem wd_911 : Cond.methodLink cn_La 67 my_Mo_bytes ∈ fq_TB := fq_in 911 (by decide +kernel) rfl
theorem wd_915 : Cond.methodLink cn_La 71 my_Mo_close ∈ fq_TB := fq_in 915 (by decide +kernel) rfl
theorem wd_919 : Cond.methodLink cn_La 76 my_Mo_produce ∈ fq_TB := fq_in 919 (by decide +kernel) rfl
theorem wd_968 : Cond.methodLink cn_La 80 my_Mo_consume ∈ fq_TB := fq_in 968 (by decide +kernel) rfl
theorem wd_976 : Cond.methodLink cn_La 85 my_Mo_interrupt ∈ fq_TB := fq_in 976 (by decide +kernel) rfl
theorem wd_980 : Cond.methodLink cn_La 90 my_Mo_state ∈ fq_TB := fq_in 980 (by decide +kernel) rfl
theorem wd_984 : Cond.methodLink cn_La 94 my_Mo_waiting ∈ fq_TB := fq_in 984 (by decide +kernel) rfl
theorem wd_988 : Cond.methodLink cn_La 98 my_Mo_sinkByte ∈ fq_TB := fq_in 988 (by decide +kernel) rfl
theorem wd_996 : Cond.methodLink cn_La 103 my_Mo_power ∈ fq_TB := fq_in 996 (by decide +kernel) rfl

/-! THE CLAIM OUT OF ONE WALK OF THE LAW'S BODY. Your part is whole_start (and what it stands on); all else here is the same for every law, but numbers. -/
def R_law : String := "FilterPipeLaw"
def lw_P (b : Addr) (xs : List Int32) (args : Array Value) (s : State) : Prop := args = #[.ref b] ∧ s.IntsAt b xs ∧ xs.length ≤ 3073 ∧ (Jvm.Cond.and given_1 narrow_1).before args s = true
def lw_Q (_ : Array Value) (s : State) (o : Outcome) (t : State) : Prop := o = .returned (some (.int 1)) ∧ Framed s o t [] 600000 7302249
def lw_Z (below : List Frame) (a : Array Value) (s : State) : State → Prop := fun t => ∃ o, t.status = .running ∧ Ended t below o ∧ lw_Q a s o t
/-- the law's own end, with 1 on the stack, nothing written that was there before, its room as the claim has it -/
theorem lw_ret {p : Program} {l : Launch} {e : Env} {s : State} {m : MethodId} {below : List Frame} {meth : Method} {c : Code} {b : Nat} (hx : p.tables.exec = Jvm.exec) (hb : c.code = code) (hr : meth.sig.returnType = ret) (hlocks : meth.locks = false) {pc : Nat} {H : Heap} {ls : Array Slot} (hdg : decode code pc = .ok (.ireturn, 1)) : W p l e room_1 s m #[Value.ref b] below meth c H [] 600000 7302249 (lw_Z below #[Value.ref b] s) (F0 m pc ls [.int 1]) := by
  intro T hT X
  obtain ⟨fs, hret, hrun, hended, hW, hframe⟩ := X.leave (v := some (.int 1)) (hlocks := hlocks) (fun h => by rw [hr] at h; cases h)
  have hmeth' : T.vm.method? m = some meth := X.method'
  refine ⟨T.setFrames fs, ?_, .returned (some (.int 1)), hrun, hended, rfl, ⟨_, rfl⟩, hW, hframe⟩
  jvm_step X.here [X.here.top, hx, hb, hdg, hmeth', hr, ret, narrow_b1]
  (try refine ⟨rfl, ?_⟩); (try refine ⟨rfl, ?_⟩)
  first | (intro acts; rw [hret _ acts rfl rfl rfl]) | rw [hret _ _ rfl rfl rfl]
  exact Steps.refl _
/-- what holds at the law's entry: the machine, the code, the tables' words (any of lw_tbl by 'hts w (by decide +kernel)'), the script of L ints xs at the cell b, what the Statement gives of the start (any of its parts by flat_of_before) -/
def lw_At (p : Program) (s : State) (m : MethodId) (meth : Method) (c : Code) (b L : Nat) (xs : Nat → Int32) : Prop :=
  p.tables.exec = Jvm.exec ∧ c.code = code ∧ meth.sig.returnType = ret ∧ c.maxLocals = 4 ∧ s.vm.findClass R_law = some m.cls ∧ (∀ w ∈ lw_tbl, w.before #[Value.ref b] s = true) ∧ va_X b L xs s s.heap ∧ b < s.heap.size ∧ meth.locks = false ∧ (Jvm.Cond.and given_1 narrow_1).before #[Value.ref b] s = true

theorem dc_La_law_0 : decode code 0 = .ok (.new 7, 3) := by decide +kernel
theorem dc_La_law_3 : decode code 3 = .ok (.dup, 1) := by decide +kernel
theorem dc_La_law_4 : decode code 4 = .ok (.aload_n 0, 1) := by decide +kernel
theorem dc_La_law_5 : decode code 5 = .ok (.iconst 0, 1) := by decide +kernel
theorem dc_La_law_6 : decode code 6 = .ok (.invokestatic 9, 3) := by decide +kernel
theorem dc_La_law_9 : decode code 9 = .ok (.invokespecial 15, 3) := by decide +kernel
theorem dc_La_law_12 : decode code 12 = .ok (.astore_n 1, 1) := by decide +kernel
theorem dc_La_law_13 : decode code 13 = .ok (.new 18, 3) := by decide +kernel
theorem dc_La_law_16 : decode code 16 = .ok (.dup, 1) := by decide +kernel
theorem dc_La_law_17 : decode code 17 = .ok (.aload_n 0, 1) := by decide +kernel
theorem dc_La_law_18 : decode code 18 = .ok (.iconst 0, 1) := by decide +kernel
theorem dc_La_law_19 : decode code 19 = .ok (.invokestatic 9, 3) := by decide +kernel
theorem dc_La_law_22 : decode code 22 = .ok (.invokespecial 20, 3) := by decide +kernel
theorem dc_La_law_25 : decode code 25 = .ok (.astore_n 2, 1) := by decide +kernel
theorem dc_La_law_26 : decode code 26 = .ok (.iconst 1, 1) := by decide +kernel
theorem dc_La_law_27 : decode code 27 = .ok (.istore_n 3, 1) := by decide +kernel
theorem dc_La_law_28 : decode code 28 = .ok (.iload_n 3, 1) := by decide +kernel
theorem dc_La_law_29 : decode code 29 = .ok (.aload_n 0, 1) := by decide +kernel
theorem dc_La_law_30 : decode code 30 = .ok (.arraylength, 1) := by decide +kernel
theorem dc_La_law_31 : decode code 31 = .ok (.bipush 6, 2) := by decide +kernel
theorem dc_La_law_33 : decode code 33 = .ok (.isub, 1) := by decide +kernel
theorem dc_La_law_34 : decode code 34 = .ok (.if_icmp .gt 649, 3) := by decide +kernel
theorem dc_La_law_37 : decode code 37 = .ok (.aload_n 0, 1) := by decide +kernel
theorem dc_La_law_38 : decode code 38 = .ok (.iload_n 3, 1) := by decide +kernel
theorem dc_La_law_39 : decode code 39 = .ok (.iaload, 1) := by decide +kernel
theorem dc_La_law_40 : decode code 40 = .ok (.bipush 31, 2) := by decide +kernel
theorem dc_La_law_42 : decode code 42 = .ok (.iand, 1) := by decide +kernel
theorem dc_La_law_43 : decode code 43 = .ok (.tableswitch 634 0 17 #[85, 148, 197, 220, 253, 286, 361, 394, 407, 420, 453, 466, 489, 512, 551, 564, 587, 610], 85) := by decide +kernel
theorem dc_La_law_128 : decode code 128 = .ok (.aload_n 1, 1) := by decide +kernel
theorem dc_La_law_129 : decode code 129 = .ok (.aload_n 0, 1) := by decide +kernel
theorem dc_La_law_130 : decode code 130 = .ok (.iload_n 3, 1) := by decide +kernel
theorem dc_La_law_131 : decode code 131 = .ok (.iconst 1, 1) := by decide +kernel
theorem dc_La_law_132 : decode code 132 = .ok (.iadd, 1) := by decide +kernel
theorem dc_La_law_133 : decode code 133 = .ok (.iaload, 1) := by decide +kernel
theorem dc_La_law_134 : decode code 134 = .ok (.aload_n 0, 1) := by decide +kernel
theorem dc_La_law_135 : decode code 135 = .ok (.iload_n 3, 1) := by decide +kernel
theorem dc_La_law_136 : decode code 136 = .ok (.iconst 2, 1) := by decide +kernel
theorem dc_La_law_137 : decode code 137 = .ok (.iadd, 1) := by decide +kernel
theorem dc_La_law_138 : decode code 138 = .ok (.iaload, 1) := by decide +kernel
theorem dc_La_law_139 : decode code 139 = .ok (.aload_n 0, 1) := by decide +kernel
theorem dc_La_law_140 : decode code 140 = .ok (.iload_n 3, 1) := by decide +kernel
theorem dc_La_law_141 : decode code 141 = .ok (.iconst 3, 1) := by decide +kernel
theorem dc_La_law_142 : decode code 142 = .ok (.iadd, 1) := by decide +kernel
theorem dc_La_law_143 : decode code 143 = .ok (.iaload, 1) := by decide +kernel
theorem dc_La_law_144 : decode code 144 = .ok (.aload_n 0, 1) := by decide +kernel
theorem dc_La_law_145 : decode code 145 = .ok (.iload_n 3, 1) := by decide +kernel
theorem dc_La_law_146 : decode code 146 = .ok (.iconst 4, 1) := by decide +kernel
theorem dc_La_law_147 : decode code 147 = .ok (.iadd, 1) := by decide +kernel
theorem dc_La_law_148 : decode code 148 = .ok (.iaload, 1) := by decide +kernel
theorem dc_La_law_149 : decode code 149 = .ok (.aload_n 0, 1) := by decide +kernel
theorem dc_La_law_150 : decode code 150 = .ok (.iload_n 3, 1) := by decide +kernel
theorem dc_La_law_151 : decode code 151 = .ok (.iconst 5, 1) := by decide +kernel
theorem dc_La_law_152 : decode code 152 = .ok (.iadd, 1) := by decide +kernel
theorem dc_La_law_153 : decode code 153 = .ok (.iaload, 1) := by decide +kernel
theorem dc_La_law_154 : decode code 154 = .ok (.invokevirtual 21, 3) := by decide +kernel
theorem dc_La_law_157 : decode code 157 = .ok (.aload_n 2, 1) := by decide +kernel
theorem dc_La_law_158 : decode code 158 = .ok (.aload_n 0, 1) := by decide +kernel
theorem dc_La_law_159 : decode code 159 = .ok (.iload_n 3, 1) := by decide +kernel
theorem dc_La_law_160 : decode code 160 = .ok (.iconst 1, 1) := by decide +kernel
theorem dc_La_law_161 : decode code 161 = .ok (.iadd, 1) := by decide +kernel
theorem dc_La_law_162 : decode code 162 = .ok (.iaload, 1) := by decide +kernel
theorem dc_La_law_163 : decode code 163 = .ok (.aload_n 0, 1) := by decide +kernel
theorem dc_La_law_164 : decode code 164 = .ok (.iload_n 3, 1) := by decide +kernel
theorem dc_La_law_165 : decode code 165 = .ok (.iconst 2, 1) := by decide +kernel
theorem dc_La_law_166 : decode code 166 = .ok (.iadd, 1) := by decide +kernel
theorem dc_La_law_167 : decode code 167 = .ok (.iaload, 1) := by decide +kernel
theorem dc_La_law_168 : decode code 168 = .ok (.aload_n 0, 1) := by decide +kernel
theorem dc_La_law_169 : decode code 169 = .ok (.iload_n 3, 1) := by decide +kernel
theorem dc_La_law_170 : decode code 170 = .ok (.iconst 3, 1) := by decide +kernel
theorem dc_La_law_171 : decode code 171 = .ok (.iadd, 1) := by decide +kernel
theorem dc_La_law_172 : decode code 172 = .ok (.iaload, 1) := by decide +kernel
theorem dc_La_law_173 : decode code 173 = .ok (.aload_n 0, 1) := by decide +kernel
theorem dc_La_law_174 : decode code 174 = .ok (.iload_n 3, 1) := by decide +kernel
theorem dc_La_law_175 : decode code 175 = .ok (.iconst 4, 1) := by decide +kernel
theorem dc_La_law_176 : decode code 176 = .ok (.iadd, 1) := by decide +kernel
theorem dc_La_law_177 : decode code 177 = .ok (.iaload, 1) := by decide +kernel
theorem dc_La_law_178 : decode code 178 = .ok (.aload_n 0, 1) := by decide +kernel
theorem dc_La_law_179 : decode code 179 = .ok (.iload_n 3, 1) := by decide +kernel
theorem dc_La_law_180 : decode code 180 = .ok (.iconst 5, 1) := by decide +kernel
theorem dc_La_law_181 : decode code 181 = .ok (.iadd, 1) := by decide +kernel
theorem dc_La_law_182 : decode code 182 = .ok (.iaload, 1) := by decide +kernel
theorem dc_La_law_183 : decode code 183 = .ok (.invokevirtual 25, 3) := by decide +kernel
theorem dc_La_law_186 : decode code 186 = .ok (.if_icmp .eq 491, 3) := by decide +kernel
theorem dc_La_law_189 : decode code 189 = .ok (.iconst 0, 1) := by decide +kernel
theorem dc_La_law_190 : decode code 190 = .ok (.ireturn, 1) := by decide +kernel
theorem dc_La_law_191 : decode code 191 = .ok (.aload_n 1, 1) := by decide +kernel
theorem dc_La_law_192 : decode code 192 = .ok (.aload_n 0, 1) := by decide +kernel
theorem dc_La_law_193 : decode code 193 = .ok (.iload_n 3, 1) := by decide +kernel
theorem dc_La_law_194 : decode code 194 = .ok (.iconst 1, 1) := by decide +kernel
theorem dc_La_law_195 : decode code 195 = .ok (.iadd, 1) := by decide +kernel
theorem dc_La_law_196 : decode code 196 = .ok (.iaload, 1) := by decide +kernel
theorem dc_La_law_197 : decode code 197 = .ok (.aload_n 0, 1) := by decide +kernel
theorem dc_La_law_198 : decode code 198 = .ok (.iload_n 3, 1) := by decide +kernel
theorem dc_La_law_199 : decode code 199 = .ok (.iconst 2, 1) := by decide +kernel
theorem dc_La_law_200 : decode code 200 = .ok (.iadd, 1) := by decide +kernel
theorem dc_La_law_201 : decode code 201 = .ok (.iaload, 1) := by decide +kernel
theorem dc_La_law_202 : decode code 202 = .ok (.ifCond .eq 7, 3) := by decide +kernel
theorem dc_La_law_205 : decode code 205 = .ok (.iconst 1, 1) := by decide +kernel
theorem dc_La_law_206 : decode code 206 = .ok (.goto 4, 3) := by decide +kernel
theorem dc_La_law_209 : decode code 209 = .ok (.iconst 0, 1) := by decide +kernel
theorem dc_La_law_210 : decode code 210 = .ok (.invokevirtual 26, 3) := by decide +kernel
theorem dc_La_law_213 : decode code 213 = .ok (.aload_n 2, 1) := by decide +kernel
theorem dc_La_law_214 : decode code 214 = .ok (.aload_n 0, 1) := by decide +kernel
theorem dc_La_law_215 : decode code 215 = .ok (.iload_n 3, 1) := by decide +kernel
theorem dc_La_law_216 : decode code 216 = .ok (.iconst 1, 1) := by decide +kernel
theorem dc_La_law_217 : decode code 217 = .ok (.iadd, 1) := by decide +kernel
theorem dc_La_law_218 : decode code 218 = .ok (.iaload, 1) := by decide +kernel
theorem dc_La_law_219 : decode code 219 = .ok (.aload_n 0, 1) := by decide +kernel
theorem dc_La_law_220 : decode code 220 = .ok (.iload_n 3, 1) := by decide +kernel
theorem dc_La_law_221 : decode code 221 = .ok (.iconst 2, 1) := by decide +kernel
theorem dc_La_law_222 : decode code 222 = .ok (.iadd, 1) := by decide +kernel
theorem dc_La_law_223 : decode code 223 = .ok (.iaload, 1) := by decide +kernel
theorem dc_La_law_224 : decode code 224 = .ok (.ifCond .eq 7, 3) := by decide +kernel
theorem dc_La_law_227 : decode code 227 = .ok (.iconst 1, 1) := by decide +kernel
theorem dc_La_law_228 : decode code 228 = .ok (.goto 4, 3) := by decide +kernel
theorem dc_La_law_231 : decode code 231 = .ok (.iconst 0, 1) := by decide +kernel
theorem dc_La_law_232 : decode code 232 = .ok (.invokevirtual 30, 3) := by decide +kernel
theorem dc_La_law_235 : decode code 235 = .ok (.if_icmp .eq 442, 3) := by decide +kernel
theorem dc_La_law_238 : decode code 238 = .ok (.iconst 0, 1) := by decide +kernel
theorem dc_La_law_239 : decode code 239 = .ok (.ireturn, 1) := by decide +kernel
theorem dc_La_law_240 : decode code 240 = .ok (.aload_n 1, 1) := by decide +kernel
theorem dc_La_law_241 : decode code 241 = .ok (.aload_n 0, 1) := by decide +kernel
theorem dc_La_law_242 : decode code 242 = .ok (.iload_n 3, 1) := by decide +kernel
theorem dc_La_law_243 : decode code 243 = .ok (.iconst 1, 1) := by decide +kernel
theorem dc_La_law_244 : decode code 244 = .ok (.iadd, 1) := by decide +kernel
theorem dc_La_law_245 : decode code 245 = .ok (.iaload, 1) := by decide +kernel
theorem dc_La_law_246 : decode code 246 = .ok (.invokevirtual 31, 3) := by decide +kernel
theorem dc_La_law_249 : decode code 249 = .ok (.aload_n 2, 1) := by decide +kernel
theorem dc_La_law_250 : decode code 250 = .ok (.aload_n 0, 1) := by decide +kernel
theorem dc_La_law_251 : decode code 251 = .ok (.iload_n 3, 1) := by decide +kernel
theorem dc_La_law_252 : decode code 252 = .ok (.iconst 1, 1) := by decide +kernel
theorem dc_La_law_253 : decode code 253 = .ok (.iadd, 1) := by decide +kernel
theorem dc_La_law_254 : decode code 254 = .ok (.iaload, 1) := by decide +kernel
theorem dc_La_law_255 : decode code 255 = .ok (.invokevirtual 35, 3) := by decide +kernel
theorem dc_La_law_258 : decode code 258 = .ok (.if_icmp .eq 419, 3) := by decide +kernel
theorem dc_La_law_261 : decode code 261 = .ok (.iconst 0, 1) := by decide +kernel
theorem dc_La_law_262 : decode code 262 = .ok (.ireturn, 1) := by decide +kernel
theorem dc_La_law_263 : decode code 263 = .ok (.aload_n 1, 1) := by decide +kernel
theorem dc_La_law_264 : decode code 264 = .ok (.aload_n 0, 1) := by decide +kernel
theorem dc_La_law_265 : decode code 265 = .ok (.iload_n 3, 1) := by decide +kernel
theorem dc_La_law_266 : decode code 266 = .ok (.iconst 1, 1) := by decide +kernel
theorem dc_La_law_267 : decode code 267 = .ok (.iadd, 1) := by decide +kernel
theorem dc_La_law_268 : decode code 268 = .ok (.iaload, 1) := by decide +kernel
theorem dc_La_law_269 : decode code 269 = .ok (.aload_n 0, 1) := by decide +kernel
theorem dc_La_law_270 : decode code 270 = .ok (.iload_n 3, 1) := by decide +kernel
theorem dc_La_law_271 : decode code 271 = .ok (.iconst 2, 1) := by decide +kernel
theorem dc_La_law_272 : decode code 272 = .ok (.iadd, 1) := by decide +kernel
theorem dc_La_law_273 : decode code 273 = .ok (.iaload, 1) := by decide +kernel
theorem dc_La_law_274 : decode code 274 = .ok (.invokevirtual 36, 3) := by decide +kernel
theorem dc_La_law_277 : decode code 277 = .ok (.aload_n 2, 1) := by decide +kernel
theorem dc_La_law_278 : decode code 278 = .ok (.aload_n 0, 1) := by decide +kernel
theorem dc_La_law_279 : decode code 279 = .ok (.iload_n 3, 1) := by decide +kernel
theorem dc_La_law_280 : decode code 280 = .ok (.iconst 1, 1) := by decide +kernel
theorem dc_La_law_281 : decode code 281 = .ok (.iadd, 1) := by decide +kernel
theorem dc_La_law_282 : decode code 282 = .ok (.iaload, 1) := by decide +kernel
theorem dc_La_law_283 : decode code 283 = .ok (.aload_n 0, 1) := by decide +kernel
theorem dc_La_law_284 : decode code 284 = .ok (.iload_n 3, 1) := by decide +kernel
theorem dc_La_law_285 : decode code 285 = .ok (.iconst 2, 1) := by decide +kernel
theorem dc_La_law_286 : decode code 286 = .ok (.iadd, 1) := by decide +kernel
theorem dc_La_law_287 : decode code 287 = .ok (.iaload, 1) := by decide +kernel
theorem dc_La_law_288 : decode code 288 = .ok (.invokevirtual 40, 3) := by decide +kernel
theorem dc_La_law_291 : decode code 291 = .ok (.if_icmp .eq 386, 3) := by decide +kernel
theorem dc_La_law_294 : decode code 294 = .ok (.iconst 0, 1) := by decide +kernel
theorem dc_La_law_295 : decode code 295 = .ok (.ireturn, 1) := by decide +kernel
theorem dc_La_law_296 : decode code 296 = .ok (.aload_n 1, 1) := by decide +kernel
theorem dc_La_law_297 : decode code 297 = .ok (.aload_n 0, 1) := by decide +kernel
theorem dc_La_law_298 : decode code 298 = .ok (.iload_n 3, 1) := by decide +kernel
theorem dc_La_law_299 : decode code 299 = .ok (.iconst 1, 1) := by decide +kernel
theorem dc_La_law_300 : decode code 300 = .ok (.iadd, 1) := by decide +kernel
theorem dc_La_law_301 : decode code 301 = .ok (.iaload, 1) := by decide +kernel
theorem dc_La_law_302 : decode code 302 = .ok (.aload_n 0, 1) := by decide +kernel
theorem dc_La_law_303 : decode code 303 = .ok (.iload_n 3, 1) := by decide +kernel
theorem dc_La_law_304 : decode code 304 = .ok (.iconst 2, 1) := by decide +kernel
theorem dc_La_law_305 : decode code 305 = .ok (.iadd, 1) := by decide +kernel
theorem dc_La_law_306 : decode code 306 = .ok (.iaload, 1) := by decide +kernel
theorem dc_La_law_307 : decode code 307 = .ok (.invokevirtual 41, 3) := by decide +kernel
theorem dc_La_law_310 : decode code 310 = .ok (.aload_n 2, 1) := by decide +kernel
theorem dc_La_law_311 : decode code 311 = .ok (.aload_n 0, 1) := by decide +kernel
theorem dc_La_law_312 : decode code 312 = .ok (.iload_n 3, 1) := by decide +kernel
theorem dc_La_law_313 : decode code 313 = .ok (.iconst 1, 1) := by decide +kernel
theorem dc_La_law_314 : decode code 314 = .ok (.iadd, 1) := by decide +kernel
theorem dc_La_law_315 : decode code 315 = .ok (.iaload, 1) := by decide +kernel
theorem dc_La_law_316 : decode code 316 = .ok (.aload_n 0, 1) := by decide +kernel
theorem dc_La_law_317 : decode code 317 = .ok (.iload_n 3, 1) := by decide +kernel
theorem dc_La_law_318 : decode code 318 = .ok (.iconst 2, 1) := by decide +kernel
theorem dc_La_law_319 : decode code 319 = .ok (.iadd, 1) := by decide +kernel
theorem dc_La_law_320 : decode code 320 = .ok (.iaload, 1) := by decide +kernel
theorem dc_La_law_321 : decode code 321 = .ok (.invokevirtual 44, 3) := by decide +kernel
theorem dc_La_law_324 : decode code 324 = .ok (.if_icmp .eq 353, 3) := by decide +kernel
theorem dc_La_law_327 : decode code 327 = .ok (.iconst 0, 1) := by decide +kernel
theorem dc_La_law_328 : decode code 328 = .ok (.ireturn, 1) := by decide +kernel
theorem dc_La_law_329 : decode code 329 = .ok (.aload_n 1, 1) := by decide +kernel
theorem dc_La_law_330 : decode code 330 = .ok (.aload_n 0, 1) := by decide +kernel
theorem dc_La_law_331 : decode code 331 = .ok (.iload_n 3, 1) := by decide +kernel
theorem dc_La_law_332 : decode code 332 = .ok (.iconst 1, 1) := by decide +kernel
theorem dc_La_law_333 : decode code 333 = .ok (.iadd, 1) := by decide +kernel
theorem dc_La_law_334 : decode code 334 = .ok (.iaload, 1) := by decide +kernel
theorem dc_La_law_335 : decode code 335 = .ok (.aload_n 0, 1) := by decide +kernel
theorem dc_La_law_336 : decode code 336 = .ok (.iload_n 3, 1) := by decide +kernel
theorem dc_La_law_337 : decode code 337 = .ok (.iconst 2, 1) := by decide +kernel
theorem dc_La_law_338 : decode code 338 = .ok (.iadd, 1) := by decide +kernel
theorem dc_La_law_339 : decode code 339 = .ok (.iaload, 1) := by decide +kernel
theorem dc_La_law_340 : decode code 340 = .ok (.ifCond .eq 7, 3) := by decide +kernel
theorem dc_La_law_343 : decode code 343 = .ok (.iconst 1, 1) := by decide +kernel
theorem dc_La_law_344 : decode code 344 = .ok (.goto 4, 3) := by decide +kernel
theorem dc_La_law_347 : decode code 347 = .ok (.iconst 0, 1) := by decide +kernel
theorem dc_La_law_348 : decode code 348 = .ok (.aload_n 0, 1) := by decide +kernel
theorem dc_La_law_349 : decode code 349 = .ok (.iload_n 3, 1) := by decide +kernel
theorem dc_La_law_350 : decode code 350 = .ok (.iconst 3, 1) := by decide +kernel
theorem dc_La_law_351 : decode code 351 = .ok (.iadd, 1) := by decide +kernel
theorem dc_La_law_352 : decode code 352 = .ok (.iaload, 1) := by decide +kernel
theorem dc_La_law_353 : decode code 353 = .ok (.ifCond .eq 7, 3) := by decide +kernel
theorem dc_La_law_356 : decode code 356 = .ok (.iconst 1, 1) := by decide +kernel
theorem dc_La_law_357 : decode code 357 = .ok (.goto 4, 3) := by decide +kernel
theorem dc_La_law_360 : decode code 360 = .ok (.iconst 0, 1) := by decide +kernel
theorem dc_La_law_361 : decode code 361 = .ok (.invokevirtual 45, 3) := by decide +kernel
theorem dc_La_law_364 : decode code 364 = .ok (.aload_n 2, 1) := by decide +kernel
theorem dc_La_law_365 : decode code 365 = .ok (.aload_n 0, 1) := by decide +kernel
theorem dc_La_law_366 : decode code 366 = .ok (.iload_n 3, 1) := by decide +kernel
theorem dc_La_law_367 : decode code 367 = .ok (.iconst 1, 1) := by decide +kernel
theorem dc_La_law_368 : decode code 368 = .ok (.iadd, 1) := by decide +kernel
theorem dc_La_law_369 : decode code 369 = .ok (.iaload, 1) := by decide +kernel
theorem dc_La_law_370 : decode code 370 = .ok (.aload_n 0, 1) := by decide +kernel
theorem dc_La_law_371 : decode code 371 = .ok (.iload_n 3, 1) := by decide +kernel
theorem dc_La_law_372 : decode code 372 = .ok (.iconst 2, 1) := by decide +kernel
theorem dc_La_law_373 : decode code 373 = .ok (.iadd, 1) := by decide +kernel
theorem dc_La_law_374 : decode code 374 = .ok (.iaload, 1) := by decide +kernel
theorem dc_La_law_375 : decode code 375 = .ok (.ifCond .eq 7, 3) := by decide +kernel
theorem dc_La_law_378 : decode code 378 = .ok (.iconst 1, 1) := by decide +kernel
theorem dc_La_law_379 : decode code 379 = .ok (.goto 4, 3) := by decide +kernel
theorem dc_La_law_382 : decode code 382 = .ok (.iconst 0, 1) := by decide +kernel
theorem dc_La_law_383 : decode code 383 = .ok (.aload_n 0, 1) := by decide +kernel
theorem dc_La_law_384 : decode code 384 = .ok (.iload_n 3, 1) := by decide +kernel
theorem dc_La_law_385 : decode code 385 = .ok (.iconst 3, 1) := by decide +kernel
theorem dc_La_law_386 : decode code 386 = .ok (.iadd, 1) := by decide +kernel
theorem dc_La_law_387 : decode code 387 = .ok (.iaload, 1) := by decide +kernel
theorem dc_La_law_388 : decode code 388 = .ok (.ifCond .eq 7, 3) := by decide +kernel
theorem dc_La_law_391 : decode code 391 = .ok (.iconst 1, 1) := by decide +kernel
theorem dc_La_law_392 : decode code 392 = .ok (.goto 4, 3) := by decide +kernel
theorem dc_La_law_395 : decode code 395 = .ok (.iconst 0, 1) := by decide +kernel
theorem dc_La_law_396 : decode code 396 = .ok (.invokevirtual 49, 3) := by decide +kernel
theorem dc_La_law_399 : decode code 399 = .ok (.if_icmp .eq 278, 3) := by decide +kernel
theorem dc_La_law_402 : decode code 402 = .ok (.iconst 0, 1) := by decide +kernel
theorem dc_La_law_403 : decode code 403 = .ok (.ireturn, 1) := by decide +kernel
theorem dc_La_law_404 : decode code 404 = .ok (.aload_n 1, 1) := by decide +kernel
theorem dc_La_law_405 : decode code 405 = .ok (.aload_n 0, 1) := by decide +kernel
theorem dc_La_law_406 : decode code 406 = .ok (.iload_n 3, 1) := by decide +kernel
theorem dc_La_law_407 : decode code 407 = .ok (.iconst 1, 1) := by decide +kernel
theorem dc_La_law_408 : decode code 408 = .ok (.iadd, 1) := by decide +kernel
theorem dc_La_law_409 : decode code 409 = .ok (.iaload, 1) := by decide +kernel
theorem dc_La_law_410 : decode code 410 = .ok (.aload_n 0, 1) := by decide +kernel
theorem dc_La_law_411 : decode code 411 = .ok (.iload_n 3, 1) := by decide +kernel
theorem dc_La_law_412 : decode code 412 = .ok (.iconst 2, 1) := by decide +kernel
theorem dc_La_law_413 : decode code 413 = .ok (.iadd, 1) := by decide +kernel
theorem dc_La_law_414 : decode code 414 = .ok (.iaload, 1) := by decide +kernel
theorem dc_La_law_415 : decode code 415 = .ok (.invokevirtual 50, 3) := by decide +kernel
theorem dc_La_law_418 : decode code 418 = .ok (.aload_n 2, 1) := by decide +kernel
theorem dc_La_law_419 : decode code 419 = .ok (.aload_n 0, 1) := by decide +kernel
theorem dc_La_law_420 : decode code 420 = .ok (.iload_n 3, 1) := by decide +kernel
theorem dc_La_law_421 : decode code 421 = .ok (.iconst 1, 1) := by decide +kernel
theorem dc_La_law_422 : decode code 422 = .ok (.iadd, 1) := by decide +kernel
theorem dc_La_law_423 : decode code 423 = .ok (.iaload, 1) := by decide +kernel
theorem dc_La_law_424 : decode code 424 = .ok (.aload_n 0, 1) := by decide +kernel
theorem dc_La_law_425 : decode code 425 = .ok (.iload_n 3, 1) := by decide +kernel
theorem dc_La_law_426 : decode code 426 = .ok (.iconst 2, 1) := by decide +kernel
theorem dc_La_law_427 : decode code 427 = .ok (.iadd, 1) := by decide +kernel
theorem dc_La_law_428 : decode code 428 = .ok (.iaload, 1) := by decide +kernel
theorem dc_La_law_429 : decode code 429 = .ok (.invokevirtual 54, 3) := by decide +kernel
theorem dc_La_law_432 : decode code 432 = .ok (.if_icmp .eq 245, 3) := by decide +kernel
theorem dc_La_law_435 : decode code 435 = .ok (.iconst 0, 1) := by decide +kernel
theorem dc_La_law_436 : decode code 436 = .ok (.ireturn, 1) := by decide +kernel
theorem dc_La_law_437 : decode code 437 = .ok (.aload_n 1, 1) := by decide +kernel
theorem dc_La_law_438 : decode code 438 = .ok (.invokevirtual 55, 3) := by decide +kernel
theorem dc_La_law_441 : decode code 441 = .ok (.aload_n 2, 1) := by decide +kernel
theorem dc_La_law_442 : decode code 442 = .ok (.invokevirtual 59, 3) := by decide +kernel
theorem dc_La_law_445 : decode code 445 = .ok (.if_icmp .eq 232, 3) := by decide +kernel
theorem dc_La_law_448 : decode code 448 = .ok (.iconst 0, 1) := by decide +kernel
theorem dc_La_law_449 : decode code 449 = .ok (.ireturn, 1) := by decide +kernel
theorem dc_La_law_450 : decode code 450 = .ok (.aload_n 1, 1) := by decide +kernel
theorem dc_La_law_451 : decode code 451 = .ok (.invokevirtual 60, 3) := by decide +kernel
theorem dc_La_law_454 : decode code 454 = .ok (.aload_n 2, 1) := by decide +kernel
theorem dc_La_law_455 : decode code 455 = .ok (.invokevirtual 63, 3) := by decide +kernel
theorem dc_La_law_458 : decode code 458 = .ok (.if_icmp .eq 219, 3) := by decide +kernel
theorem dc_La_law_461 : decode code 461 = .ok (.iconst 0, 1) := by decide +kernel
theorem dc_La_law_462 : decode code 462 = .ok (.ireturn, 1) := by decide +kernel
theorem dc_La_law_463 : decode code 463 = .ok (.aload_n 1, 1) := by decide +kernel
theorem dc_La_law_464 : decode code 464 = .ok (.aload_n 0, 1) := by decide +kernel
theorem dc_La_law_465 : decode code 465 = .ok (.iload_n 3, 1) := by decide +kernel
theorem dc_La_law_466 : decode code 466 = .ok (.iconst 1, 1) := by decide +kernel
theorem dc_La_law_467 : decode code 467 = .ok (.iadd, 1) := by decide +kernel
theorem dc_La_law_468 : decode code 468 = .ok (.iaload, 1) := by decide +kernel
theorem dc_La_law_469 : decode code 469 = .ok (.aload_n 0, 1) := by decide +kernel
theorem dc_La_law_470 : decode code 470 = .ok (.iload_n 3, 1) := by decide +kernel
theorem dc_La_law_471 : decode code 471 = .ok (.iconst 2, 1) := by decide +kernel
theorem dc_La_law_472 : decode code 472 = .ok (.iadd, 1) := by decide +kernel
theorem dc_La_law_473 : decode code 473 = .ok (.iaload, 1) := by decide +kernel
theorem dc_La_law_474 : decode code 474 = .ok (.invokevirtual 64, 3) := by decide +kernel
theorem dc_La_law_477 : decode code 477 = .ok (.aload_n 2, 1) := by decide +kernel
theorem dc_La_law_478 : decode code 478 = .ok (.aload_n 0, 1) := by decide +kernel
theorem dc_La_law_479 : decode code 479 = .ok (.iload_n 3, 1) := by decide +kernel
theorem dc_La_law_480 : decode code 480 = .ok (.iconst 1, 1) := by decide +kernel
theorem dc_La_law_481 : decode code 481 = .ok (.iadd, 1) := by decide +kernel
theorem dc_La_law_482 : decode code 482 = .ok (.iaload, 1) := by decide +kernel
theorem dc_La_law_483 : decode code 483 = .ok (.aload_n 0, 1) := by decide +kernel
theorem dc_La_law_484 : decode code 484 = .ok (.iload_n 3, 1) := by decide +kernel
theorem dc_La_law_485 : decode code 485 = .ok (.iconst 2, 1) := by decide +kernel
theorem dc_La_law_486 : decode code 486 = .ok (.iadd, 1) := by decide +kernel
theorem dc_La_law_487 : decode code 487 = .ok (.iaload, 1) := by decide +kernel
theorem dc_La_law_488 : decode code 488 = .ok (.invokevirtual 67, 3) := by decide +kernel
theorem dc_La_law_491 : decode code 491 = .ok (.if_icmp .eq 186, 3) := by decide +kernel
theorem dc_La_law_494 : decode code 494 = .ok (.iconst 0, 1) := by decide +kernel
theorem dc_La_law_495 : decode code 495 = .ok (.ireturn, 1) := by decide +kernel
theorem dc_La_law_496 : decode code 496 = .ok (.aload_n 1, 1) := by decide +kernel
theorem dc_La_law_497 : decode code 497 = .ok (.invokevirtual 68, 3) := by decide +kernel
theorem dc_La_law_500 : decode code 500 = .ok (.aload_n 2, 1) := by decide +kernel
theorem dc_La_law_501 : decode code 501 = .ok (.invokevirtual 71, 3) := by decide +kernel
theorem dc_La_law_504 : decode code 504 = .ok (.if_icmp .eq 173, 3) := by decide +kernel
theorem dc_La_law_507 : decode code 507 = .ok (.iconst 0, 1) := by decide +kernel
theorem dc_La_law_508 : decode code 508 = .ok (.ireturn, 1) := by decide +kernel
theorem dc_La_law_509 : decode code 509 = .ok (.aload_n 1, 1) := by decide +kernel
theorem dc_La_law_510 : decode code 510 = .ok (.aload_n 0, 1) := by decide +kernel
theorem dc_La_law_511 : decode code 511 = .ok (.iload_n 3, 1) := by decide +kernel
theorem dc_La_law_512 : decode code 512 = .ok (.iconst 1, 1) := by decide +kernel
theorem dc_La_law_513 : decode code 513 = .ok (.iadd, 1) := by decide +kernel
theorem dc_La_law_514 : decode code 514 = .ok (.iaload, 1) := by decide +kernel
theorem dc_La_law_515 : decode code 515 = .ok (.invokevirtual 72, 3) := by decide +kernel
theorem dc_La_law_518 : decode code 518 = .ok (.aload_n 2, 1) := by decide +kernel
theorem dc_La_law_519 : decode code 519 = .ok (.aload_n 0, 1) := by decide +kernel
theorem dc_La_law_520 : decode code 520 = .ok (.iload_n 3, 1) := by decide +kernel
theorem dc_La_law_521 : decode code 521 = .ok (.iconst 1, 1) := by decide +kernel
theorem dc_La_law_522 : decode code 522 = .ok (.iadd, 1) := by decide +kernel
theorem dc_La_law_523 : decode code 523 = .ok (.iaload, 1) := by decide +kernel
theorem dc_La_law_524 : decode code 524 = .ok (.invokevirtual 76, 3) := by decide +kernel
theorem dc_La_law_527 : decode code 527 = .ok (.if_icmp .eq 150, 3) := by decide +kernel
theorem dc_La_law_530 : decode code 530 = .ok (.iconst 0, 1) := by decide +kernel
theorem dc_La_law_531 : decode code 531 = .ok (.ireturn, 1) := by decide +kernel
theorem dc_La_law_532 : decode code 532 = .ok (.aload_n 1, 1) := by decide +kernel
theorem dc_La_law_533 : decode code 533 = .ok (.aload_n 0, 1) := by decide +kernel
theorem dc_La_law_534 : decode code 534 = .ok (.iload_n 3, 1) := by decide +kernel
theorem dc_La_law_535 : decode code 535 = .ok (.iconst 1, 1) := by decide +kernel
theorem dc_La_law_536 : decode code 536 = .ok (.iadd, 1) := by decide +kernel
theorem dc_La_law_537 : decode code 537 = .ok (.iaload, 1) := by decide +kernel
theorem dc_La_law_538 : decode code 538 = .ok (.invokevirtual 77, 3) := by decide +kernel
theorem dc_La_law_541 : decode code 541 = .ok (.aload_n 2, 1) := by decide +kernel
theorem dc_La_law_542 : decode code 542 = .ok (.aload_n 0, 1) := by decide +kernel
theorem dc_La_law_543 : decode code 543 = .ok (.iload_n 3, 1) := by decide +kernel
theorem dc_La_law_544 : decode code 544 = .ok (.iconst 1, 1) := by decide +kernel
theorem dc_La_law_545 : decode code 545 = .ok (.iadd, 1) := by decide +kernel
theorem dc_La_law_546 : decode code 546 = .ok (.iaload, 1) := by decide +kernel
theorem dc_La_law_547 : decode code 547 = .ok (.invokevirtual 80, 3) := by decide +kernel
theorem dc_La_law_550 : decode code 550 = .ok (.if_icmp .eq 127, 3) := by decide +kernel
theorem dc_La_law_553 : decode code 553 = .ok (.iconst 0, 1) := by decide +kernel
theorem dc_La_law_554 : decode code 554 = .ok (.ireturn, 1) := by decide +kernel
theorem dc_La_law_555 : decode code 555 = .ok (.aload_n 1, 1) := by decide +kernel
theorem dc_La_law_556 : decode code 556 = .ok (.aload_n 0, 1) := by decide +kernel
theorem dc_La_law_557 : decode code 557 = .ok (.iload_n 3, 1) := by decide +kernel
theorem dc_La_law_558 : decode code 558 = .ok (.iconst 1, 1) := by decide +kernel
theorem dc_La_law_559 : decode code 559 = .ok (.iadd, 1) := by decide +kernel
theorem dc_La_law_560 : decode code 560 = .ok (.iaload, 1) := by decide +kernel
theorem dc_La_law_561 : decode code 561 = .ok (.ifCond .eq 7, 3) := by decide +kernel
theorem dc_La_law_564 : decode code 564 = .ok (.iconst 1, 1) := by decide +kernel
theorem dc_La_law_565 : decode code 565 = .ok (.goto 4, 3) := by decide +kernel
theorem dc_La_law_568 : decode code 568 = .ok (.iconst 0, 1) := by decide +kernel
theorem dc_La_law_569 : decode code 569 = .ok (.invokevirtual 81, 3) := by decide +kernel
theorem dc_La_law_572 : decode code 572 = .ok (.aload_n 2, 1) := by decide +kernel
theorem dc_La_law_573 : decode code 573 = .ok (.aload_n 0, 1) := by decide +kernel
theorem dc_La_law_574 : decode code 574 = .ok (.iload_n 3, 1) := by decide +kernel
theorem dc_La_law_575 : decode code 575 = .ok (.iconst 1, 1) := by decide +kernel
theorem dc_La_law_576 : decode code 576 = .ok (.iadd, 1) := by decide +kernel
theorem dc_La_law_577 : decode code 577 = .ok (.iaload, 1) := by decide +kernel
theorem dc_La_law_578 : decode code 578 = .ok (.ifCond .eq 7, 3) := by decide +kernel
theorem dc_La_law_581 : decode code 581 = .ok (.iconst 1, 1) := by decide +kernel
theorem dc_La_law_582 : decode code 582 = .ok (.goto 4, 3) := by decide +kernel
theorem dc_La_law_585 : decode code 585 = .ok (.iconst 0, 1) := by decide +kernel
theorem dc_La_law_586 : decode code 586 = .ok (.invokevirtual 85, 3) := by decide +kernel
theorem dc_La_law_589 : decode code 589 = .ok (.if_icmp .eq 88, 3) := by decide +kernel
theorem dc_La_law_592 : decode code 592 = .ok (.iconst 0, 1) := by decide +kernel
theorem dc_La_law_593 : decode code 593 = .ok (.ireturn, 1) := by decide +kernel
theorem dc_La_law_594 : decode code 594 = .ok (.aload_n 1, 1) := by decide +kernel
theorem dc_La_law_595 : decode code 595 = .ok (.invokevirtual 86, 3) := by decide +kernel
theorem dc_La_law_598 : decode code 598 = .ok (.aload_n 2, 1) := by decide +kernel
theorem dc_La_law_599 : decode code 599 = .ok (.invokevirtual 90, 3) := by decide +kernel
theorem dc_La_law_602 : decode code 602 = .ok (.if_icmp .eq 75, 3) := by decide +kernel
theorem dc_La_law_605 : decode code 605 = .ok (.iconst 0, 1) := by decide +kernel
theorem dc_La_law_606 : decode code 606 = .ok (.ireturn, 1) := by decide +kernel
theorem dc_La_law_607 : decode code 607 = .ok (.aload_n 1, 1) := by decide +kernel
theorem dc_La_law_608 : decode code 608 = .ok (.aload_n 0, 1) := by decide +kernel
theorem dc_La_law_609 : decode code 609 = .ok (.iload_n 3, 1) := by decide +kernel
theorem dc_La_law_610 : decode code 610 = .ok (.iconst 1, 1) := by decide +kernel
theorem dc_La_law_611 : decode code 611 = .ok (.iadd, 1) := by decide +kernel
theorem dc_La_law_612 : decode code 612 = .ok (.iaload, 1) := by decide +kernel
theorem dc_La_law_613 : decode code 613 = .ok (.invokevirtual 91, 3) := by decide +kernel
theorem dc_La_law_616 : decode code 616 = .ok (.aload_n 2, 1) := by decide +kernel
theorem dc_La_law_617 : decode code 617 = .ok (.aload_n 0, 1) := by decide +kernel
theorem dc_La_law_618 : decode code 618 = .ok (.iload_n 3, 1) := by decide +kernel
theorem dc_La_law_619 : decode code 619 = .ok (.iconst 1, 1) := by decide +kernel
theorem dc_La_law_620 : decode code 620 = .ok (.iadd, 1) := by decide +kernel
theorem dc_La_law_621 : decode code 621 = .ok (.iaload, 1) := by decide +kernel
theorem dc_La_law_622 : decode code 622 = .ok (.invokevirtual 94, 3) := by decide +kernel
theorem dc_La_law_625 : decode code 625 = .ok (.if_icmp .eq 52, 3) := by decide +kernel
theorem dc_La_law_628 : decode code 628 = .ok (.iconst 0, 1) := by decide +kernel
theorem dc_La_law_629 : decode code 629 = .ok (.ireturn, 1) := by decide +kernel
theorem dc_La_law_630 : decode code 630 = .ok (.aload_n 1, 1) := by decide +kernel
theorem dc_La_law_631 : decode code 631 = .ok (.aload_n 0, 1) := by decide +kernel
theorem dc_La_law_632 : decode code 632 = .ok (.iload_n 3, 1) := by decide +kernel
theorem dc_La_law_633 : decode code 633 = .ok (.iconst 1, 1) := by decide +kernel
theorem dc_La_law_634 : decode code 634 = .ok (.iadd, 1) := by decide +kernel
theorem dc_La_law_635 : decode code 635 = .ok (.iaload, 1) := by decide +kernel
theorem dc_La_law_636 : decode code 636 = .ok (.invokevirtual 95, 3) := by decide +kernel
theorem dc_La_law_639 : decode code 639 = .ok (.aload_n 2, 1) := by decide +kernel
theorem dc_La_law_640 : decode code 640 = .ok (.aload_n 0, 1) := by decide +kernel
theorem dc_La_law_641 : decode code 641 = .ok (.iload_n 3, 1) := by decide +kernel
theorem dc_La_law_642 : decode code 642 = .ok (.iconst 1, 1) := by decide +kernel
theorem dc_La_law_643 : decode code 643 = .ok (.iadd, 1) := by decide +kernel
theorem dc_La_law_644 : decode code 644 = .ok (.iaload, 1) := by decide +kernel
theorem dc_La_law_645 : decode code 645 = .ok (.invokevirtual 98, 3) := by decide +kernel
theorem dc_La_law_648 : decode code 648 = .ok (.if_icmp .eq 29, 3) := by decide +kernel
theorem dc_La_law_651 : decode code 651 = .ok (.iconst 0, 1) := by decide +kernel
theorem dc_La_law_652 : decode code 652 = .ok (.ireturn, 1) := by decide +kernel
theorem dc_La_law_653 : decode code 653 = .ok (.aload_n 1, 1) := by decide +kernel
theorem dc_La_law_654 : decode code 654 = .ok (.aload_n 0, 1) := by decide +kernel
theorem dc_La_law_655 : decode code 655 = .ok (.iload_n 3, 1) := by decide +kernel
theorem dc_La_law_656 : decode code 656 = .ok (.iconst 1, 1) := by decide +kernel
theorem dc_La_law_657 : decode code 657 = .ok (.iadd, 1) := by decide +kernel
theorem dc_La_law_658 : decode code 658 = .ok (.iaload, 1) := by decide +kernel
theorem dc_La_law_659 : decode code 659 = .ok (.invokevirtual 99, 3) := by decide +kernel
theorem dc_La_law_662 : decode code 662 = .ok (.aload_n 2, 1) := by decide +kernel
theorem dc_La_law_663 : decode code 663 = .ok (.aload_n 0, 1) := by decide +kernel
theorem dc_La_law_664 : decode code 664 = .ok (.iload_n 3, 1) := by decide +kernel
theorem dc_La_law_665 : decode code 665 = .ok (.iconst 1, 1) := by decide +kernel
theorem dc_La_law_666 : decode code 666 = .ok (.iadd, 1) := by decide +kernel
theorem dc_La_law_667 : decode code 667 = .ok (.iaload, 1) := by decide +kernel
theorem dc_La_law_668 : decode code 668 = .ok (.invokevirtual 103, 3) := by decide +kernel
theorem dc_La_law_671 : decode code 671 = .ok (.lcmp, 1) := by decide +kernel
theorem dc_La_law_672 : decode code 672 = .ok (.ifCond .eq 5, 3) := by decide +kernel
theorem dc_La_law_675 : decode code 675 = .ok (.iconst 0, 1) := by decide +kernel
theorem dc_La_law_676 : decode code 676 = .ok (.ireturn, 1) := by decide +kernel
theorem dc_La_law_677 : decode code 677 = .ok (.iinc 3 6, 3) := by decide +kernel
theorem dc_La_law_680 : decode code 680 = .ok (.goto (-652), 3) := by decide +kernel
theorem dc_La_law_683 : decode code 683 = .ok (.iconst 1, 1) := by decide +kernel
theorem dc_La_law_684 : decode code 684 = .ok (.ireturn, 1) := by decide +kernel
set_option maxHeartbeats 40000000 in
set_option maxRecDepth 100000 in
theorem la_law {pg : Program} {ev : Env} {s : State} {mt : MethodId} {below : List Frame} {meth : Method} {cd : Code} (l : Launch) {b L : Nat} {xs : Nat → Int32} (hL : L ≤ 3073) (C0 : lw_At pg s mt meth cd b L xs) : W pg l ev room_1 s mt #[Value.ref b] below meth cd s.heap [] 0 0 (lw_Z below #[Value.ref b] s) (entryFrame mt ([Value.ref b] : List Value).toArray 4) := by
  obtain ⟨hex, hcb, hret, hml, hown, hts, hX, hbl, hlk, hgv⟩ := C0
  have hTB : ∀ w ∈ fq_TB, w.before #[Value.ref b] s = true := fun w h => hts w (List.mem_filter.mp h).1
  obtain ⟨D, cI, cO, hK⟩ := la_K hts hgv
  obtain ⟨tE, hZ⟩ := la_Z hts hgv
  have K : fq_Ctx pg mt cd code 4 s #[Value.ref b] cn_La := ⟨hex, hcb, hml, hown, hTB⟩
  have hA : ∀ q, s.heap.size ≤ q → (fun q => s.heap.size ≤ q) q := fun q h => h
  have hbA : ¬ (fun q => s.heap.size ≤ q) b := Nat.not_le.mpr hbl
  have hL31 : L < 2 ^ 31 := by omega
  have hP : va_P D fq_cl [] s.heap := fun k q h => by cases h
  have hD : va_D (fun q => s.heap.size ≤ q) [] := ⟨fun i j p q h => (by cases h), fun k q h => (by cases h)⟩
  have hS : va_S (fun q => s.heap.size ≤ q) s.heap s.heap [] := va_S.rf
  have hFA : ∀ q, (fun q => s.heap.size ≤ q) q → s.heap.size ≤ q := fun q h => h
  generalize hAe : (fun q => s.heap.size ≤ q) = A at hZ hA hbA hD hS hFA
  have hl := lv_entry [Value.ref b] (n := 4) (Nat.le_of_ble_eq_true rfl)
  rw [lg_entry_eq]
  generalize (lg_sl [Value.ref b] ++ List.replicate (4 - (lg_sl [Value.ref b]).length) Slot.unset).toArray = ls at hl ⊢
  have hl : lv_has ls 4 [(0, .ref b)] := hl
  refine fq_new (fs := [.null, .null, .null, .null, .null, .int 0, .int 0, .int 0]) K hK cl_FP wd_48 wd_49 wd_26 hP hD hS hA (by decide) (Nat.le_of_ble_eq_true rfl) (Nat.le_of_ble_eq_true rfl) dc_La_law_0 (fun q1 H hP hD hS => ?_)
  have hP : va_P D fq_cl ([(q1, .inr (10, [.null, .null, .null, .null, .null, .int 0, .int 0, .int 0]))]) _ := hP
  have hD : va_D A ([(q1, .inr (10, [.null, .null, .null, .null, .null, .int 0, .int 0, .int 0]))]) := hD
  refine lv_dup K.1 K.2.1 dc_La_law_3 rfl ?_
  refine lv_aload_n K.1 K.2.1 dc_La_law_4 rfl (lv_at hl 0 rfl) ?_
  refine lv_iconst (v := 0) K.1 K.2.1 dc_La_law_5 (by decide) ?_
  have hcw := fq_cutR (wc := []) (wr := [(q1, .inr (10, [.null, .null, .null, .null, .null, .int 0, .int 0, .int 0]))]) (List.Perm.refl _) hP hD hS hA
  refine fq_ciR (wc := []) (wr := [(q1, .inr (10, [.null, .null, .null, .null, .null, .int 0, .int 0, .int 0]))]) (fq_rX K hK hZ hS hA hX hbl hbA hL31 wd_761 ⟨Nat.le_of_ble_eq_true rfl, Nat.le_of_ble_eq_true rfl⟩ ⟨Nat.le_of_ble_eq_true rfl, Nat.le_of_ble_eq_true rfl⟩ hl.1 rfl (Nat.le_of_ble_eq_true rfl) dc_La_law_6) hP hD hS hcw (List.Perm.refl _) (fun r1 w H locs hw hP hD hS => ?_)
  obtain ⟨rfl, rfl⟩ := hw
  have hP : va_P D fq_cl ([(q1, .inr (10, [.null, .null, .null, .null, .null, .int 0, .int 0, .int 0]))]) _ := hP
  have hD : va_D A ([(q1, .inr (10, [.null, .null, .null, .null, .null, .int 0, .int 0, .int 0]))]) := hD
  have hcw := fq_cutR (wr := []) fq_nil hP hD hS hA
  refine fq_cvR (fq_rI K hK hZ hS hcw (ct_FP_init l D cI cO tE q1 (la_c L xs) _) yk_FP_init wd_51 rfl wd_50 ⟨⟨rfl, rfl⟩, ⟨Nat.le_of_ble_eq_true rfl, Nat.le_of_ble_eq_true rfl⟩, ⟨Nat.le_of_ble_eq_true rfl, Nat.le_of_ble_eq_true rfl⟩⟩ hl.1 rfl (Nat.le_of_ble_eq_true rfl) dc_La_law_9) hP hD hS hcw fq_nil (fun u1 H locs hw1 hP hD hS => ?_)
  rw [List.append_nil] at hP hD
  have hP : va_P D fq_cl (u1) _ := hP
  have hD : va_D A (u1) := hD
  refine lv_astore_n K.1 K.2.1 dc_La_law_12 rfl hl (by decide) rfl (fun ls hl => ?_)
  have hl : lv_has ls 4 [(1, .ref q1), (0, .ref b)] := hl
  refine fq_new (fs := [.int 0, .int 0, .int 0, .null, .null, .int 0, .int 0, .int 0, .int 0, .null, .int 0, .int 0, .int 0, .int 0, .null, .int 0, .null, .null, .int 0, .int 0, .int 0, .int 0, .int 0]) K hK cl_Mo wd_764 wd_765 wd_36 hP hD hS hA (by decide) (Nat.le_of_ble_eq_true rfl) (Nat.le_of_ble_eq_true rfl) dc_La_law_13 (fun q2 H hP hD hS => ?_)
  have hP : va_P D fq_cl (u1 ++ [(q2, .inr (12, [.int 0, .int 0, .int 0, .null, .null, .int 0, .int 0, .int 0, .int 0, .null, .int 0, .int 0, .int 0, .int 0, .null, .int 0, .null, .null, .int 0, .int 0, .int 0, .int 0, .int 0]))]) _ := hP
  have hD : va_D A (u1 ++ [(q2, .inr (12, [.int 0, .int 0, .int 0, .null, .null, .int 0, .int 0, .int 0, .int 0, .null, .int 0, .int 0, .int 0, .int 0, .null, .int 0, .null, .null, .int 0, .int 0, .int 0, .int 0, .int 0]))]) := hD
  refine lv_dup K.1 K.2.1 dc_La_law_16 rfl ?_
  refine lv_aload_n K.1 K.2.1 dc_La_law_17 rfl (lv_at hl 1 rfl) ?_
  refine lv_iconst (v := 0) K.1 K.2.1 dc_La_law_18 (by decide) ?_
  have hcw := fq_cutR (wc := []) (wr := u1 ++ [(q2, .inr (12, [.int 0, .int 0, .int 0, .null, .null, .int 0, .int 0, .int 0, .int 0, .null, .int 0, .int 0, .int 0, .int 0, .null, .int 0, .null, .null, .int 0, .int 0, .int 0, .int 0, .int 0]))]) (List.Perm.refl _) hP hD hS hA
  refine fq_ciR (wc := []) (wr := u1 ++ [(q2, .inr (12, [.int 0, .int 0, .int 0, .null, .null, .int 0, .int 0, .int 0, .int 0, .null, .int 0, .int 0, .int 0, .int 0, .null, .int 0, .null, .null, .int 0, .int 0, .int 0, .int 0, .int 0]))]) (fq_rX K hK hZ hS hA hX hbl hbA hL31 wd_761 ⟨Nat.le_of_ble_eq_true rfl, Nat.le_of_ble_eq_true rfl⟩ ⟨Nat.le_of_ble_eq_true rfl, Nat.le_of_ble_eq_true rfl⟩ hl.1 rfl (Nat.le_of_ble_eq_true rfl) dc_La_law_19) hP hD hS hcw (List.Perm.refl _) (fun r1 w H locs hw hP hD hS => ?_)
  obtain ⟨rfl, rfl⟩ := hw
  have hP : va_P D fq_cl (u1 ++ [(q2, .inr (12, [.int 0, .int 0, .int 0, .null, .null, .int 0, .int 0, .int 0, .int 0, .null, .int 0, .int 0, .int 0, .int 0, .null, .int 0, .null, .null, .int 0, .int 0, .int 0, .int 0, .int 0]))]) _ := hP
  have hD : va_D A (u1 ++ [(q2, .inr (12, [.int 0, .int 0, .int 0, .null, .null, .int 0, .int 0, .int 0, .int 0, .null, .int 0, .int 0, .int 0, .int 0, .null, .int 0, .null, .null, .int 0, .int 0, .int 0, .int 0, .int 0]))]) := hD
  have hcw := fq_cutR (wc := [(q2, .inr (12, [.int 0, .int 0, .int 0, .null, .null, .int 0, .int 0, .int 0, .int 0, .null, .int 0, .int 0, .int 0, .int 0, .null, .int 0, .null, .null, .int 0, .int 0, .int 0, .int 0, .int 0]))]) (wr := u1) List.perm_append_comm hP hD hS hA
  refine fq_cvR (wr := u1) (fq_rI K hK hZ hS hcw (ct_Mo_init l D cI cO tE q2 (la_c L xs) _) yk_Mo_init wd_767 rfl wd_766 ⟨⟨rfl, rfl⟩, ⟨Nat.le_of_ble_eq_true rfl, Nat.le_of_ble_eq_true rfl⟩, ⟨Nat.le_of_ble_eq_true rfl, Nat.le_of_ble_eq_true rfl⟩⟩ hl.1 rfl (Nat.le_of_ble_eq_true rfl) dc_La_law_22) hP hD hS hcw List.perm_append_comm (fun u2 H locs hw2 hP hD hS => ?_)
  have hP := fq_permP List.perm_append_comm hP
  have hD := fq_permD List.perm_append_comm hD
  have hP : va_P D fq_cl (u1 ++ u2) _ := hP
  have hD : va_D A (u1 ++ u2) := hD
  obtain ⟨S0, hX1, hX2⟩ := la_new (cI := cI) (cO := cO) (tE := tE) (hx := q1) (h := q2) hw1 hw2
  refine lv_astore_n K.1 K.2.1 dc_La_law_25 rfl hl (by decide) rfl (fun ls hl => ?_)
  have hl : lv_has ls 4 [(2, .ref q2), (1, .ref q1), (0, .ref b)] := hl
  refine lv_iconst (v := 1) K.1 K.2.1 dc_La_law_26 (by decide) ?_
  refine lv_istore_n K.1 K.2.1 dc_La_law_27 rfl hl (by decide) rfl (fun ls hl => ?_)
  have hl : lv_has ls 4 [(3, .int 1), (2, .ref q2), (1, .ref q1), (0, .ref b)] := hl
  have hl : lv_has ls 4 [(0, .ref b), (1, .ref q1), (2, .ref q2), (3, .int (nI (1 + 6 * 0)))] := lv_sub hl [3, 2, 1, 0] rfl
  refine W.widen (show _ ≤ 24 from Nat.le_of_ble_eq_true rfl) (show _ ≤ 8088 from Nat.le_of_ble_eq_true rfl) ?_
  refine fq_lpc (σ := Nat × fs_A × va_W × va_W × Nat × Nat) (fun x => L - 6 * x.1) (fun x => x.2.2.2.2.1) (fun x => x.2.2.2.2.2) (fun x H locs ls => (6 * x.1 ≤ 3078 ∧ fp_X cI cO tE q1 x.2.1 x.2.2.1 ∧ mo_X cI q2 x.2.1 x.2.2.2.1 ∧ x.2.2.2.2.1 ≤ 24 + 5 * x.1 ∧ x.2.2.2.2.2 ≤ 8088 + 32 * x.1) ∧ lv_has ls 4 [(0, .ref b), (1, .ref q1), (2, .ref q2), (3, .int (nI (1 + 6 * x.1)))] ∧ va_P D fq_cl (x.2.2.1 ++ x.2.2.2.1) H ∧ va_D A (x.2.2.1 ++ x.2.2.2.1) ∧ va_S A s.heap H locs) ?_ (0, S0, u1, u2, 24, 8088) _ _ _ ⟨⟨(show 6 * 0 ≤ 3078 by decide), hX1, hX2, Nat.le_refl _, Nat.le_refl _⟩, hl, hP, hD, hS⟩
  clear hX1 hX2 hw1 hw2 hP hD hS hl hcw
  rintro ⟨k, S, u1, u2, cN, sN⟩ H locs ls ⟨⟨hk6, hX1, hX2, hcN, hsN⟩, hl, hP, hD, hS⟩ ih28
  have hk6 : 6 * k ≤ 3078 := hk6
  have hcN : cN ≤ 24 + 5 * k := hcN
  have hsN : sN ≤ 8088 + 32 * k := hsN
  have hX1 : fp_X cI cO tE q1 S u1 := hX1
  have hX2 : mo_X cI q2 S u2 := hX2
  show W _ _ _ _ _ _ _ _ _ _ _ _ cN sN _ _
  have hl : lv_has ls 4 [(0, .ref b), (1, .ref q1), (2, .ref q2), (3, .int (nI (1 + 6 * k)))] := hl
  have hP : va_P D fq_cl (u1 ++ u2) _ := hP
  have hD : va_D A (u1 ++ u2) := hD
  refine lv_iload_n K.1 K.2.1 dc_La_law_28 rfl (lv_at hl 3 rfl) ?_
  refine lv_aload_n K.1 K.2.1 dc_La_law_29 rfl (lv_at hl 0 rfl) ?_
  refine va_slen K.1 K.2.1 hX hbl hbA hS dc_La_law_30 ?_
  refine fq_asi (y := nI L) rfl ?_
  refine lv_bipush (v := 6) K.1 K.2.1 dc_La_law_31 (by decide) ?_
  refine lv_isub K.1 K.2.1 dc_La_law_33 ?_
  refine lv_icmp_gt (tgt := 683) K.1 K.2.1 dc_La_law_34 rfl (fun b34 => ?_) (fun b34 => ?_)
  · skip
    refine lv_iconst (v := 1) K.1 K.2.1 dc_La_law_683 (by decide) ?_
    refine va_forget (fun q hq => hFA _ (hS.2.2 q hq)) ?_
    refine W.widen (show cN ≤ 600000 by omega) (show sN ≤ 7302249 by omega) ?_
    exact lw_ret K.1 K.2.1 hret hlk dc_La_law_684
  · skip
    have hkL := la_gt hL hk6 b34
    refine lv_aload_n K.1 K.2.1 dc_La_law_37 rfl (lv_at hl 0 rfl) ?_
    refine lv_iload_n K.1 K.2.1 dc_La_law_38 rfl (lv_at hl 3 rfl) ?_
    refine va_sld K.1 K.2.1 hX hbl hbA hS (vp_in_nI (show 1 + 6 * k < L by omega) hL31) dc_La_law_39 ?_
    refine fq_asi (y := xs (1 + 6 * k)) (by rw [nI_clamp (show 1 + 6 * k < 2 ^ 31 by omega)]) ?_
    refine lv_bipush (v := 31) K.1 K.2.1 dc_La_law_40 (by decide) ?_
    refine lv_iand K.1 K.2.1 dc_La_law_42 ?_
    refine lv_topi (fun v1 e_v1 => ?_)
    by_cases c43_0 : v1 = 0
    · skip
      refine lv_tableIn (off := 85) (tgt := 128) K.1 K.2.1 dc_La_law_43 (by rw [c43_0]; decide) (by rw [c43_0]; decide) (by rw [c43_0]; decide) rfl ?_
      refine lv_aload_n K.1 K.2.1 dc_La_law_128 rfl (lv_at hl 1 rfl) ?_
      refine lv_aload_n K.1 K.2.1 dc_La_law_129 rfl (lv_at hl 0 rfl) ?_
      refine lv_iload_n K.1 K.2.1 dc_La_law_130 rfl (lv_at hl 3 rfl) ?_
      refine lv_iconst (v := 1) K.1 K.2.1 dc_La_law_131 (by decide) ?_
      refine lv_iadd K.1 K.2.1 dc_La_law_132 ?_
      refine fq_asi (y := nI (1 + 6 * k + 1)) (nI_add (1 + 6 * k) 1) ?_
      refine va_sld K.1 K.2.1 hX hbl hbA hS (vp_in_nI (show 1 + 6 * k + 1 < L by omega) hL31) dc_La_law_133 ?_
      refine fq_asi (y := xs (1 + 6 * k + 1)) (by rw [nI_clamp (show 1 + 6 * k + 1 < 2 ^ 31 by omega)]) ?_
      refine lv_aload_n K.1 K.2.1 dc_La_law_134 rfl (lv_at hl 0 rfl) ?_
      refine lv_iload_n K.1 K.2.1 dc_La_law_135 rfl (lv_at hl 3 rfl) ?_
      refine lv_iconst (v := 2) K.1 K.2.1 dc_La_law_136 (by decide) ?_
      refine lv_iadd K.1 K.2.1 dc_La_law_137 ?_
      refine fq_asi (y := nI (1 + 6 * k + 2)) (nI_add (1 + 6 * k) 2) ?_
      refine va_sld K.1 K.2.1 hX hbl hbA hS (vp_in_nI (show 1 + 6 * k + 2 < L by omega) hL31) dc_La_law_138 ?_
      refine fq_asi (y := xs (1 + 6 * k + 2)) (by rw [nI_clamp (show 1 + 6 * k + 2 < 2 ^ 31 by omega)]) ?_
      refine lv_aload_n K.1 K.2.1 dc_La_law_139 rfl (lv_at hl 0 rfl) ?_
      refine lv_iload_n K.1 K.2.1 dc_La_law_140 rfl (lv_at hl 3 rfl) ?_
      refine lv_iconst (v := 3) K.1 K.2.1 dc_La_law_141 (by decide) ?_
      refine lv_iadd K.1 K.2.1 dc_La_law_142 ?_
      refine fq_asi (y := nI (1 + 6 * k + 3)) (nI_add (1 + 6 * k) 3) ?_
      refine va_sld K.1 K.2.1 hX hbl hbA hS (vp_in_nI (show 1 + 6 * k + 3 < L by omega) hL31) dc_La_law_143 ?_
      refine fq_asi (y := xs (1 + 6 * k + 3)) (by rw [nI_clamp (show 1 + 6 * k + 3 < 2 ^ 31 by omega)]) ?_
      refine lv_aload_n K.1 K.2.1 dc_La_law_144 rfl (lv_at hl 0 rfl) ?_
      refine lv_iload_n K.1 K.2.1 dc_La_law_145 rfl (lv_at hl 3 rfl) ?_
      refine lv_iconst (v := 4) K.1 K.2.1 dc_La_law_146 (by decide) ?_
      refine lv_iadd K.1 K.2.1 dc_La_law_147 ?_
      refine fq_asi (y := nI (1 + 6 * k + 4)) (nI_add (1 + 6 * k) 4) ?_
      refine va_sld K.1 K.2.1 hX hbl hbA hS (vp_in_nI (show 1 + 6 * k + 4 < L by omega) hL31) dc_La_law_148 ?_
      refine fq_asi (y := xs (1 + 6 * k + 4)) (by rw [nI_clamp (show 1 + 6 * k + 4 < 2 ^ 31 by omega)]) ?_
      refine lv_aload_n K.1 K.2.1 dc_La_law_149 rfl (lv_at hl 0 rfl) ?_
      refine lv_iload_n K.1 K.2.1 dc_La_law_150 rfl (lv_at hl 3 rfl) ?_
      refine lv_iconst (v := 5) K.1 K.2.1 dc_La_law_151 (by decide) ?_
      refine lv_iadd K.1 K.2.1 dc_La_law_152 ?_
      refine fq_asi (y := nI (1 + 6 * k + 5)) (nI_add (1 + 6 * k) 5) ?_
      refine va_sld K.1 K.2.1 hX hbl hbA hS (vp_in_nI (show 1 + 6 * k + 5 < L by omega) hL31) dc_La_law_153 ?_
      refine fq_asi (y := xs (1 + 6 * k + 5)) (by rw [nI_clamp (show 1 + 6 * k + 5 < 2 ^ 31 by omega)]) ?_
      obtain ⟨aK, aN, aB, aS, aL, aX, us, md, gi, su, sd, fK, fN, fB, fS, fL, fX, X, rfl, hsd, hI, hR⟩ := hX2
      obtain ⟨Lh0, Lr0, Lk0, eh, er, ek, hfp⟩ := hX1
      obtain ⟨fs0, hfs0⟩ := fp_rv hfp
      have hcw := fq_cutR (wc := u1) (wr := [(q2, .inr (12, [.int (nI S.rm), .int (fq_b sd), .int (nI S.sts.length), .ref aK, .ref aN, .int (nI S.iw), .int (nI S.ow), .int (fq_b S.ih), .int (fq_b S.oh), .ref aB, .int (nI S.ca), .int (nI us), .int (fq_b S.cl), .int (fq_b S.fl), .ref aS, .int (nI X.length), .ref aL, .ref aX, .int (nI md), .int (nI gi), .int (nI su), .int (nI S.ps), .int (nI S.cs)])), (aK, .inl (cI, 5, .inl fK)), (aN, .inl (cI, 25, .inl fN)), (aB, .inl (cI, 120, .inl fB)), (aS, .inl (cI, 120, .inl fS)), (aL, .inl (cI, 2300, .inl fL)), (aX, .inl (cI, 2300, .inl fX))]) (List.Perm.refl _) hP hD hS hA
      refine fq_ciR (wc := u1) (wr := [(q2, .inr (12, [.int (nI S.rm), .int (fq_b sd), .int (nI S.sts.length), .ref aK, .ref aN, .int (nI S.iw), .int (nI S.ow), .int (fq_b S.ih), .int (fq_b S.oh), .ref aB, .int (nI S.ca), .int (nI us), .int (fq_b S.cl), .int (fq_b S.fl), .ref aS, .int (nI X.length), .ref aL, .ref aX, .int (nI md), .int (nI gi), .int (nI su), .int (nI S.ps), .int (nI S.cs)])), (aK, .inl (cI, 5, .inl fK)), (aN, .inl (cI, 25, .inl fN)), (aB, .inl (cI, 120, .inl fB)), (aS, .inl (cI, 120, .inl fS)), (aL, .inl (cI, 2300, .inl fL)), (aX, .inl (cI, 2300, .inl fX))]) (fq_rV K hK hZ hS hcw (ct_FP_section l D cI cO tE q1 S.sts S.rs S.fl S.ps S.cs S.ca S.cl S.iw S.ih S.Lb Lh0 Lr0 S.rm S.ow S.oh Lk0 u1 hfp (xs (1 + 6 * k + 1)) (xs (1 + 6 * k + 2)) (xs (1 + 6 * k + 3)) (xs (1 + 6 * k + 4)) (xs (1 + 6 * k + 5)) _) yk_FP_section wd_207 wd_208 wd_206 0 hfs0 rfl rfl ⟨⟨rfl, rfl⟩, ⟨Nat.le_of_ble_eq_true rfl, Nat.le_of_ble_eq_true rfl⟩, ⟨show cN + 2 ≤ 600000 by omega, show sN + 20 ≤ 7302249 by omega⟩⟩ hl.1 rfl (Nat.le_of_ble_eq_true rfl) dc_La_law_154) hP hD hS hcw (List.Perm.refl _) (fun r1 v1 H locs hw1 hP hD hS => ?_)
      have hP : va_P D fq_cl (v1 ++ [(q2, .inr (12, [.int (nI S.rm), .int (fq_b sd), .int (nI S.sts.length), .ref aK, .ref aN, .int (nI S.iw), .int (nI S.ow), .int (fq_b S.ih), .int (fq_b S.oh), .ref aB, .int (nI S.ca), .int (nI us), .int (fq_b S.cl), .int (fq_b S.fl), .ref aS, .int (nI X.length), .ref aL, .ref aX, .int (nI md), .int (nI gi), .int (nI su), .int (nI S.ps), .int (nI S.cs)])), (aK, .inl (cI, 5, .inl fK)), (aN, .inl (cI, 25, .inl fN)), (aB, .inl (cI, 120, .inl fB)), (aS, .inl (cI, 120, .inl fS)), (aL, .inl (cI, 2300, .inl fL)), (aX, .inl (cI, 2300, .inl fX))]) _ := hP
      have hD : va_D A (v1 ++ [(q2, .inr (12, [.int (nI S.rm), .int (fq_b sd), .int (nI S.sts.length), .ref aK, .ref aN, .int (nI S.iw), .int (nI S.ow), .int (fq_b S.ih), .int (fq_b S.oh), .ref aB, .int (nI S.ca), .int (nI us), .int (fq_b S.cl), .int (fq_b S.fl), .ref aS, .int (nI X.length), .ref aL, .ref aX, .int (nI md), .int (nI gi), .int (nI su), .int (nI S.ps), .int (nI S.cs)])), (aK, .inl (cI, 5, .inl fK)), (aN, .inl (cI, 25, .inl fN)), (aB, .inl (cI, 120, .inl fB)), (aS, .inl (cI, 120, .inl fS)), (aL, .inl (cI, 2300, .inl fL)), (aX, .inl (cI, 2300, .inl fX))]) := hD
      refine lv_aload_n K.1 K.2.1 dc_La_law_157 rfl (lv_at hl 2 rfl) ?_
      refine lv_aload_n K.1 K.2.1 dc_La_law_158 rfl (lv_at hl 0 rfl) ?_
      refine lv_iload_n K.1 K.2.1 dc_La_law_159 rfl (lv_at hl 3 rfl) ?_
      refine lv_iconst (v := 1) K.1 K.2.1 dc_La_law_160 (by decide) ?_
      refine lv_iadd K.1 K.2.1 dc_La_law_161 ?_
      refine fq_asi (y := nI (1 + 6 * k + 1)) (nI_add (1 + 6 * k) 1) ?_
      refine va_sld K.1 K.2.1 hX hbl hbA hS (vp_in_nI (show 1 + 6 * k + 1 < L by omega) hL31) dc_La_law_162 ?_
      refine fq_asi (y := xs (1 + 6 * k + 1)) (by rw [nI_clamp (show 1 + 6 * k + 1 < 2 ^ 31 by omega)]) ?_
      refine lv_aload_n K.1 K.2.1 dc_La_law_163 rfl (lv_at hl 0 rfl) ?_
      refine lv_iload_n K.1 K.2.1 dc_La_law_164 rfl (lv_at hl 3 rfl) ?_
      refine lv_iconst (v := 2) K.1 K.2.1 dc_La_law_165 (by decide) ?_
      refine lv_iadd K.1 K.2.1 dc_La_law_166 ?_
      refine fq_asi (y := nI (1 + 6 * k + 2)) (nI_add (1 + 6 * k) 2) ?_
      refine va_sld K.1 K.2.1 hX hbl hbA hS (vp_in_nI (show 1 + 6 * k + 2 < L by omega) hL31) dc_La_law_167 ?_
      refine fq_asi (y := xs (1 + 6 * k + 2)) (by rw [nI_clamp (show 1 + 6 * k + 2 < 2 ^ 31 by omega)]) ?_
      refine lv_aload_n K.1 K.2.1 dc_La_law_168 rfl (lv_at hl 0 rfl) ?_
      refine lv_iload_n K.1 K.2.1 dc_La_law_169 rfl (lv_at hl 3 rfl) ?_
      refine lv_iconst (v := 3) K.1 K.2.1 dc_La_law_170 (by decide) ?_
      refine lv_iadd K.1 K.2.1 dc_La_law_171 ?_
      refine fq_asi (y := nI (1 + 6 * k + 3)) (nI_add (1 + 6 * k) 3) ?_
      refine va_sld K.1 K.2.1 hX hbl hbA hS (vp_in_nI (show 1 + 6 * k + 3 < L by omega) hL31) dc_La_law_172 ?_
      refine fq_asi (y := xs (1 + 6 * k + 3)) (by rw [nI_clamp (show 1 + 6 * k + 3 < 2 ^ 31 by omega)]) ?_
      refine lv_aload_n K.1 K.2.1 dc_La_law_173 rfl (lv_at hl 0 rfl) ?_
      refine lv_iload_n K.1 K.2.1 dc_La_law_174 rfl (lv_at hl 3 rfl) ?_
      refine lv_iconst (v := 4) K.1 K.2.1 dc_La_law_175 (by decide) ?_
      refine lv_iadd K.1 K.2.1 dc_La_law_176 ?_
      refine fq_asi (y := nI (1 + 6 * k + 4)) (nI_add (1 + 6 * k) 4) ?_
      refine va_sld K.1 K.2.1 hX hbl hbA hS (vp_in_nI (show 1 + 6 * k + 4 < L by omega) hL31) dc_La_law_177 ?_
      refine fq_asi (y := xs (1 + 6 * k + 4)) (by rw [nI_clamp (show 1 + 6 * k + 4 < 2 ^ 31 by omega)]) ?_
      refine lv_aload_n K.1 K.2.1 dc_La_law_178 rfl (lv_at hl 0 rfl) ?_
      refine lv_iload_n K.1 K.2.1 dc_La_law_179 rfl (lv_at hl 3 rfl) ?_
      refine lv_iconst (v := 5) K.1 K.2.1 dc_La_law_180 (by decide) ?_
      refine lv_iadd K.1 K.2.1 dc_La_law_181 ?_
      refine fq_asi (y := nI (1 + 6 * k + 5)) (nI_add (1 + 6 * k) 5) ?_
      refine va_sld K.1 K.2.1 hX hbl hbA hS (vp_in_nI (show 1 + 6 * k + 5 < L by omega) hL31) dc_La_law_182 ?_
      refine fq_asi (y := xs (1 + 6 * k + 5)) (by rw [nI_clamp (show 1 + 6 * k + 5 < 2 ^ 31 by omega)]) ?_
      have hcw := fq_cutR (wc := [(q2, .inr (12, [.int (nI S.rm), .int (fq_b sd), .int (nI S.sts.length), .ref aK, .ref aN, .int (nI S.iw), .int (nI S.ow), .int (fq_b S.ih), .int (fq_b S.oh), .ref aB, .int (nI S.ca), .int (nI us), .int (fq_b S.cl), .int (fq_b S.fl), .ref aS, .int (nI X.length), .ref aL, .ref aX, .int (nI md), .int (nI gi), .int (nI su), .int (nI S.ps), .int (nI S.cs)])), (aK, .inl (cI, 5, .inl fK)), (aN, .inl (cI, 25, .inl fN)), (aB, .inl (cI, 120, .inl fB)), (aS, .inl (cI, 120, .inl fS)), (aL, .inl (cI, 2300, .inl fL)), (aX, .inl (cI, 2300, .inl fX))]) (wr := v1) List.perm_append_comm hP hD hS hA
      refine fq_ciR (wc := [(q2, .inr (12, [.int (nI S.rm), .int (fq_b sd), .int (nI S.sts.length), .ref aK, .ref aN, .int (nI S.iw), .int (nI S.ow), .int (fq_b S.ih), .int (fq_b S.oh), .ref aB, .int (nI S.ca), .int (nI us), .int (fq_b S.cl), .int (fq_b S.fl), .ref aS, .int (nI X.length), .ref aL, .ref aX, .int (nI md), .int (nI gi), .int (nI su), .int (nI S.ps), .int (nI S.cs)])), (aK, .inl (cI, 5, .inl fK)), (aN, .inl (cI, 25, .inl fN)), (aB, .inl (cI, 120, .inl fB)), (aS, .inl (cI, 120, .inl fS)), (aL, .inl (cI, 2300, .inl fL)), (aX, .inl (cI, 2300, .inl fX))]) (wr := v1) (fq_rV K hK hZ hS hcw (ct_Mo_section l D cI cO tE q2 aK aN aB aS aL aX S.rm sd S.sts.length S.iw S.ow S.ih S.oh S.ca us S.cl S.fl X.length md gi su S.ps S.cs fK fN fB fS fL fX (xs (1 + 6 * k + 1)) (xs (1 + 6 * k + 2)) (xs (1 + 6 * k + 3)) (xs (1 + 6 * k + 4)) (xs (1 + 6 * k + 5)) hI.1.2.2.2.2.2 _) yk_Mo_section wd_841 wd_842 wd_840 0 rfl rfl rfl ⟨⟨rfl, rfl⟩, ⟨Nat.le_of_ble_eq_true rfl, Nat.le_of_ble_eq_true rfl⟩, ⟨show cN + 2 + 0 ≤ 600000 by omega, show sN + 20 + 0 ≤ 7302249 by omega⟩⟩ hl.1 rfl (Nat.le_of_ble_eq_true rfl) dc_La_law_183) hP hD hS hcw List.perm_append_comm (fun r2 v2 H locs hw2 hP hD hS => ?_)
      have hP := fq_permP List.perm_append_comm hP
      have hD := fq_permD List.perm_append_comm hD
      obtain ⟨hrr, T, hT1, hT2⟩ := la_section eh er ek hfp hsd hI hR hw1 hw2
      have hP : va_P D fq_cl (v1 ++ v2) _ := hP
      have hD : va_D A (v1 ++ v2) := hD
      refine lv_icmp_eq (tgt := 677) K.1 K.2.1 dc_La_law_186 rfl (fun b186 => ?_) (fun b186 => absurd hrr b186)
      refine lv_iinc (v := nI (1 + 6 * (k + 1))) K.1 K.2.1 dc_La_law_677 hl (k := 3) rfl (by rw [show 1 + 6 * (k + 1) = (1 + 6 * k) + 6 by omega]; exact nI_add (1 + 6 * k) 6) (by decide) rfl (fun ls hl => ?_)
      have hl : lv_has ls 4 [(3, .int (nI (1 + 6 * (k + 1)))), (0, .ref b), (1, .ref q1), (2, .ref q2)] := hl
      refine lv_goto (tgt := 28) K.1 K.2.1 dc_La_law_680 rfl ?_
      exact ih28 (k + 1, T, v1, v2, cN + 2 + 0, sN + 20 + 0) _ _ _ (by show L - 6 * (k + 1) < L - 6 * k; omega) ⟨⟨by show 6 * (k + 1) ≤ 3078; omega, hT1, hT2, by show cN + 2 + 0 ≤ 24 + 5 * (k + 1); omega, by show sN + 20 + 0 ≤ 8088 + 32 * (k + 1); omega⟩, lv_sub hl [1, 2, 3, 0] rfl, hP, hD, hS⟩
    by_cases c43_1 : v1 = 1
    · skip
      refine lv_tableIn (off := 148) (tgt := 191) K.1 K.2.1 dc_La_law_43 (by rw [c43_1]; decide) (by rw [c43_1]; decide) (by rw [c43_1]; decide) rfl ?_
      refine lv_aload_n K.1 K.2.1 dc_La_law_191 rfl (lv_at hl 1 rfl) ?_
      refine lv_aload_n K.1 K.2.1 dc_La_law_192 rfl (lv_at hl 0 rfl) ?_
      refine lv_iload_n K.1 K.2.1 dc_La_law_193 rfl (lv_at hl 3 rfl) ?_
      refine lv_iconst (v := 1) K.1 K.2.1 dc_La_law_194 (by decide) ?_
      refine lv_iadd K.1 K.2.1 dc_La_law_195 ?_
      refine fq_asi (y := nI (1 + 6 * k + 1)) (nI_add (1 + 6 * k) 1) ?_
      refine va_sld K.1 K.2.1 hX hbl hbA hS (vp_in_nI (show 1 + 6 * k + 1 < L by omega) hL31) dc_La_law_196 ?_
      refine fq_asi (y := xs (1 + 6 * k + 1)) (by rw [nI_clamp (show 1 + 6 * k + 1 < 2 ^ 31 by omega)]) ?_
      refine lv_aload_n K.1 K.2.1 dc_La_law_197 rfl (lv_at hl 0 rfl) ?_
      refine lv_iload_n K.1 K.2.1 dc_La_law_198 rfl (lv_at hl 3 rfl) ?_
      refine lv_iconst (v := 2) K.1 K.2.1 dc_La_law_199 (by decide) ?_
      refine lv_iadd K.1 K.2.1 dc_La_law_200 ?_
      refine fq_asi (y := nI (1 + 6 * k + 2)) (nI_add (1 + 6 * k) 2) ?_
      refine va_sld K.1 K.2.1 hX hbl hbA hS (vp_in_nI (show 1 + 6 * k + 2 < L by omega) hL31) dc_La_law_201 ?_
      refine fq_asi (y := xs (1 + 6 * k + 2)) (by rw [nI_clamp (show 1 + 6 * k + 2 < 2 ^ 31 by omega)]) ?_
      refine lv_if_eq (tgt := 209) K.1 K.2.1 dc_La_law_202 rfl (fun b202 => ?_) (fun b202 => ?_)
      · skip
        refine lv_iconst (v := 0) K.1 K.2.1 dc_La_law_209 (by decide) ?_
        refine fq_asi (y := fq_b false) rfl ?_
        obtain ⟨aK, aN, aB, aS, aL, aX, us, md, gi, su, sd, fK, fN, fB, fS, fL, fX, X, rfl, hsd, hI, hR⟩ := hX2
        obtain ⟨Lh0, Lr0, Lk0, eh, er, ek, hfp⟩ := hX1
        obtain ⟨fs0, hfs0⟩ := fp_rv hfp
        have hcw := fq_cutR (wc := u1) (wr := [(q2, .inr (12, [.int (nI S.rm), .int (fq_b sd), .int (nI S.sts.length), .ref aK, .ref aN, .int (nI S.iw), .int (nI S.ow), .int (fq_b S.ih), .int (fq_b S.oh), .ref aB, .int (nI S.ca), .int (nI us), .int (fq_b S.cl), .int (fq_b S.fl), .ref aS, .int (nI X.length), .ref aL, .ref aX, .int (nI md), .int (nI gi), .int (nI su), .int (nI S.ps), .int (nI S.cs)])), (aK, .inl (cI, 5, .inl fK)), (aN, .inl (cI, 25, .inl fN)), (aB, .inl (cI, 120, .inl fB)), (aS, .inl (cI, 120, .inl fS)), (aL, .inl (cI, 2300, .inl fL)), (aX, .inl (cI, 2300, .inl fX))]) (List.Perm.refl _) hP hD hS hA
        refine fq_ciR (wc := u1) (wr := [(q2, .inr (12, [.int (nI S.rm), .int (fq_b sd), .int (nI S.sts.length), .ref aK, .ref aN, .int (nI S.iw), .int (nI S.ow), .int (fq_b S.ih), .int (fq_b S.oh), .ref aB, .int (nI S.ca), .int (nI us), .int (fq_b S.cl), .int (fq_b S.fl), .ref aS, .int (nI X.length), .ref aL, .ref aX, .int (nI md), .int (nI gi), .int (nI su), .int (nI S.ps), .int (nI S.cs)])), (aK, .inl (cI, 5, .inl fK)), (aN, .inl (cI, 25, .inl fN)), (aB, .inl (cI, 120, .inl fB)), (aS, .inl (cI, 120, .inl fS)), (aL, .inl (cI, 2300, .inl fL)), (aX, .inl (cI, 2300, .inl fX))]) (fq_rV K hK hZ hS hcw (ct_FP_halfPower l D cI cO tE q1 S.sts S.rs S.fl S.ps S.cs S.ca S.cl S.iw S.ih S.Lb Lh0 Lr0 S.rm S.ow S.oh Lk0 u1 hfp (xs (1 + 6 * k + 1)) false _) yk_FP_halfPower wd_333 wd_334 wd_332 0 hfs0 rfl rfl ⟨⟨rfl, rfl⟩, ⟨Nat.le_of_ble_eq_true rfl, Nat.le_of_ble_eq_true rfl⟩, ⟨show cN + 2 ≤ 600000 by omega, show sN + 20 ≤ 7302249 by omega⟩⟩ hl.1 rfl (Nat.le_of_ble_eq_true rfl) dc_La_law_210) hP hD hS hcw (List.Perm.refl _) (fun r1 v1 H locs hw1 hP hD hS => ?_)
        have hP : va_P D fq_cl (v1 ++ [(q2, .inr (12, [.int (nI S.rm), .int (fq_b sd), .int (nI S.sts.length), .ref aK, .ref aN, .int (nI S.iw), .int (nI S.ow), .int (fq_b S.ih), .int (fq_b S.oh), .ref aB, .int (nI S.ca), .int (nI us), .int (fq_b S.cl), .int (fq_b S.fl), .ref aS, .int (nI X.length), .ref aL, .ref aX, .int (nI md), .int (nI gi), .int (nI su), .int (nI S.ps), .int (nI S.cs)])), (aK, .inl (cI, 5, .inl fK)), (aN, .inl (cI, 25, .inl fN)), (aB, .inl (cI, 120, .inl fB)), (aS, .inl (cI, 120, .inl fS)), (aL, .inl (cI, 2300, .inl fL)), (aX, .inl (cI, 2300, .inl fX))]) _ := hP
        have hD : va_D A (v1 ++ [(q2, .inr (12, [.int (nI S.rm), .int (fq_b sd), .int (nI S.sts.length), .ref aK, .ref aN, .int (nI S.iw), .int (nI S.ow), .int (fq_b S.ih), .int (fq_b S.oh), .ref aB, .int (nI S.ca), .int (nI us), .int (fq_b S.cl), .int (fq_b S.fl), .ref aS, .int (nI X.length), .ref aL, .ref aX, .int (nI md), .int (nI gi), .int (nI su), .int (nI S.ps), .int (nI S.cs)])), (aK, .inl (cI, 5, .inl fK)), (aN, .inl (cI, 25, .inl fN)), (aB, .inl (cI, 120, .inl fB)), (aS, .inl (cI, 120, .inl fS)), (aL, .inl (cI, 2300, .inl fL)), (aX, .inl (cI, 2300, .inl fX))]) := hD
        refine lv_aload_n K.1 K.2.1 dc_La_law_213 rfl (lv_at hl 2 rfl) ?_
        refine lv_aload_n K.1 K.2.1 dc_La_law_214 rfl (lv_at hl 0 rfl) ?_
        refine lv_iload_n K.1 K.2.1 dc_La_law_215 rfl (lv_at hl 3 rfl) ?_
        refine lv_iconst (v := 1) K.1 K.2.1 dc_La_law_216 (by decide) ?_
        refine lv_iadd K.1 K.2.1 dc_La_law_217 ?_
        refine fq_asi (y := nI (1 + 6 * k + 1)) (nI_add (1 + 6 * k) 1) ?_
        refine va_sld K.1 K.2.1 hX hbl hbA hS (vp_in_nI (show 1 + 6 * k + 1 < L by omega) hL31) dc_La_law_218 ?_
        refine fq_asi (y := xs (1 + 6 * k + 1)) (by rw [nI_clamp (show 1 + 6 * k + 1 < 2 ^ 31 by omega)]) ?_
        refine lv_aload_n K.1 K.2.1 dc_La_law_219 rfl (lv_at hl 0 rfl) ?_
        refine lv_iload_n K.1 K.2.1 dc_La_law_220 rfl (lv_at hl 3 rfl) ?_
        refine lv_iconst (v := 2) K.1 K.2.1 dc_La_law_221 (by decide) ?_
        refine lv_iadd K.1 K.2.1 dc_La_law_222 ?_
        refine fq_asi (y := nI (1 + 6 * k + 2)) (nI_add (1 + 6 * k) 2) ?_
        refine va_sld K.1 K.2.1 hX hbl hbA hS (vp_in_nI (show 1 + 6 * k + 2 < L by omega) hL31) dc_La_law_223 ?_
        refine fq_asi (y := xs (1 + 6 * k + 2)) (by rw [nI_clamp (show 1 + 6 * k + 2 < 2 ^ 31 by omega)]) ?_
        refine lv_if_eq (tgt := 231) K.1 K.2.1 dc_La_law_224 rfl (fun b224 => ?_) (fun b224 => absurd b202 b224)
        refine lv_iconst (v := 0) K.1 K.2.1 dc_La_law_231 (by decide) ?_
        refine fq_asi (y := fq_b false) rfl ?_
        have hcw := fq_cutR (wc := [(q2, .inr (12, [.int (nI S.rm), .int (fq_b sd), .int (nI S.sts.length), .ref aK, .ref aN, .int (nI S.iw), .int (nI S.ow), .int (fq_b S.ih), .int (fq_b S.oh), .ref aB, .int (nI S.ca), .int (nI us), .int (fq_b S.cl), .int (fq_b S.fl), .ref aS, .int (nI X.length), .ref aL, .ref aX, .int (nI md), .int (nI gi), .int (nI su), .int (nI S.ps), .int (nI S.cs)])), (aK, .inl (cI, 5, .inl fK)), (aN, .inl (cI, 25, .inl fN)), (aB, .inl (cI, 120, .inl fB)), (aS, .inl (cI, 120, .inl fS)), (aL, .inl (cI, 2300, .inl fL)), (aX, .inl (cI, 2300, .inl fX))]) (wr := v1) List.perm_append_comm hP hD hS hA
        refine fq_ciR (wc := [(q2, .inr (12, [.int (nI S.rm), .int (fq_b sd), .int (nI S.sts.length), .ref aK, .ref aN, .int (nI S.iw), .int (nI S.ow), .int (fq_b S.ih), .int (fq_b S.oh), .ref aB, .int (nI S.ca), .int (nI us), .int (fq_b S.cl), .int (fq_b S.fl), .ref aS, .int (nI X.length), .ref aL, .ref aX, .int (nI md), .int (nI gi), .int (nI su), .int (nI S.ps), .int (nI S.cs)])), (aK, .inl (cI, 5, .inl fK)), (aN, .inl (cI, 25, .inl fN)), (aB, .inl (cI, 120, .inl fB)), (aS, .inl (cI, 120, .inl fS)), (aL, .inl (cI, 2300, .inl fL)), (aX, .inl (cI, 2300, .inl fX))]) (wr := v1) (fq_rV K hK hZ hS hcw (ct_Mo_halfPower l D cI cO tE q2 aK aN aB aS aL aX S.rm sd S.sts.length S.iw S.ow S.ih S.oh S.ca us S.cl S.fl X.length md gi su S.ps S.cs fK fN fB fS fL fX (xs (1 + 6 * k + 1)) false hI.1.2.2.2.2.2 _) yk_Mo_halfPower wd_856 wd_857 wd_855 0 rfl rfl rfl ⟨⟨rfl, rfl⟩, ⟨Nat.le_of_ble_eq_true rfl, Nat.le_of_ble_eq_true rfl⟩, ⟨show cN + 2 + 0 ≤ 600000 by omega, show sN + 20 + 0 ≤ 7302249 by omega⟩⟩ hl.1 rfl (Nat.le_of_ble_eq_true rfl) dc_La_law_232) hP hD hS hcw List.perm_append_comm (fun r2 v2 H locs hw2 hP hD hS => ?_)
        have hP := fq_permP List.perm_append_comm hP
        have hD := fq_permD List.perm_append_comm hD
        obtain ⟨hrr, T, hT1, hT2⟩ := la_halfPower eh er ek hfp hsd hI hR hw1 hw2
        have hP : va_P D fq_cl (v1 ++ v2) _ := hP
        have hD : va_D A (v1 ++ v2) := hD
        refine lv_icmp_eq (tgt := 677) K.1 K.2.1 dc_La_law_235 rfl (fun b235 => ?_) (fun b235 => absurd hrr b235)
        refine lv_iinc (v := nI (1 + 6 * (k + 1))) K.1 K.2.1 dc_La_law_677 hl (k := 3) rfl (by rw [show 1 + 6 * (k + 1) = (1 + 6 * k) + 6 by omega]; exact nI_add (1 + 6 * k) 6) (by decide) rfl (fun ls hl => ?_)
        have hl : lv_has ls 4 [(3, .int (nI (1 + 6 * (k + 1)))), (0, .ref b), (1, .ref q1), (2, .ref q2)] := hl
        refine lv_goto (tgt := 28) K.1 K.2.1 dc_La_law_680 rfl ?_
        exact ih28 (k + 1, T, v1, v2, cN + 2 + 0, sN + 20 + 0) _ _ _ (by show L - 6 * (k + 1) < L - 6 * k; omega) ⟨⟨by show 6 * (k + 1) ≤ 3078; omega, hT1, hT2, by show cN + 2 + 0 ≤ 24 + 5 * (k + 1); omega, by show sN + 20 + 0 ≤ 8088 + 32 * (k + 1); omega⟩, lv_sub hl [1, 2, 3, 0] rfl, hP, hD, hS⟩
      · skip
        refine lv_iconst (v := 1) K.1 K.2.1 dc_La_law_205 (by decide) ?_
        refine fq_asi (y := fq_b true) rfl ?_
        refine lv_goto (tgt := 210) K.1 K.2.1 dc_La_law_206 rfl ?_
        obtain ⟨aK, aN, aB, aS, aL, aX, us, md, gi, su, sd, fK, fN, fB, fS, fL, fX, X, rfl, hsd, hI, hR⟩ := hX2
        obtain ⟨Lh0, Lr0, Lk0, eh, er, ek, hfp⟩ := hX1
        obtain ⟨fs0, hfs0⟩ := fp_rv hfp
        have hcw := fq_cutR (wc := u1) (wr := [(q2, .inr (12, [.int (nI S.rm), .int (fq_b sd), .int (nI S.sts.length), .ref aK, .ref aN, .int (nI S.iw), .int (nI S.ow), .int (fq_b S.ih), .int (fq_b S.oh), .ref aB, .int (nI S.ca), .int (nI us), .int (fq_b S.cl), .int (fq_b S.fl), .ref aS, .int (nI X.length), .ref aL, .ref aX, .int (nI md), .int (nI gi), .int (nI su), .int (nI S.ps), .int (nI S.cs)])), (aK, .inl (cI, 5, .inl fK)), (aN, .inl (cI, 25, .inl fN)), (aB, .inl (cI, 120, .inl fB)), (aS, .inl (cI, 120, .inl fS)), (aL, .inl (cI, 2300, .inl fL)), (aX, .inl (cI, 2300, .inl fX))]) (List.Perm.refl _) hP hD hS hA
        refine fq_ciR (wc := u1) (wr := [(q2, .inr (12, [.int (nI S.rm), .int (fq_b sd), .int (nI S.sts.length), .ref aK, .ref aN, .int (nI S.iw), .int (nI S.ow), .int (fq_b S.ih), .int (fq_b S.oh), .ref aB, .int (nI S.ca), .int (nI us), .int (fq_b S.cl), .int (fq_b S.fl), .ref aS, .int (nI X.length), .ref aL, .ref aX, .int (nI md), .int (nI gi), .int (nI su), .int (nI S.ps), .int (nI S.cs)])), (aK, .inl (cI, 5, .inl fK)), (aN, .inl (cI, 25, .inl fN)), (aB, .inl (cI, 120, .inl fB)), (aS, .inl (cI, 120, .inl fS)), (aL, .inl (cI, 2300, .inl fL)), (aX, .inl (cI, 2300, .inl fX))]) (fq_rV K hK hZ hS hcw (ct_FP_halfPower l D cI cO tE q1 S.sts S.rs S.fl S.ps S.cs S.ca S.cl S.iw S.ih S.Lb Lh0 Lr0 S.rm S.ow S.oh Lk0 u1 hfp (xs (1 + 6 * k + 1)) true _) yk_FP_halfPower wd_333 wd_334 wd_332 0 hfs0 rfl rfl ⟨⟨rfl, rfl⟩, ⟨Nat.le_of_ble_eq_true rfl, Nat.le_of_ble_eq_true rfl⟩, ⟨show cN + 2 ≤ 600000 by omega, show sN + 20 ≤ 7302249 by omega⟩⟩ hl.1 rfl (Nat.le_of_ble_eq_true rfl) dc_La_law_210) hP hD hS hcw (List.Perm.refl _) (fun r1 v1 H locs hw1 hP hD hS => ?_)
        have hP : va_P D fq_cl (v1 ++ [(q2, .inr (12, [.int (nI S.rm), .int (fq_b sd), .int (nI S.sts.length), .ref aK, .ref aN, .int (nI S.iw), .int (nI S.ow), .int (fq_b S.ih), .int (fq_b S.oh), .ref aB, .int (nI S.ca), .int (nI us), .int (fq_b S.cl), .int (fq_b S.fl), .ref aS, .int (nI X.length), .ref aL, .ref aX, .int (nI md), .int (nI gi), .int (nI su), .int (nI S.ps), .int (nI S.cs)])), (aK, .inl (cI, 5, .inl fK)), (aN, .inl (cI, 25, .inl fN)), (aB, .inl (cI, 120, .inl fB)), (aS, .inl (cI, 120, .inl fS)), (aL, .inl (cI, 2300, .inl fL)), (aX, .inl (cI, 2300, .inl fX))]) _ := hP
        have hD : va_D A (v1 ++ [(q2, .inr (12, [.int (nI S.rm), .int (fq_b sd), .int (nI S.sts.length), .ref aK, .ref aN, .int (nI S.iw), .int (nI S.ow), .int (fq_b S.ih), .int (fq_b S.oh), .ref aB, .int (nI S.ca), .int (nI us), .int (fq_b S.cl), .int (fq_b S.fl), .ref aS, .int (nI X.length), .ref aL, .ref aX, .int (nI md), .int (nI gi), .int (nI su), .int (nI S.ps), .int (nI S.cs)])), (aK, .inl (cI, 5, .inl fK)), (aN, .inl (cI, 25, .inl fN)), (aB, .inl (cI, 120, .inl fB)), (aS, .inl (cI, 120, .inl fS)), (aL, .inl (cI, 2300, .inl fL)), (aX, .inl (cI, 2300, .inl fX))]) := hD
        refine lv_aload_n K.1 K.2.1 dc_La_law_213 rfl (lv_at hl 2 rfl) ?_
        refine lv_aload_n K.1 K.2.1 dc_La_law_214 rfl (lv_at hl 0 rfl) ?_
        refine lv_iload_n K.1 K.2.1 dc_La_law_215 rfl (lv_at hl 3 rfl) ?_
        refine lv_iconst (v := 1) K.1 K.2.1 dc_La_law_216 (by decide) ?_
        refine lv_iadd K.1 K.2.1 dc_La_law_217 ?_
        refine fq_asi (y := nI (1 + 6 * k + 1)) (nI_add (1 + 6 * k) 1) ?_
        refine va_sld K.1 K.2.1 hX hbl hbA hS (vp_in_nI (show 1 + 6 * k + 1 < L by omega) hL31) dc_La_law_218 ?_
        refine fq_asi (y := xs (1 + 6 * k + 1)) (by rw [nI_clamp (show 1 + 6 * k + 1 < 2 ^ 31 by omega)]) ?_
        refine lv_aload_n K.1 K.2.1 dc_La_law_219 rfl (lv_at hl 0 rfl) ?_
        refine lv_iload_n K.1 K.2.1 dc_La_law_220 rfl (lv_at hl 3 rfl) ?_
        refine lv_iconst (v := 2) K.1 K.2.1 dc_La_law_221 (by decide) ?_
        refine lv_iadd K.1 K.2.1 dc_La_law_222 ?_
        refine fq_asi (y := nI (1 + 6 * k + 2)) (nI_add (1 + 6 * k) 2) ?_
        refine va_sld K.1 K.2.1 hX hbl hbA hS (vp_in_nI (show 1 + 6 * k + 2 < L by omega) hL31) dc_La_law_223 ?_
        refine fq_asi (y := xs (1 + 6 * k + 2)) (by rw [nI_clamp (show 1 + 6 * k + 2 < 2 ^ 31 by omega)]) ?_
        refine lv_if_eq (tgt := 231) K.1 K.2.1 dc_La_law_224 rfl (fun b224 => absurd b224 b202) (fun b224 => ?_)
        refine lv_iconst (v := 1) K.1 K.2.1 dc_La_law_227 (by decide) ?_
        refine fq_asi (y := fq_b true) rfl ?_
        refine lv_goto (tgt := 232) K.1 K.2.1 dc_La_law_228 rfl ?_
        have hcw := fq_cutR (wc := [(q2, .inr (12, [.int (nI S.rm), .int (fq_b sd), .int (nI S.sts.length), .ref aK, .ref aN, .int (nI S.iw), .int (nI S.ow), .int (fq_b S.ih), .int (fq_b S.oh), .ref aB, .int (nI S.ca), .int (nI us), .int (fq_b S.cl), .int (fq_b S.fl), .ref aS, .int (nI X.length), .ref aL, .ref aX, .int (nI md), .int (nI gi), .int (nI su), .int (nI S.ps), .int (nI S.cs)])), (aK, .inl (cI, 5, .inl fK)), (aN, .inl (cI, 25, .inl fN)), (aB, .inl (cI, 120, .inl fB)), (aS, .inl (cI, 120, .inl fS)), (aL, .inl (cI, 2300, .inl fL)), (aX, .inl (cI, 2300, .inl fX))]) (wr := v1) List.perm_append_comm hP hD hS hA
        refine fq_ciR (wc := [(q2, .inr (12, [.int (nI S.rm), .int (fq_b sd), .int (nI S.sts.length), .ref aK, .ref aN, .int (nI S.iw), .int (nI S.ow), .int (fq_b S.ih), .int (fq_b S.oh), .ref aB, .int (nI S.ca), .int (nI us), .int (fq_b S.cl), .int (fq_b S.fl), .ref aS, .int (nI X.length), .ref aL, .ref aX, .int (nI md), .int (nI gi), .int (nI su), .int (nI S.ps), .int (nI S.cs)])), (aK, .inl (cI, 5, .inl fK)), (aN, .inl (cI, 25, .inl fN)), (aB, .inl (cI, 120, .inl fB)), (aS, .inl (cI, 120, .inl fS)), (aL, .inl (cI, 2300, .inl fL)), (aX, .inl (cI, 2300, .inl fX))]) (wr := v1) (fq_rV K hK hZ hS hcw (ct_Mo_halfPower l D cI cO tE q2 aK aN aB aS aL aX S.rm sd S.sts.length S.iw S.ow S.ih S.oh S.ca us S.cl S.fl X.length md gi su S.ps S.cs fK fN fB fS fL fX (xs (1 + 6 * k + 1)) true hI.1.2.2.2.2.2 _) yk_Mo_halfPower wd_856 wd_857 wd_855 0 rfl rfl rfl ⟨⟨rfl, rfl⟩, ⟨Nat.le_of_ble_eq_true rfl, Nat.le_of_ble_eq_true rfl⟩, ⟨show cN + 2 + 0 ≤ 600000 by omega, show sN + 20 + 0 ≤ 7302249 by omega⟩⟩ hl.1 rfl (Nat.le_of_ble_eq_true rfl) dc_La_law_232) hP hD hS hcw List.perm_append_comm (fun r2 v2 H locs hw2 hP hD hS => ?_)
        have hP := fq_permP List.perm_append_comm hP
        have hD := fq_permD List.perm_append_comm hD
        obtain ⟨hrr, T, hT1, hT2⟩ := la_halfPower eh er ek hfp hsd hI hR hw1 hw2
        have hP : va_P D fq_cl (v1 ++ v2) _ := hP
        have hD : va_D A (v1 ++ v2) := hD
        refine lv_icmp_eq (tgt := 677) K.1 K.2.1 dc_La_law_235 rfl (fun b235 => ?_) (fun b235 => absurd hrr b235)
        refine lv_iinc (v := nI (1 + 6 * (k + 1))) K.1 K.2.1 dc_La_law_677 hl (k := 3) rfl (by rw [show 1 + 6 * (k + 1) = (1 + 6 * k) + 6 by omega]; exact nI_add (1 + 6 * k) 6) (by decide) rfl (fun ls hl => ?_)
        have hl : lv_has ls 4 [(3, .int (nI (1 + 6 * (k + 1)))), (0, .ref b), (1, .ref q1), (2, .ref q2)] := hl
        refine lv_goto (tgt := 28) K.1 K.2.1 dc_La_law_680 rfl ?_
        exact ih28 (k + 1, T, v1, v2, cN + 2 + 0, sN + 20 + 0) _ _ _ (by show L - 6 * (k + 1) < L - 6 * k; omega) ⟨⟨by show 6 * (k + 1) ≤ 3078; omega, hT1, hT2, by show cN + 2 + 0 ≤ 24 + 5 * (k + 1); omega, by show sN + 20 + 0 ≤ 8088 + 32 * (k + 1); omega⟩, lv_sub hl [1, 2, 3, 0] rfl, hP, hD, hS⟩
    by_cases c43_2 : v1 = 2
    · skip
      refine lv_tableIn (off := 197) (tgt := 240) K.1 K.2.1 dc_La_law_43 (by rw [c43_2]; decide) (by rw [c43_2]; decide) (by rw [c43_2]; decide) rfl ?_
      refine lv_aload_n K.1 K.2.1 dc_La_law_240 rfl (lv_at hl 1 rfl) ?_
      refine lv_aload_n K.1 K.2.1 dc_La_law_241 rfl (lv_at hl 0 rfl) ?_
      refine lv_iload_n K.1 K.2.1 dc_La_law_242 rfl (lv_at hl 3 rfl) ?_
      refine lv_iconst (v := 1) K.1 K.2.1 dc_La_law_243 (by decide) ?_
      refine lv_iadd K.1 K.2.1 dc_La_law_244 ?_
      refine fq_asi (y := nI (1 + 6 * k + 1)) (nI_add (1 + 6 * k) 1) ?_
      refine va_sld K.1 K.2.1 hX hbl hbA hS (vp_in_nI (show 1 + 6 * k + 1 < L by omega) hL31) dc_La_law_245 ?_
      refine fq_asi (y := xs (1 + 6 * k + 1)) (by rw [nI_clamp (show 1 + 6 * k + 1 < 2 ^ 31 by omega)]) ?_
      obtain ⟨aK, aN, aB, aS, aL, aX, us, md, gi, su, sd, fK, fN, fB, fS, fL, fX, X, rfl, hsd, hI, hR⟩ := hX2
      obtain ⟨Lh0, Lr0, Lk0, eh, er, ek, hfp⟩ := hX1
      obtain ⟨fs0, hfs0⟩ := fp_rv hfp
      have hcw := fq_cutR (wc := u1) (wr := [(q2, .inr (12, [.int (nI S.rm), .int (fq_b sd), .int (nI S.sts.length), .ref aK, .ref aN, .int (nI S.iw), .int (nI S.ow), .int (fq_b S.ih), .int (fq_b S.oh), .ref aB, .int (nI S.ca), .int (nI us), .int (fq_b S.cl), .int (fq_b S.fl), .ref aS, .int (nI X.length), .ref aL, .ref aX, .int (nI md), .int (nI gi), .int (nI su), .int (nI S.ps), .int (nI S.cs)])), (aK, .inl (cI, 5, .inl fK)), (aN, .inl (cI, 25, .inl fN)), (aB, .inl (cI, 120, .inl fB)), (aS, .inl (cI, 120, .inl fS)), (aL, .inl (cI, 2300, .inl fL)), (aX, .inl (cI, 2300, .inl fX))]) (List.Perm.refl _) hP hD hS hA
      refine fq_ciR (wc := u1) (wr := [(q2, .inr (12, [.int (nI S.rm), .int (fq_b sd), .int (nI S.sts.length), .ref aK, .ref aN, .int (nI S.iw), .int (nI S.ow), .int (fq_b S.ih), .int (fq_b S.oh), .ref aB, .int (nI S.ca), .int (nI us), .int (fq_b S.cl), .int (fq_b S.fl), .ref aS, .int (nI X.length), .ref aL, .ref aX, .int (nI md), .int (nI gi), .int (nI su), .int (nI S.ps), .int (nI S.cs)])), (aK, .inl (cI, 5, .inl fK)), (aN, .inl (cI, 25, .inl fN)), (aB, .inl (cI, 120, .inl fB)), (aS, .inl (cI, 120, .inl fS)), (aL, .inl (cI, 2300, .inl fL)), (aX, .inl (cI, 2300, .inl fX))]) (fq_rV K hK hZ hS hcw (ct_FP_gain l D cI cO tE q1 S.sts S.rs S.fl S.ps S.cs S.ca S.cl S.iw S.ih S.Lb Lh0 Lr0 S.rm S.ow S.oh Lk0 u1 hfp (xs (1 + 6 * k + 1)) _) yk_FP_gain wd_351 wd_352 wd_350 0 hfs0 rfl rfl ⟨⟨rfl, rfl⟩, ⟨Nat.le_of_ble_eq_true rfl, Nat.le_of_ble_eq_true rfl⟩, ⟨show cN + 2 ≤ 600000 by omega, show sN + 12 ≤ 7302249 by omega⟩⟩ hl.1 rfl (Nat.le_of_ble_eq_true rfl) dc_La_law_246) hP hD hS hcw (List.Perm.refl _) (fun r1 v1 H locs hw1 hP hD hS => ?_)
      have hP : va_P D fq_cl (v1 ++ [(q2, .inr (12, [.int (nI S.rm), .int (fq_b sd), .int (nI S.sts.length), .ref aK, .ref aN, .int (nI S.iw), .int (nI S.ow), .int (fq_b S.ih), .int (fq_b S.oh), .ref aB, .int (nI S.ca), .int (nI us), .int (fq_b S.cl), .int (fq_b S.fl), .ref aS, .int (nI X.length), .ref aL, .ref aX, .int (nI md), .int (nI gi), .int (nI su), .int (nI S.ps), .int (nI S.cs)])), (aK, .inl (cI, 5, .inl fK)), (aN, .inl (cI, 25, .inl fN)), (aB, .inl (cI, 120, .inl fB)), (aS, .inl (cI, 120, .inl fS)), (aL, .inl (cI, 2300, .inl fL)), (aX, .inl (cI, 2300, .inl fX))]) _ := hP
      have hD : va_D A (v1 ++ [(q2, .inr (12, [.int (nI S.rm), .int (fq_b sd), .int (nI S.sts.length), .ref aK, .ref aN, .int (nI S.iw), .int (nI S.ow), .int (fq_b S.ih), .int (fq_b S.oh), .ref aB, .int (nI S.ca), .int (nI us), .int (fq_b S.cl), .int (fq_b S.fl), .ref aS, .int (nI X.length), .ref aL, .ref aX, .int (nI md), .int (nI gi), .int (nI su), .int (nI S.ps), .int (nI S.cs)])), (aK, .inl (cI, 5, .inl fK)), (aN, .inl (cI, 25, .inl fN)), (aB, .inl (cI, 120, .inl fB)), (aS, .inl (cI, 120, .inl fS)), (aL, .inl (cI, 2300, .inl fL)), (aX, .inl (cI, 2300, .inl fX))]) := hD
      refine lv_aload_n K.1 K.2.1 dc_La_law_249 rfl (lv_at hl 2 rfl) ?_
      refine lv_aload_n K.1 K.2.1 dc_La_law_250 rfl (lv_at hl 0 rfl) ?_
      refine lv_iload_n K.1 K.2.1 dc_La_law_251 rfl (lv_at hl 3 rfl) ?_
      refine lv_iconst (v := 1) K.1 K.2.1 dc_La_law_252 (by decide) ?_
      refine lv_iadd K.1 K.2.1 dc_La_law_253 ?_
      refine fq_asi (y := nI (1 + 6 * k + 1)) (nI_add (1 + 6 * k) 1) ?_
      refine va_sld K.1 K.2.1 hX hbl hbA hS (vp_in_nI (show 1 + 6 * k + 1 < L by omega) hL31) dc_La_law_254 ?_
      refine fq_asi (y := xs (1 + 6 * k + 1)) (by rw [nI_clamp (show 1 + 6 * k + 1 < 2 ^ 31 by omega)]) ?_
      have hcw := fq_cutR (wc := [(q2, .inr (12, [.int (nI S.rm), .int (fq_b sd), .int (nI S.sts.length), .ref aK, .ref aN, .int (nI S.iw), .int (nI S.ow), .int (fq_b S.ih), .int (fq_b S.oh), .ref aB, .int (nI S.ca), .int (nI us), .int (fq_b S.cl), .int (fq_b S.fl), .ref aS, .int (nI X.length), .ref aL, .ref aX, .int (nI md), .int (nI gi), .int (nI su), .int (nI S.ps), .int (nI S.cs)])), (aK, .inl (cI, 5, .inl fK)), (aN, .inl (cI, 25, .inl fN)), (aB, .inl (cI, 120, .inl fB)), (aS, .inl (cI, 120, .inl fS)), (aL, .inl (cI, 2300, .inl fL)), (aX, .inl (cI, 2300, .inl fX))]) (wr := v1) List.perm_append_comm hP hD hS hA
      refine fq_ciR (wc := [(q2, .inr (12, [.int (nI S.rm), .int (fq_b sd), .int (nI S.sts.length), .ref aK, .ref aN, .int (nI S.iw), .int (nI S.ow), .int (fq_b S.ih), .int (fq_b S.oh), .ref aB, .int (nI S.ca), .int (nI us), .int (fq_b S.cl), .int (fq_b S.fl), .ref aS, .int (nI X.length), .ref aL, .ref aX, .int (nI md), .int (nI gi), .int (nI su), .int (nI S.ps), .int (nI S.cs)])), (aK, .inl (cI, 5, .inl fK)), (aN, .inl (cI, 25, .inl fN)), (aB, .inl (cI, 120, .inl fB)), (aS, .inl (cI, 120, .inl fS)), (aL, .inl (cI, 2300, .inl fL)), (aX, .inl (cI, 2300, .inl fX))]) (wr := v1) (fq_rV K hK hZ hS hcw (ct_Mo_gain l D cI cO tE q2 aK aN aB aS aL aX S.rm sd S.sts.length S.iw S.ow S.ih S.oh S.ca us S.cl S.fl X.length md gi su S.ps S.cs fK fN fB fS fL fX (xs (1 + 6 * k + 1)) hI.1.2.2.2.2.2 _) yk_Mo_gain wd_874 wd_875 wd_873 0 rfl rfl rfl ⟨⟨rfl, rfl⟩, ⟨Nat.le_of_ble_eq_true rfl, Nat.le_of_ble_eq_true rfl⟩, ⟨show cN + 2 + 0 ≤ 600000 by omega, show sN + 12 + 0 ≤ 7302249 by omega⟩⟩ hl.1 rfl (Nat.le_of_ble_eq_true rfl) dc_La_law_255) hP hD hS hcw List.perm_append_comm (fun r2 v2 H locs hw2 hP hD hS => ?_)
      have hP := fq_permP List.perm_append_comm hP
      have hD := fq_permD List.perm_append_comm hD
      obtain ⟨hrr, T, hT1, hT2⟩ := la_gain eh er ek hfp hsd hI hR hw1 hw2
      have hP : va_P D fq_cl (v1 ++ v2) _ := hP
      have hD : va_D A (v1 ++ v2) := hD
      refine lv_icmp_eq (tgt := 677) K.1 K.2.1 dc_La_law_258 rfl (fun b258 => ?_) (fun b258 => absurd hrr b258)
      refine lv_iinc (v := nI (1 + 6 * (k + 1))) K.1 K.2.1 dc_La_law_677 hl (k := 3) rfl (by rw [show 1 + 6 * (k + 1) = (1 + 6 * k) + 6 by omega]; exact nI_add (1 + 6 * k) 6) (by decide) rfl (fun ls hl => ?_)
      have hl : lv_has ls 4 [(3, .int (nI (1 + 6 * (k + 1)))), (0, .ref b), (1, .ref q1), (2, .ref q2)] := hl
      refine lv_goto (tgt := 28) K.1 K.2.1 dc_La_law_680 rfl ?_
      exact ih28 (k + 1, T, v1, v2, cN + 2 + 0, sN + 12 + 0) _ _ _ (by show L - 6 * (k + 1) < L - 6 * k; omega) ⟨⟨by show 6 * (k + 1) ≤ 3078; omega, hT1, hT2, by show cN + 2 + 0 ≤ 24 + 5 * (k + 1); omega, by show sN + 12 + 0 ≤ 8088 + 32 * (k + 1); omega⟩, lv_sub hl [1, 2, 3, 0] rfl, hP, hD, hS⟩
    by_cases c43_3 : v1 = 3
    · skip
      refine lv_tableIn (off := 220) (tgt := 263) K.1 K.2.1 dc_La_law_43 (by rw [c43_3]; decide) (by rw [c43_3]; decide) (by rw [c43_3]; decide) rfl ?_
      refine lv_aload_n K.1 K.2.1 dc_La_law_263 rfl (lv_at hl 1 rfl) ?_
      refine lv_aload_n K.1 K.2.1 dc_La_law_264 rfl (lv_at hl 0 rfl) ?_
      refine lv_iload_n K.1 K.2.1 dc_La_law_265 rfl (lv_at hl 3 rfl) ?_
      refine lv_iconst (v := 1) K.1 K.2.1 dc_La_law_266 (by decide) ?_
      refine lv_iadd K.1 K.2.1 dc_La_law_267 ?_
      refine fq_asi (y := nI (1 + 6 * k + 1)) (nI_add (1 + 6 * k) 1) ?_
      refine va_sld K.1 K.2.1 hX hbl hbA hS (vp_in_nI (show 1 + 6 * k + 1 < L by omega) hL31) dc_La_law_268 ?_
      refine fq_asi (y := xs (1 + 6 * k + 1)) (by rw [nI_clamp (show 1 + 6 * k + 1 < 2 ^ 31 by omega)]) ?_
      refine lv_aload_n K.1 K.2.1 dc_La_law_269 rfl (lv_at hl 0 rfl) ?_
      refine lv_iload_n K.1 K.2.1 dc_La_law_270 rfl (lv_at hl 3 rfl) ?_
      refine lv_iconst (v := 2) K.1 K.2.1 dc_La_law_271 (by decide) ?_
      refine lv_iadd K.1 K.2.1 dc_La_law_272 ?_
      refine fq_asi (y := nI (1 + 6 * k + 2)) (nI_add (1 + 6 * k) 2) ?_
      refine va_sld K.1 K.2.1 hX hbl hbA hS (vp_in_nI (show 1 + 6 * k + 2 < L by omega) hL31) dc_La_law_273 ?_
      refine fq_asi (y := xs (1 + 6 * k + 2)) (by rw [nI_clamp (show 1 + 6 * k + 2 < 2 ^ 31 by omega)]) ?_
      obtain ⟨aK, aN, aB, aS, aL, aX, us, md, gi, su, sd, fK, fN, fB, fS, fL, fX, X, rfl, hsd, hI, hR⟩ := hX2
      obtain ⟨Lh0, Lr0, Lk0, eh, er, ek, hfp⟩ := hX1
      obtain ⟨fs0, hfs0⟩ := fp_rv hfp
      have hcw := fq_cutR (wc := u1) (wr := [(q2, .inr (12, [.int (nI S.rm), .int (fq_b sd), .int (nI S.sts.length), .ref aK, .ref aN, .int (nI S.iw), .int (nI S.ow), .int (fq_b S.ih), .int (fq_b S.oh), .ref aB, .int (nI S.ca), .int (nI us), .int (fq_b S.cl), .int (fq_b S.fl), .ref aS, .int (nI X.length), .ref aL, .ref aX, .int (nI md), .int (nI gi), .int (nI su), .int (nI S.ps), .int (nI S.cs)])), (aK, .inl (cI, 5, .inl fK)), (aN, .inl (cI, 25, .inl fN)), (aB, .inl (cI, 120, .inl fB)), (aS, .inl (cI, 120, .inl fS)), (aL, .inl (cI, 2300, .inl fL)), (aX, .inl (cI, 2300, .inl fX))]) (List.Perm.refl _) hP hD hS hA
      refine fq_ciR (wc := u1) (wr := [(q2, .inr (12, [.int (nI S.rm), .int (fq_b sd), .int (nI S.sts.length), .ref aK, .ref aN, .int (nI S.iw), .int (nI S.ow), .int (fq_b S.ih), .int (fq_b S.oh), .ref aB, .int (nI S.ca), .int (nI us), .int (fq_b S.cl), .int (fq_b S.fl), .ref aS, .int (nI X.length), .ref aL, .ref aX, .int (nI md), .int (nI gi), .int (nI su), .int (nI S.ps), .int (nI S.cs)])), (aK, .inl (cI, 5, .inl fK)), (aN, .inl (cI, 25, .inl fN)), (aB, .inl (cI, 120, .inl fB)), (aS, .inl (cI, 120, .inl fS)), (aL, .inl (cI, 2300, .inl fL)), (aX, .inl (cI, 2300, .inl fX))]) (fq_rV K hK hZ hS hcw (ct_FP_window l D cI cO tE q1 S.sts S.rs S.fl S.ps S.cs S.ca S.cl S.iw S.ih S.Lb Lh0 Lr0 S.rm S.ow S.oh Lk0 u1 hfp (xs (1 + 6 * k + 1)) (xs (1 + 6 * k + 2)) _) yk_FP_window wd_368 wd_369 wd_367 0 hfs0 rfl rfl ⟨⟨rfl, rfl⟩, ⟨Nat.le_of_ble_eq_true rfl, Nat.le_of_ble_eq_true rfl⟩, ⟨show cN + 5 ≤ 600000 by omega, show sN + 32 ≤ 7302249 by omega⟩⟩ hl.1 rfl (Nat.le_of_ble_eq_true rfl) dc_La_law_274) hP hD hS hcw (List.Perm.refl _) (fun r1 v1 H locs hw1 hP hD hS => ?_)
      have hP : va_P D fq_cl (v1 ++ [(q2, .inr (12, [.int (nI S.rm), .int (fq_b sd), .int (nI S.sts.length), .ref aK, .ref aN, .int (nI S.iw), .int (nI S.ow), .int (fq_b S.ih), .int (fq_b S.oh), .ref aB, .int (nI S.ca), .int (nI us), .int (fq_b S.cl), .int (fq_b S.fl), .ref aS, .int (nI X.length), .ref aL, .ref aX, .int (nI md), .int (nI gi), .int (nI su), .int (nI S.ps), .int (nI S.cs)])), (aK, .inl (cI, 5, .inl fK)), (aN, .inl (cI, 25, .inl fN)), (aB, .inl (cI, 120, .inl fB)), (aS, .inl (cI, 120, .inl fS)), (aL, .inl (cI, 2300, .inl fL)), (aX, .inl (cI, 2300, .inl fX))]) _ := hP
      have hD : va_D A (v1 ++ [(q2, .inr (12, [.int (nI S.rm), .int (fq_b sd), .int (nI S.sts.length), .ref aK, .ref aN, .int (nI S.iw), .int (nI S.ow), .int (fq_b S.ih), .int (fq_b S.oh), .ref aB, .int (nI S.ca), .int (nI us), .int (fq_b S.cl), .int (fq_b S.fl), .ref aS, .int (nI X.length), .ref aL, .ref aX, .int (nI md), .int (nI gi), .int (nI su), .int (nI S.ps), .int (nI S.cs)])), (aK, .inl (cI, 5, .inl fK)), (aN, .inl (cI, 25, .inl fN)), (aB, .inl (cI, 120, .inl fB)), (aS, .inl (cI, 120, .inl fS)), (aL, .inl (cI, 2300, .inl fL)), (aX, .inl (cI, 2300, .inl fX))]) := hD
      refine lv_aload_n K.1 K.2.1 dc_La_law_277 rfl (lv_at hl 2 rfl) ?_
      refine lv_aload_n K.1 K.2.1 dc_La_law_278 rfl (lv_at hl 0 rfl) ?_
      refine lv_iload_n K.1 K.2.1 dc_La_law_279 rfl (lv_at hl 3 rfl) ?_
      refine lv_iconst (v := 1) K.1 K.2.1 dc_La_law_280 (by decide) ?_
      refine lv_iadd K.1 K.2.1 dc_La_law_281 ?_
      refine fq_asi (y := nI (1 + 6 * k + 1)) (nI_add (1 + 6 * k) 1) ?_
      refine va_sld K.1 K.2.1 hX hbl hbA hS (vp_in_nI (show 1 + 6 * k + 1 < L by omega) hL31) dc_La_law_282 ?_
      refine fq_asi (y := xs (1 + 6 * k + 1)) (by rw [nI_clamp (show 1 + 6 * k + 1 < 2 ^ 31 by omega)]) ?_
      refine lv_aload_n K.1 K.2.1 dc_La_law_283 rfl (lv_at hl 0 rfl) ?_
      refine lv_iload_n K.1 K.2.1 dc_La_law_284 rfl (lv_at hl 3 rfl) ?_
      refine lv_iconst (v := 2) K.1 K.2.1 dc_La_law_285 (by decide) ?_
      refine lv_iadd K.1 K.2.1 dc_La_law_286 ?_
      refine fq_asi (y := nI (1 + 6 * k + 2)) (nI_add (1 + 6 * k) 2) ?_
      refine va_sld K.1 K.2.1 hX hbl hbA hS (vp_in_nI (show 1 + 6 * k + 2 < L by omega) hL31) dc_La_law_287 ?_
      refine fq_asi (y := xs (1 + 6 * k + 2)) (by rw [nI_clamp (show 1 + 6 * k + 2 < 2 ^ 31 by omega)]) ?_
      have hcw := fq_cutR (wc := [(q2, .inr (12, [.int (nI S.rm), .int (fq_b sd), .int (nI S.sts.length), .ref aK, .ref aN, .int (nI S.iw), .int (nI S.ow), .int (fq_b S.ih), .int (fq_b S.oh), .ref aB, .int (nI S.ca), .int (nI us), .int (fq_b S.cl), .int (fq_b S.fl), .ref aS, .int (nI X.length), .ref aL, .ref aX, .int (nI md), .int (nI gi), .int (nI su), .int (nI S.ps), .int (nI S.cs)])), (aK, .inl (cI, 5, .inl fK)), (aN, .inl (cI, 25, .inl fN)), (aB, .inl (cI, 120, .inl fB)), (aS, .inl (cI, 120, .inl fS)), (aL, .inl (cI, 2300, .inl fL)), (aX, .inl (cI, 2300, .inl fX))]) (wr := v1) List.perm_append_comm hP hD hS hA
      refine fq_ciR (wc := [(q2, .inr (12, [.int (nI S.rm), .int (fq_b sd), .int (nI S.sts.length), .ref aK, .ref aN, .int (nI S.iw), .int (nI S.ow), .int (fq_b S.ih), .int (fq_b S.oh), .ref aB, .int (nI S.ca), .int (nI us), .int (fq_b S.cl), .int (fq_b S.fl), .ref aS, .int (nI X.length), .ref aL, .ref aX, .int (nI md), .int (nI gi), .int (nI su), .int (nI S.ps), .int (nI S.cs)])), (aK, .inl (cI, 5, .inl fK)), (aN, .inl (cI, 25, .inl fN)), (aB, .inl (cI, 120, .inl fB)), (aS, .inl (cI, 120, .inl fS)), (aL, .inl (cI, 2300, .inl fL)), (aX, .inl (cI, 2300, .inl fX))]) (wr := v1) (fq_rV K hK hZ hS hcw (ct_Mo_window l D cI cO tE q2 aK aN aB aS aL aX S.rm sd S.sts.length S.iw S.ow S.ih S.oh S.ca us S.cl S.fl X.length md gi su S.ps S.cs fK fN fB fS fL fX (xs (1 + 6 * k + 1)) (xs (1 + 6 * k + 2)) hI.1.2.2.2.2.2 _) yk_Mo_window wd_878 wd_879 wd_877 0 rfl rfl rfl ⟨⟨rfl, rfl⟩, ⟨Nat.le_of_ble_eq_true rfl, Nat.le_of_ble_eq_true rfl⟩, ⟨show cN + 5 + 0 ≤ 600000 by omega, show sN + 32 + 0 ≤ 7302249 by omega⟩⟩ hl.1 rfl (Nat.le_of_ble_eq_true rfl) dc_La_law_288) hP hD hS hcw List.perm_append_comm (fun r2 v2 H locs hw2 hP hD hS => ?_)
      have hP := fq_permP List.perm_append_comm hP
      have hD := fq_permD List.perm_append_comm hD
      obtain ⟨hrr, T, hT1, hT2⟩ := la_window eh er ek hfp hsd hI hR hw1 hw2
      have hP : va_P D fq_cl (v1 ++ v2) _ := hP
      have hD : va_D A (v1 ++ v2) := hD
      refine lv_icmp_eq (tgt := 677) K.1 K.2.1 dc_La_law_291 rfl (fun b291 => ?_) (fun b291 => absurd hrr b291)
      refine lv_iinc (v := nI (1 + 6 * (k + 1))) K.1 K.2.1 dc_La_law_677 hl (k := 3) rfl (by rw [show 1 + 6 * (k + 1) = (1 + 6 * k) + 6 by omega]; exact nI_add (1 + 6 * k) 6) (by decide) rfl (fun ls hl => ?_)
      have hl : lv_has ls 4 [(3, .int (nI (1 + 6 * (k + 1)))), (0, .ref b), (1, .ref q1), (2, .ref q2)] := hl
      refine lv_goto (tgt := 28) K.1 K.2.1 dc_La_law_680 rfl ?_
      exact ih28 (k + 1, T, v1, v2, cN + 5 + 0, sN + 32 + 0) _ _ _ (by show L - 6 * (k + 1) < L - 6 * k; omega) ⟨⟨by show 6 * (k + 1) ≤ 3078; omega, hT1, hT2, by show cN + 5 + 0 ≤ 24 + 5 * (k + 1); omega, by show sN + 32 + 0 ≤ 8088 + 32 * (k + 1); omega⟩, lv_sub hl [1, 2, 3, 0] rfl, hP, hD, hS⟩
    by_cases c43_4 : v1 = 4
    · skip
      refine lv_tableIn (off := 253) (tgt := 296) K.1 K.2.1 dc_La_law_43 (by rw [c43_4]; decide) (by rw [c43_4]; decide) (by rw [c43_4]; decide) rfl ?_
      refine lv_aload_n K.1 K.2.1 dc_La_law_296 rfl (lv_at hl 1 rfl) ?_
      refine lv_aload_n K.1 K.2.1 dc_La_law_297 rfl (lv_at hl 0 rfl) ?_
      refine lv_iload_n K.1 K.2.1 dc_La_law_298 rfl (lv_at hl 3 rfl) ?_
      refine lv_iconst (v := 1) K.1 K.2.1 dc_La_law_299 (by decide) ?_
      refine lv_iadd K.1 K.2.1 dc_La_law_300 ?_
      refine fq_asi (y := nI (1 + 6 * k + 1)) (nI_add (1 + 6 * k) 1) ?_
      refine va_sld K.1 K.2.1 hX hbl hbA hS (vp_in_nI (show 1 + 6 * k + 1 < L by omega) hL31) dc_La_law_301 ?_
      refine fq_asi (y := xs (1 + 6 * k + 1)) (by rw [nI_clamp (show 1 + 6 * k + 1 < 2 ^ 31 by omega)]) ?_
      refine lv_aload_n K.1 K.2.1 dc_La_law_302 rfl (lv_at hl 0 rfl) ?_
      refine lv_iload_n K.1 K.2.1 dc_La_law_303 rfl (lv_at hl 3 rfl) ?_
      refine lv_iconst (v := 2) K.1 K.2.1 dc_La_law_304 (by decide) ?_
      refine lv_iadd K.1 K.2.1 dc_La_law_305 ?_
      refine fq_asi (y := nI (1 + 6 * k + 2)) (nI_add (1 + 6 * k) 2) ?_
      refine va_sld K.1 K.2.1 hX hbl hbA hS (vp_in_nI (show 1 + 6 * k + 2 < L by omega) hL31) dc_La_law_306 ?_
      refine fq_asi (y := xs (1 + 6 * k + 2)) (by rw [nI_clamp (show 1 + 6 * k + 2 < 2 ^ 31 by omega)]) ?_
      obtain ⟨aK, aN, aB, aS, aL, aX, us, md, gi, su, sd, fK, fN, fB, fS, fL, fX, X, rfl, hsd, hI, hR⟩ := hX2
      obtain ⟨Lh0, Lr0, Lk0, eh, er, ek, hfp⟩ := hX1
      obtain ⟨fs0, hfs0⟩ := fp_rv hfp
      have hcw := fq_cutR (wc := u1) (wr := [(q2, .inr (12, [.int (nI S.rm), .int (fq_b sd), .int (nI S.sts.length), .ref aK, .ref aN, .int (nI S.iw), .int (nI S.ow), .int (fq_b S.ih), .int (fq_b S.oh), .ref aB, .int (nI S.ca), .int (nI us), .int (fq_b S.cl), .int (fq_b S.fl), .ref aS, .int (nI X.length), .ref aL, .ref aX, .int (nI md), .int (nI gi), .int (nI su), .int (nI S.ps), .int (nI S.cs)])), (aK, .inl (cI, 5, .inl fK)), (aN, .inl (cI, 25, .inl fN)), (aB, .inl (cI, 120, .inl fB)), (aS, .inl (cI, 120, .inl fS)), (aL, .inl (cI, 2300, .inl fL)), (aX, .inl (cI, 2300, .inl fX))]) (List.Perm.refl _) hP hD hS hA
      refine fq_ciR (wc := u1) (wr := [(q2, .inr (12, [.int (nI S.rm), .int (fq_b sd), .int (nI S.sts.length), .ref aK, .ref aN, .int (nI S.iw), .int (nI S.ow), .int (fq_b S.ih), .int (fq_b S.oh), .ref aB, .int (nI S.ca), .int (nI us), .int (fq_b S.cl), .int (fq_b S.fl), .ref aS, .int (nI X.length), .ref aL, .ref aX, .int (nI md), .int (nI gi), .int (nI su), .int (nI S.ps), .int (nI S.cs)])), (aK, .inl (cI, 5, .inl fK)), (aN, .inl (cI, 25, .inl fN)), (aB, .inl (cI, 120, .inl fB)), (aS, .inl (cI, 120, .inl fS)), (aL, .inl (cI, 2300, .inl fL)), (aX, .inl (cI, 2300, .inl fX))]) (fq_rV K hK hZ hS hcw (ct_FP_resample l D cI cO tE q1 S.sts S.rs S.fl S.ps S.cs S.ca S.cl S.iw S.ih S.Lb Lh0 Lr0 S.rm S.ow S.oh Lk0 u1 hfp (xs (1 + 6 * k + 1)) (xs (1 + 6 * k + 2)) _) yk_FP_resample wd_408 wd_409 wd_407 0 hfs0 rfl rfl ⟨⟨rfl, rfl⟩, ⟨Nat.le_of_ble_eq_true rfl, Nat.le_of_ble_eq_true rfl⟩, ⟨show cN + 4 ≤ 600000 by omega, show sN + 25 ≤ 7302249 by omega⟩⟩ hl.1 rfl (Nat.le_of_ble_eq_true rfl) dc_La_law_307) hP hD hS hcw (List.Perm.refl _) (fun r1 v1 H locs hw1 hP hD hS => ?_)
      have hP : va_P D fq_cl (v1 ++ [(q2, .inr (12, [.int (nI S.rm), .int (fq_b sd), .int (nI S.sts.length), .ref aK, .ref aN, .int (nI S.iw), .int (nI S.ow), .int (fq_b S.ih), .int (fq_b S.oh), .ref aB, .int (nI S.ca), .int (nI us), .int (fq_b S.cl), .int (fq_b S.fl), .ref aS, .int (nI X.length), .ref aL, .ref aX, .int (nI md), .int (nI gi), .int (nI su), .int (nI S.ps), .int (nI S.cs)])), (aK, .inl (cI, 5, .inl fK)), (aN, .inl (cI, 25, .inl fN)), (aB, .inl (cI, 120, .inl fB)), (aS, .inl (cI, 120, .inl fS)), (aL, .inl (cI, 2300, .inl fL)), (aX, .inl (cI, 2300, .inl fX))]) _ := hP
      have hD : va_D A (v1 ++ [(q2, .inr (12, [.int (nI S.rm), .int (fq_b sd), .int (nI S.sts.length), .ref aK, .ref aN, .int (nI S.iw), .int (nI S.ow), .int (fq_b S.ih), .int (fq_b S.oh), .ref aB, .int (nI S.ca), .int (nI us), .int (fq_b S.cl), .int (fq_b S.fl), .ref aS, .int (nI X.length), .ref aL, .ref aX, .int (nI md), .int (nI gi), .int (nI su), .int (nI S.ps), .int (nI S.cs)])), (aK, .inl (cI, 5, .inl fK)), (aN, .inl (cI, 25, .inl fN)), (aB, .inl (cI, 120, .inl fB)), (aS, .inl (cI, 120, .inl fS)), (aL, .inl (cI, 2300, .inl fL)), (aX, .inl (cI, 2300, .inl fX))]) := hD
      refine lv_aload_n K.1 K.2.1 dc_La_law_310 rfl (lv_at hl 2 rfl) ?_
      refine lv_aload_n K.1 K.2.1 dc_La_law_311 rfl (lv_at hl 0 rfl) ?_
      refine lv_iload_n K.1 K.2.1 dc_La_law_312 rfl (lv_at hl 3 rfl) ?_
      refine lv_iconst (v := 1) K.1 K.2.1 dc_La_law_313 (by decide) ?_
      refine lv_iadd K.1 K.2.1 dc_La_law_314 ?_
      refine fq_asi (y := nI (1 + 6 * k + 1)) (nI_add (1 + 6 * k) 1) ?_
      refine va_sld K.1 K.2.1 hX hbl hbA hS (vp_in_nI (show 1 + 6 * k + 1 < L by omega) hL31) dc_La_law_315 ?_
      refine fq_asi (y := xs (1 + 6 * k + 1)) (by rw [nI_clamp (show 1 + 6 * k + 1 < 2 ^ 31 by omega)]) ?_
      refine lv_aload_n K.1 K.2.1 dc_La_law_316 rfl (lv_at hl 0 rfl) ?_
      refine lv_iload_n K.1 K.2.1 dc_La_law_317 rfl (lv_at hl 3 rfl) ?_
      refine lv_iconst (v := 2) K.1 K.2.1 dc_La_law_318 (by decide) ?_
      refine lv_iadd K.1 K.2.1 dc_La_law_319 ?_
      refine fq_asi (y := nI (1 + 6 * k + 2)) (nI_add (1 + 6 * k) 2) ?_
      refine va_sld K.1 K.2.1 hX hbl hbA hS (vp_in_nI (show 1 + 6 * k + 2 < L by omega) hL31) dc_La_law_320 ?_
      refine fq_asi (y := xs (1 + 6 * k + 2)) (by rw [nI_clamp (show 1 + 6 * k + 2 < 2 ^ 31 by omega)]) ?_
      have hcw := fq_cutR (wc := [(q2, .inr (12, [.int (nI S.rm), .int (fq_b sd), .int (nI S.sts.length), .ref aK, .ref aN, .int (nI S.iw), .int (nI S.ow), .int (fq_b S.ih), .int (fq_b S.oh), .ref aB, .int (nI S.ca), .int (nI us), .int (fq_b S.cl), .int (fq_b S.fl), .ref aS, .int (nI X.length), .ref aL, .ref aX, .int (nI md), .int (nI gi), .int (nI su), .int (nI S.ps), .int (nI S.cs)])), (aK, .inl (cI, 5, .inl fK)), (aN, .inl (cI, 25, .inl fN)), (aB, .inl (cI, 120, .inl fB)), (aS, .inl (cI, 120, .inl fS)), (aL, .inl (cI, 2300, .inl fL)), (aX, .inl (cI, 2300, .inl fX))]) (wr := v1) List.perm_append_comm hP hD hS hA
      refine fq_ciR (wc := [(q2, .inr (12, [.int (nI S.rm), .int (fq_b sd), .int (nI S.sts.length), .ref aK, .ref aN, .int (nI S.iw), .int (nI S.ow), .int (fq_b S.ih), .int (fq_b S.oh), .ref aB, .int (nI S.ca), .int (nI us), .int (fq_b S.cl), .int (fq_b S.fl), .ref aS, .int (nI X.length), .ref aL, .ref aX, .int (nI md), .int (nI gi), .int (nI su), .int (nI S.ps), .int (nI S.cs)])), (aK, .inl (cI, 5, .inl fK)), (aN, .inl (cI, 25, .inl fN)), (aB, .inl (cI, 120, .inl fB)), (aS, .inl (cI, 120, .inl fS)), (aL, .inl (cI, 2300, .inl fL)), (aX, .inl (cI, 2300, .inl fX))]) (wr := v1) (fq_rV K hK hZ hS hcw (ct_Mo_resample l D cI cO tE q2 aK aN aB aS aL aX S.rm sd S.sts.length S.iw S.ow S.ih S.oh S.ca us S.cl S.fl X.length md gi su S.ps S.cs fK fN fB fS fL fX (xs (1 + 6 * k + 1)) (xs (1 + 6 * k + 2)) hI.1.2.2.2.2.2 _) yk_Mo_resample wd_882 wd_883 wd_881 0 rfl rfl rfl ⟨⟨rfl, rfl⟩, ⟨Nat.le_of_ble_eq_true rfl, Nat.le_of_ble_eq_true rfl⟩, ⟨show cN + 4 + 0 ≤ 600000 by omega, show sN + 25 + 0 ≤ 7302249 by omega⟩⟩ hl.1 rfl (Nat.le_of_ble_eq_true rfl) dc_La_law_321) hP hD hS hcw List.perm_append_comm (fun r2 v2 H locs hw2 hP hD hS => ?_)
      have hP := fq_permP List.perm_append_comm hP
      have hD := fq_permD List.perm_append_comm hD
      obtain ⟨hrr, T, hT1, hT2⟩ := la_resample eh er ek hfp hsd hI hR hw1 hw2
      have hP : va_P D fq_cl (v1 ++ v2) _ := hP
      have hD : va_D A (v1 ++ v2) := hD
      refine lv_icmp_eq (tgt := 677) K.1 K.2.1 dc_La_law_324 rfl (fun b324 => ?_) (fun b324 => absurd hrr b324)
      refine lv_iinc (v := nI (1 + 6 * (k + 1))) K.1 K.2.1 dc_La_law_677 hl (k := 3) rfl (by rw [show 1 + 6 * (k + 1) = (1 + 6 * k) + 6 by omega]; exact nI_add (1 + 6 * k) 6) (by decide) rfl (fun ls hl => ?_)
      have hl : lv_has ls 4 [(3, .int (nI (1 + 6 * (k + 1)))), (0, .ref b), (1, .ref q1), (2, .ref q2)] := hl
      refine lv_goto (tgt := 28) K.1 K.2.1 dc_La_law_680 rfl ?_
      exact ih28 (k + 1, T, v1, v2, cN + 4 + 0, sN + 25 + 0) _ _ _ (by show L - 6 * (k + 1) < L - 6 * k; omega) ⟨⟨by show 6 * (k + 1) ≤ 3078; omega, hT1, hT2, by show cN + 4 + 0 ≤ 24 + 5 * (k + 1); omega, by show sN + 25 + 0 ≤ 8088 + 32 * (k + 1); omega⟩, lv_sub hl [1, 2, 3, 0] rfl, hP, hD, hS⟩
    by_cases c43_5 : v1 = 5
    · skip
      refine lv_tableIn (off := 286) (tgt := 329) K.1 K.2.1 dc_La_law_43 (by rw [c43_5]; decide) (by rw [c43_5]; decide) (by rw [c43_5]; decide) rfl ?_
      refine lv_aload_n K.1 K.2.1 dc_La_law_329 rfl (lv_at hl 1 rfl) ?_
      refine lv_aload_n K.1 K.2.1 dc_La_law_330 rfl (lv_at hl 0 rfl) ?_
      refine lv_iload_n K.1 K.2.1 dc_La_law_331 rfl (lv_at hl 3 rfl) ?_
      refine lv_iconst (v := 1) K.1 K.2.1 dc_La_law_332 (by decide) ?_
      refine lv_iadd K.1 K.2.1 dc_La_law_333 ?_
      refine fq_asi (y := nI (1 + 6 * k + 1)) (nI_add (1 + 6 * k) 1) ?_
      refine va_sld K.1 K.2.1 hX hbl hbA hS (vp_in_nI (show 1 + 6 * k + 1 < L by omega) hL31) dc_La_law_334 ?_
      refine fq_asi (y := xs (1 + 6 * k + 1)) (by rw [nI_clamp (show 1 + 6 * k + 1 < 2 ^ 31 by omega)]) ?_
      refine lv_aload_n K.1 K.2.1 dc_La_law_335 rfl (lv_at hl 0 rfl) ?_
      refine lv_iload_n K.1 K.2.1 dc_La_law_336 rfl (lv_at hl 3 rfl) ?_
      refine lv_iconst (v := 2) K.1 K.2.1 dc_La_law_337 (by decide) ?_
      refine lv_iadd K.1 K.2.1 dc_La_law_338 ?_
      refine fq_asi (y := nI (1 + 6 * k + 2)) (nI_add (1 + 6 * k) 2) ?_
      refine va_sld K.1 K.2.1 hX hbl hbA hS (vp_in_nI (show 1 + 6 * k + 2 < L by omega) hL31) dc_La_law_339 ?_
      refine fq_asi (y := xs (1 + 6 * k + 2)) (by rw [nI_clamp (show 1 + 6 * k + 2 < 2 ^ 31 by omega)]) ?_
      refine lv_if_eq (tgt := 347) K.1 K.2.1 dc_La_law_340 rfl (fun b340 => ?_) (fun b340 => ?_)
      · skip
        refine lv_iconst (v := 0) K.1 K.2.1 dc_La_law_347 (by decide) ?_
        refine fq_asi (y := fq_b false) rfl ?_
        refine lv_aload_n K.1 K.2.1 dc_La_law_348 rfl (lv_at hl 0 rfl) ?_
        refine lv_iload_n K.1 K.2.1 dc_La_law_349 rfl (lv_at hl 3 rfl) ?_
        refine lv_iconst (v := 3) K.1 K.2.1 dc_La_law_350 (by decide) ?_
        refine lv_iadd K.1 K.2.1 dc_La_law_351 ?_
        refine fq_asi (y := nI (1 + 6 * k + 3)) (nI_add (1 + 6 * k) 3) ?_
        refine va_sld K.1 K.2.1 hX hbl hbA hS (vp_in_nI (show 1 + 6 * k + 3 < L by omega) hL31) dc_La_law_352 ?_
        refine fq_asi (y := xs (1 + 6 * k + 3)) (by rw [nI_clamp (show 1 + 6 * k + 3 < 2 ^ 31 by omega)]) ?_
        refine lv_if_eq (tgt := 360) K.1 K.2.1 dc_La_law_353 rfl (fun b353 => ?_) (fun b353 => ?_)
        · skip
          refine lv_iconst (v := 0) K.1 K.2.1 dc_La_law_360 (by decide) ?_
          refine fq_asi (y := fq_b false) rfl ?_
          obtain ⟨aK, aN, aB, aS, aL, aX, us, md, gi, su, sd, fK, fN, fB, fS, fL, fX, X, rfl, hsd, hI, hR⟩ := hX2
          obtain ⟨Lh0, Lr0, Lk0, eh, er, ek, hfp⟩ := hX1
          obtain ⟨fs0, hfs0⟩ := fp_rv hfp
          have hcw := fq_cutR (wc := u1) (wr := [(q2, .inr (12, [.int (nI S.rm), .int (fq_b sd), .int (nI S.sts.length), .ref aK, .ref aN, .int (nI S.iw), .int (nI S.ow), .int (fq_b S.ih), .int (fq_b S.oh), .ref aB, .int (nI S.ca), .int (nI us), .int (fq_b S.cl), .int (fq_b S.fl), .ref aS, .int (nI X.length), .ref aL, .ref aX, .int (nI md), .int (nI gi), .int (nI su), .int (nI S.ps), .int (nI S.cs)])), (aK, .inl (cI, 5, .inl fK)), (aN, .inl (cI, 25, .inl fN)), (aB, .inl (cI, 120, .inl fB)), (aS, .inl (cI, 120, .inl fS)), (aL, .inl (cI, 2300, .inl fL)), (aX, .inl (cI, 2300, .inl fX))]) (List.Perm.refl _) hP hD hS hA
          refine fq_ciR (wc := u1) (wr := [(q2, .inr (12, [.int (nI S.rm), .int (fq_b sd), .int (nI S.sts.length), .ref aK, .ref aN, .int (nI S.iw), .int (nI S.ow), .int (fq_b S.ih), .int (fq_b S.oh), .ref aB, .int (nI S.ca), .int (nI us), .int (fq_b S.cl), .int (fq_b S.fl), .ref aS, .int (nI X.length), .ref aL, .ref aX, .int (nI md), .int (nI gi), .int (nI su), .int (nI S.ps), .int (nI S.cs)])), (aK, .inl (cI, 5, .inl fK)), (aN, .inl (cI, 25, .inl fN)), (aB, .inl (cI, 120, .inl fB)), (aS, .inl (cI, 120, .inl fS)), (aL, .inl (cI, 2300, .inl fL)), (aX, .inl (cI, 2300, .inl fX))]) (fq_rV K hK hZ hS hcw (ct_FP_format l D cI cO tE q1 S.sts S.rs S.fl S.ps S.cs S.ca S.cl S.iw S.ih S.Lb Lh0 Lr0 S.rm S.ow S.oh Lk0 u1 hfp (xs (1 + 6 * k + 1)) false false _) yk_FP_format wd_451 wd_452 wd_450 0 hfs0 rfl rfl ⟨⟨rfl, rfl⟩, ⟨Nat.le_of_ble_eq_true rfl, Nat.le_of_ble_eq_true rfl⟩, ⟨show cN + 0 ≤ 600000 by omega, show sN + 0 ≤ 7302249 by omega⟩⟩ hl.1 rfl (Nat.le_of_ble_eq_true rfl) dc_La_law_361) hP hD hS hcw (List.Perm.refl _) (fun r1 v1 H locs hw1 hP hD hS => ?_)
          have hP : va_P D fq_cl (v1 ++ [(q2, .inr (12, [.int (nI S.rm), .int (fq_b sd), .int (nI S.sts.length), .ref aK, .ref aN, .int (nI S.iw), .int (nI S.ow), .int (fq_b S.ih), .int (fq_b S.oh), .ref aB, .int (nI S.ca), .int (nI us), .int (fq_b S.cl), .int (fq_b S.fl), .ref aS, .int (nI X.length), .ref aL, .ref aX, .int (nI md), .int (nI gi), .int (nI su), .int (nI S.ps), .int (nI S.cs)])), (aK, .inl (cI, 5, .inl fK)), (aN, .inl (cI, 25, .inl fN)), (aB, .inl (cI, 120, .inl fB)), (aS, .inl (cI, 120, .inl fS)), (aL, .inl (cI, 2300, .inl fL)), (aX, .inl (cI, 2300, .inl fX))]) _ := hP
          have hD : va_D A (v1 ++ [(q2, .inr (12, [.int (nI S.rm), .int (fq_b sd), .int (nI S.sts.length), .ref aK, .ref aN, .int (nI S.iw), .int (nI S.ow), .int (fq_b S.ih), .int (fq_b S.oh), .ref aB, .int (nI S.ca), .int (nI us), .int (fq_b S.cl), .int (fq_b S.fl), .ref aS, .int (nI X.length), .ref aL, .ref aX, .int (nI md), .int (nI gi), .int (nI su), .int (nI S.ps), .int (nI S.cs)])), (aK, .inl (cI, 5, .inl fK)), (aN, .inl (cI, 25, .inl fN)), (aB, .inl (cI, 120, .inl fB)), (aS, .inl (cI, 120, .inl fS)), (aL, .inl (cI, 2300, .inl fL)), (aX, .inl (cI, 2300, .inl fX))]) := hD
          refine lv_aload_n K.1 K.2.1 dc_La_law_364 rfl (lv_at hl 2 rfl) ?_
          refine lv_aload_n K.1 K.2.1 dc_La_law_365 rfl (lv_at hl 0 rfl) ?_
          refine lv_iload_n K.1 K.2.1 dc_La_law_366 rfl (lv_at hl 3 rfl) ?_
          refine lv_iconst (v := 1) K.1 K.2.1 dc_La_law_367 (by decide) ?_
          refine lv_iadd K.1 K.2.1 dc_La_law_368 ?_
          refine fq_asi (y := nI (1 + 6 * k + 1)) (nI_add (1 + 6 * k) 1) ?_
          refine va_sld K.1 K.2.1 hX hbl hbA hS (vp_in_nI (show 1 + 6 * k + 1 < L by omega) hL31) dc_La_law_369 ?_
          refine fq_asi (y := xs (1 + 6 * k + 1)) (by rw [nI_clamp (show 1 + 6 * k + 1 < 2 ^ 31 by omega)]) ?_
          refine lv_aload_n K.1 K.2.1 dc_La_law_370 rfl (lv_at hl 0 rfl) ?_
          refine lv_iload_n K.1 K.2.1 dc_La_law_371 rfl (lv_at hl 3 rfl) ?_
          refine lv_iconst (v := 2) K.1 K.2.1 dc_La_law_372 (by decide) ?_
          refine lv_iadd K.1 K.2.1 dc_La_law_373 ?_
          refine fq_asi (y := nI (1 + 6 * k + 2)) (nI_add (1 + 6 * k) 2) ?_
          refine va_sld K.1 K.2.1 hX hbl hbA hS (vp_in_nI (show 1 + 6 * k + 2 < L by omega) hL31) dc_La_law_374 ?_
          refine fq_asi (y := xs (1 + 6 * k + 2)) (by rw [nI_clamp (show 1 + 6 * k + 2 < 2 ^ 31 by omega)]) ?_
          refine lv_if_eq (tgt := 382) K.1 K.2.1 dc_La_law_375 rfl (fun b375 => ?_) (fun b375 => absurd b340 b375)
          refine lv_iconst (v := 0) K.1 K.2.1 dc_La_law_382 (by decide) ?_
          refine fq_asi (y := fq_b false) rfl ?_
          refine lv_aload_n K.1 K.2.1 dc_La_law_383 rfl (lv_at hl 0 rfl) ?_
          refine lv_iload_n K.1 K.2.1 dc_La_law_384 rfl (lv_at hl 3 rfl) ?_
          refine lv_iconst (v := 3) K.1 K.2.1 dc_La_law_385 (by decide) ?_
          refine lv_iadd K.1 K.2.1 dc_La_law_386 ?_
          refine fq_asi (y := nI (1 + 6 * k + 3)) (nI_add (1 + 6 * k) 3) ?_
          refine va_sld K.1 K.2.1 hX hbl hbA hS (vp_in_nI (show 1 + 6 * k + 3 < L by omega) hL31) dc_La_law_387 ?_
          refine fq_asi (y := xs (1 + 6 * k + 3)) (by rw [nI_clamp (show 1 + 6 * k + 3 < 2 ^ 31 by omega)]) ?_
          refine lv_if_eq (tgt := 395) K.1 K.2.1 dc_La_law_388 rfl (fun b388 => ?_) (fun b388 => absurd b353 b388)
          refine lv_iconst (v := 0) K.1 K.2.1 dc_La_law_395 (by decide) ?_
          refine fq_asi (y := fq_b false) rfl ?_
          have hcw := fq_cutR (wc := [(q2, .inr (12, [.int (nI S.rm), .int (fq_b sd), .int (nI S.sts.length), .ref aK, .ref aN, .int (nI S.iw), .int (nI S.ow), .int (fq_b S.ih), .int (fq_b S.oh), .ref aB, .int (nI S.ca), .int (nI us), .int (fq_b S.cl), .int (fq_b S.fl), .ref aS, .int (nI X.length), .ref aL, .ref aX, .int (nI md), .int (nI gi), .int (nI su), .int (nI S.ps), .int (nI S.cs)])), (aK, .inl (cI, 5, .inl fK)), (aN, .inl (cI, 25, .inl fN)), (aB, .inl (cI, 120, .inl fB)), (aS, .inl (cI, 120, .inl fS)), (aL, .inl (cI, 2300, .inl fL)), (aX, .inl (cI, 2300, .inl fX))]) (wr := v1) List.perm_append_comm hP hD hS hA
          refine fq_ciR (wc := [(q2, .inr (12, [.int (nI S.rm), .int (fq_b sd), .int (nI S.sts.length), .ref aK, .ref aN, .int (nI S.iw), .int (nI S.ow), .int (fq_b S.ih), .int (fq_b S.oh), .ref aB, .int (nI S.ca), .int (nI us), .int (fq_b S.cl), .int (fq_b S.fl), .ref aS, .int (nI X.length), .ref aL, .ref aX, .int (nI md), .int (nI gi), .int (nI su), .int (nI S.ps), .int (nI S.cs)])), (aK, .inl (cI, 5, .inl fK)), (aN, .inl (cI, 25, .inl fN)), (aB, .inl (cI, 120, .inl fB)), (aS, .inl (cI, 120, .inl fS)), (aL, .inl (cI, 2300, .inl fL)), (aX, .inl (cI, 2300, .inl fX))]) (wr := v1) (fq_rV K hK hZ hS hcw (ct_Mo_format l D cI cO tE q2 aK aN aB aS aL aX S.rm sd S.sts.length S.iw S.ow S.ih S.oh S.ca us S.cl S.fl X.length md gi su S.ps S.cs fK fN fB fS fL fX (xs (1 + 6 * k + 1)) false false _) yk_Mo_format wd_889 wd_890 wd_888 0 rfl rfl rfl ⟨⟨rfl, rfl⟩, ⟨Nat.le_of_ble_eq_true rfl, Nat.le_of_ble_eq_true rfl⟩, ⟨show cN + 0 + 0 ≤ 600000 by omega, show sN + 0 + 0 ≤ 7302249 by omega⟩⟩ hl.1 rfl (Nat.le_of_ble_eq_true rfl) dc_La_law_396) hP hD hS hcw List.perm_append_comm (fun r2 v2 H locs hw2 hP hD hS => ?_)
          have hP := fq_permP List.perm_append_comm hP
          have hD := fq_permD List.perm_append_comm hD
          obtain ⟨hrr, T, hT1, hT2⟩ := la_format eh er ek hfp hsd hI hR hw1 hw2
          have hP : va_P D fq_cl (v1 ++ v2) _ := hP
          have hD : va_D A (v1 ++ v2) := hD
          refine lv_icmp_eq (tgt := 677) K.1 K.2.1 dc_La_law_399 rfl (fun b399 => ?_) (fun b399 => absurd hrr b399)
          refine lv_iinc (v := nI (1 + 6 * (k + 1))) K.1 K.2.1 dc_La_law_677 hl (k := 3) rfl (by rw [show 1 + 6 * (k + 1) = (1 + 6 * k) + 6 by omega]; exact nI_add (1 + 6 * k) 6) (by decide) rfl (fun ls hl => ?_)
          have hl : lv_has ls 4 [(3, .int (nI (1 + 6 * (k + 1)))), (0, .ref b), (1, .ref q1), (2, .ref q2)] := hl
          refine lv_goto (tgt := 28) K.1 K.2.1 dc_La_law_680 rfl ?_
          exact ih28 (k + 1, T, v1, v2, cN + 0 + 0, sN + 0 + 0) _ _ _ (by show L - 6 * (k + 1) < L - 6 * k; omega) ⟨⟨by show 6 * (k + 1) ≤ 3078; omega, hT1, hT2, by show cN + 0 + 0 ≤ 24 + 5 * (k + 1); omega, by show sN + 0 + 0 ≤ 8088 + 32 * (k + 1); omega⟩, lv_sub hl [1, 2, 3, 0] rfl, hP, hD, hS⟩
        · skip
          refine lv_iconst (v := 1) K.1 K.2.1 dc_La_law_356 (by decide) ?_
          refine fq_asi (y := fq_b true) rfl ?_
          refine lv_goto (tgt := 361) K.1 K.2.1 dc_La_law_357 rfl ?_
          obtain ⟨aK, aN, aB, aS, aL, aX, us, md, gi, su, sd, fK, fN, fB, fS, fL, fX, X, rfl, hsd, hI, hR⟩ := hX2
          obtain ⟨Lh0, Lr0, Lk0, eh, er, ek, hfp⟩ := hX1
          obtain ⟨fs0, hfs0⟩ := fp_rv hfp
          have hcw := fq_cutR (wc := u1) (wr := [(q2, .inr (12, [.int (nI S.rm), .int (fq_b sd), .int (nI S.sts.length), .ref aK, .ref aN, .int (nI S.iw), .int (nI S.ow), .int (fq_b S.ih), .int (fq_b S.oh), .ref aB, .int (nI S.ca), .int (nI us), .int (fq_b S.cl), .int (fq_b S.fl), .ref aS, .int (nI X.length), .ref aL, .ref aX, .int (nI md), .int (nI gi), .int (nI su), .int (nI S.ps), .int (nI S.cs)])), (aK, .inl (cI, 5, .inl fK)), (aN, .inl (cI, 25, .inl fN)), (aB, .inl (cI, 120, .inl fB)), (aS, .inl (cI, 120, .inl fS)), (aL, .inl (cI, 2300, .inl fL)), (aX, .inl (cI, 2300, .inl fX))]) (List.Perm.refl _) hP hD hS hA
          refine fq_ciR (wc := u1) (wr := [(q2, .inr (12, [.int (nI S.rm), .int (fq_b sd), .int (nI S.sts.length), .ref aK, .ref aN, .int (nI S.iw), .int (nI S.ow), .int (fq_b S.ih), .int (fq_b S.oh), .ref aB, .int (nI S.ca), .int (nI us), .int (fq_b S.cl), .int (fq_b S.fl), .ref aS, .int (nI X.length), .ref aL, .ref aX, .int (nI md), .int (nI gi), .int (nI su), .int (nI S.ps), .int (nI S.cs)])), (aK, .inl (cI, 5, .inl fK)), (aN, .inl (cI, 25, .inl fN)), (aB, .inl (cI, 120, .inl fB)), (aS, .inl (cI, 120, .inl fS)), (aL, .inl (cI, 2300, .inl fL)), (aX, .inl (cI, 2300, .inl fX))]) (fq_rV K hK hZ hS hcw (ct_FP_format l D cI cO tE q1 S.sts S.rs S.fl S.ps S.cs S.ca S.cl S.iw S.ih S.Lb Lh0 Lr0 S.rm S.ow S.oh Lk0 u1 hfp (xs (1 + 6 * k + 1)) false true _) yk_FP_format wd_451 wd_452 wd_450 0 hfs0 rfl rfl ⟨⟨rfl, rfl⟩, ⟨Nat.le_of_ble_eq_true rfl, Nat.le_of_ble_eq_true rfl⟩, ⟨show cN + 0 ≤ 600000 by omega, show sN + 0 ≤ 7302249 by omega⟩⟩ hl.1 rfl (Nat.le_of_ble_eq_true rfl) dc_La_law_361) hP hD hS hcw (List.Perm.refl _) (fun r1 v1 H locs hw1 hP hD hS => ?_)
          have hP : va_P D fq_cl (v1 ++ [(q2, .inr (12, [.int (nI S.rm), .int (fq_b sd), .int (nI S.sts.length), .ref aK, .ref aN, .int (nI S.iw), .int (nI S.ow), .int (fq_b S.ih), .int (fq_b S.oh), .ref aB, .int (nI S.ca), .int (nI us), .int (fq_b S.cl), .int (fq_b S.fl), .ref aS, .int (nI X.length), .ref aL, .ref aX, .int (nI md), .int (nI gi), .int (nI su), .int (nI S.ps), .int (nI S.cs)])), (aK, .inl (cI, 5, .inl fK)), (aN, .inl (cI, 25, .inl fN)), (aB, .inl (cI, 120, .inl fB)), (aS, .inl (cI, 120, .inl fS)), (aL, .inl (cI, 2300, .inl fL)), (aX, .inl (cI, 2300, .inl fX))]) _ := hP
          have hD : va_D A (v1 ++ [(q2, .inr (12, [.int (nI S.rm), .int (fq_b sd), .int (nI S.sts.length), .ref aK, .ref aN, .int (nI S.iw), .int (nI S.ow), .int (fq_b S.ih), .int (fq_b S.oh), .ref aB, .int (nI S.ca), .int (nI us), .int (fq_b S.cl), .int (fq_b S.fl), .ref aS, .int (nI X.length), .ref aL, .ref aX, .int (nI md), .int (nI gi), .int (nI su), .int (nI S.ps), .int (nI S.cs)])), (aK, .inl (cI, 5, .inl fK)), (aN, .inl (cI, 25, .inl fN)), (aB, .inl (cI, 120, .inl fB)), (aS, .inl (cI, 120, .inl fS)), (aL, .inl (cI, 2300, .inl fL)), (aX, .inl (cI, 2300, .inl fX))]) := hD
          refine lv_aload_n K.1 K.2.1 dc_La_law_364 rfl (lv_at hl 2 rfl) ?_
          refine lv_aload_n K.1 K.2.1 dc_La_law_365 rfl (lv_at hl 0 rfl) ?_
          refine lv_iload_n K.1 K.2.1 dc_La_law_366 rfl (lv_at hl 3 rfl) ?_
          refine lv_iconst (v := 1) K.1 K.2.1 dc_La_law_367 (by decide) ?_
          refine lv_iadd K.1 K.2.1 dc_La_law_368 ?_
          refine fq_asi (y := nI (1 + 6 * k + 1)) (nI_add (1 + 6 * k) 1) ?_
          refine va_sld K.1 K.2.1 hX hbl hbA hS (vp_in_nI (show 1 + 6 * k + 1 < L by omega) hL31) dc_La_law_369 ?_
          refine fq_asi (y := xs (1 + 6 * k + 1)) (by rw [nI_clamp (show 1 + 6 * k + 1 < 2 ^ 31 by omega)]) ?_
          refine lv_aload_n K.1 K.2.1 dc_La_law_370 rfl (lv_at hl 0 rfl) ?_
          refine lv_iload_n K.1 K.2.1 dc_La_law_371 rfl (lv_at hl 3 rfl) ?_
          refine lv_iconst (v := 2) K.1 K.2.1 dc_La_law_372 (by decide) ?_
          refine lv_iadd K.1 K.2.1 dc_La_law_373 ?_
          refine fq_asi (y := nI (1 + 6 * k + 2)) (nI_add (1 + 6 * k) 2) ?_
          refine va_sld K.1 K.2.1 hX hbl hbA hS (vp_in_nI (show 1 + 6 * k + 2 < L by omega) hL31) dc_La_law_374 ?_
          refine fq_asi (y := xs (1 + 6 * k + 2)) (by rw [nI_clamp (show 1 + 6 * k + 2 < 2 ^ 31 by omega)]) ?_
          refine lv_if_eq (tgt := 382) K.1 K.2.1 dc_La_law_375 rfl (fun b375 => ?_) (fun b375 => absurd b340 b375)
          refine lv_iconst (v := 0) K.1 K.2.1 dc_La_law_382 (by decide) ?_
          refine fq_asi (y := fq_b false) rfl ?_
          refine lv_aload_n K.1 K.2.1 dc_La_law_383 rfl (lv_at hl 0 rfl) ?_
          refine lv_iload_n K.1 K.2.1 dc_La_law_384 rfl (lv_at hl 3 rfl) ?_
          refine lv_iconst (v := 3) K.1 K.2.1 dc_La_law_385 (by decide) ?_
          refine lv_iadd K.1 K.2.1 dc_La_law_386 ?_
          refine fq_asi (y := nI (1 + 6 * k + 3)) (nI_add (1 + 6 * k) 3) ?_
          refine va_sld K.1 K.2.1 hX hbl hbA hS (vp_in_nI (show 1 + 6 * k + 3 < L by omega) hL31) dc_La_law_387 ?_
          refine fq_asi (y := xs (1 + 6 * k + 3)) (by rw [nI_clamp (show 1 + 6 * k + 3 < 2 ^ 31 by omega)]) ?_
          refine lv_if_eq (tgt := 395) K.1 K.2.1 dc_La_law_388 rfl (fun b388 => absurd b388 b353) (fun b388 => ?_)
          refine lv_iconst (v := 1) K.1 K.2.1 dc_La_law_391 (by decide) ?_
          refine fq_asi (y := fq_b true) rfl ?_
          refine lv_goto (tgt := 396) K.1 K.2.1 dc_La_law_392 rfl ?_
          have hcw := fq_cutR (wc := [(q2, .inr (12, [.int (nI S.rm), .int (fq_b sd), .int (nI S.sts.length), .ref aK, .ref aN, .int (nI S.iw), .int (nI S.ow), .int (fq_b S.ih), .int (fq_b S.oh), .ref aB, .int (nI S.ca), .int (nI us), .int (fq_b S.cl), .int (fq_b S.fl), .ref aS, .int (nI X.length), .ref aL, .ref aX, .int (nI md), .int (nI gi), .int (nI su), .int (nI S.ps), .int (nI S.cs)])), (aK, .inl (cI, 5, .inl fK)), (aN, .inl (cI, 25, .inl fN)), (aB, .inl (cI, 120, .inl fB)), (aS, .inl (cI, 120, .inl fS)), (aL, .inl (cI, 2300, .inl fL)), (aX, .inl (cI, 2300, .inl fX))]) (wr := v1) List.perm_append_comm hP hD hS hA
          refine fq_ciR (wc := [(q2, .inr (12, [.int (nI S.rm), .int (fq_b sd), .int (nI S.sts.length), .ref aK, .ref aN, .int (nI S.iw), .int (nI S.ow), .int (fq_b S.ih), .int (fq_b S.oh), .ref aB, .int (nI S.ca), .int (nI us), .int (fq_b S.cl), .int (fq_b S.fl), .ref aS, .int (nI X.length), .ref aL, .ref aX, .int (nI md), .int (nI gi), .int (nI su), .int (nI S.ps), .int (nI S.cs)])), (aK, .inl (cI, 5, .inl fK)), (aN, .inl (cI, 25, .inl fN)), (aB, .inl (cI, 120, .inl fB)), (aS, .inl (cI, 120, .inl fS)), (aL, .inl (cI, 2300, .inl fL)), (aX, .inl (cI, 2300, .inl fX))]) (wr := v1) (fq_rV K hK hZ hS hcw (ct_Mo_format l D cI cO tE q2 aK aN aB aS aL aX S.rm sd S.sts.length S.iw S.ow S.ih S.oh S.ca us S.cl S.fl X.length md gi su S.ps S.cs fK fN fB fS fL fX (xs (1 + 6 * k + 1)) false true _) yk_Mo_format wd_889 wd_890 wd_888 0 rfl rfl rfl ⟨⟨rfl, rfl⟩, ⟨Nat.le_of_ble_eq_true rfl, Nat.le_of_ble_eq_true rfl⟩, ⟨show cN + 0 + 0 ≤ 600000 by omega, show sN + 0 + 0 ≤ 7302249 by omega⟩⟩ hl.1 rfl (Nat.le_of_ble_eq_true rfl) dc_La_law_396) hP hD hS hcw List.perm_append_comm (fun r2 v2 H locs hw2 hP hD hS => ?_)
          have hP := fq_permP List.perm_append_comm hP
          have hD := fq_permD List.perm_append_comm hD
          obtain ⟨hrr, T, hT1, hT2⟩ := la_format eh er ek hfp hsd hI hR hw1 hw2
          have hP : va_P D fq_cl (v1 ++ v2) _ := hP
          have hD : va_D A (v1 ++ v2) := hD
          refine lv_icmp_eq (tgt := 677) K.1 K.2.1 dc_La_law_399 rfl (fun b399 => ?_) (fun b399 => absurd hrr b399)
          refine lv_iinc (v := nI (1 + 6 * (k + 1))) K.1 K.2.1 dc_La_law_677 hl (k := 3) rfl (by rw [show 1 + 6 * (k + 1) = (1 + 6 * k) + 6 by omega]; exact nI_add (1 + 6 * k) 6) (by decide) rfl (fun ls hl => ?_)
          have hl : lv_has ls 4 [(3, .int (nI (1 + 6 * (k + 1)))), (0, .ref b), (1, .ref q1), (2, .ref q2)] := hl
          refine lv_goto (tgt := 28) K.1 K.2.1 dc_La_law_680 rfl ?_
          exact ih28 (k + 1, T, v1, v2, cN + 0 + 0, sN + 0 + 0) _ _ _ (by show L - 6 * (k + 1) < L - 6 * k; omega) ⟨⟨by show 6 * (k + 1) ≤ 3078; omega, hT1, hT2, by show cN + 0 + 0 ≤ 24 + 5 * (k + 1); omega, by show sN + 0 + 0 ≤ 8088 + 32 * (k + 1); omega⟩, lv_sub hl [1, 2, 3, 0] rfl, hP, hD, hS⟩
      · skip
        refine lv_iconst (v := 1) K.1 K.2.1 dc_La_law_343 (by decide) ?_
        refine fq_asi (y := fq_b true) rfl ?_
        refine lv_goto (tgt := 348) K.1 K.2.1 dc_La_law_344 rfl ?_
        refine lv_aload_n K.1 K.2.1 dc_La_law_348 rfl (lv_at hl 0 rfl) ?_
        refine lv_iload_n K.1 K.2.1 dc_La_law_349 rfl (lv_at hl 3 rfl) ?_
        refine lv_iconst (v := 3) K.1 K.2.1 dc_La_law_350 (by decide) ?_
        refine lv_iadd K.1 K.2.1 dc_La_law_351 ?_
        refine fq_asi (y := nI (1 + 6 * k + 3)) (nI_add (1 + 6 * k) 3) ?_
        refine va_sld K.1 K.2.1 hX hbl hbA hS (vp_in_nI (show 1 + 6 * k + 3 < L by omega) hL31) dc_La_law_352 ?_
        refine fq_asi (y := xs (1 + 6 * k + 3)) (by rw [nI_clamp (show 1 + 6 * k + 3 < 2 ^ 31 by omega)]) ?_
        refine lv_if_eq (tgt := 360) K.1 K.2.1 dc_La_law_353 rfl (fun b353 => ?_) (fun b353 => ?_)
        · skip
          refine lv_iconst (v := 0) K.1 K.2.1 dc_La_law_360 (by decide) ?_
          refine fq_asi (y := fq_b false) rfl ?_
          obtain ⟨aK, aN, aB, aS, aL, aX, us, md, gi, su, sd, fK, fN, fB, fS, fL, fX, X, rfl, hsd, hI, hR⟩ := hX2
          obtain ⟨Lh0, Lr0, Lk0, eh, er, ek, hfp⟩ := hX1
          obtain ⟨fs0, hfs0⟩ := fp_rv hfp
          have hcw := fq_cutR (wc := u1) (wr := [(q2, .inr (12, [.int (nI S.rm), .int (fq_b sd), .int (nI S.sts.length), .ref aK, .ref aN, .int (nI S.iw), .int (nI S.ow), .int (fq_b S.ih), .int (fq_b S.oh), .ref aB, .int (nI S.ca), .int (nI us), .int (fq_b S.cl), .int (fq_b S.fl), .ref aS, .int (nI X.length), .ref aL, .ref aX, .int (nI md), .int (nI gi), .int (nI su), .int (nI S.ps), .int (nI S.cs)])), (aK, .inl (cI, 5, .inl fK)), (aN, .inl (cI, 25, .inl fN)), (aB, .inl (cI, 120, .inl fB)), (aS, .inl (cI, 120, .inl fS)), (aL, .inl (cI, 2300, .inl fL)), (aX, .inl (cI, 2300, .inl fX))]) (List.Perm.refl _) hP hD hS hA
          refine fq_ciR (wc := u1) (wr := [(q2, .inr (12, [.int (nI S.rm), .int (fq_b sd), .int (nI S.sts.length), .ref aK, .ref aN, .int (nI S.iw), .int (nI S.ow), .int (fq_b S.ih), .int (fq_b S.oh), .ref aB, .int (nI S.ca), .int (nI us), .int (fq_b S.cl), .int (fq_b S.fl), .ref aS, .int (nI X.length), .ref aL, .ref aX, .int (nI md), .int (nI gi), .int (nI su), .int (nI S.ps), .int (nI S.cs)])), (aK, .inl (cI, 5, .inl fK)), (aN, .inl (cI, 25, .inl fN)), (aB, .inl (cI, 120, .inl fB)), (aS, .inl (cI, 120, .inl fS)), (aL, .inl (cI, 2300, .inl fL)), (aX, .inl (cI, 2300, .inl fX))]) (fq_rV K hK hZ hS hcw (ct_FP_format l D cI cO tE q1 S.sts S.rs S.fl S.ps S.cs S.ca S.cl S.iw S.ih S.Lb Lh0 Lr0 S.rm S.ow S.oh Lk0 u1 hfp (xs (1 + 6 * k + 1)) true false _) yk_FP_format wd_451 wd_452 wd_450 0 hfs0 rfl rfl ⟨⟨rfl, rfl⟩, ⟨Nat.le_of_ble_eq_true rfl, Nat.le_of_ble_eq_true rfl⟩, ⟨show cN + 0 ≤ 600000 by omega, show sN + 0 ≤ 7302249 by omega⟩⟩ hl.1 rfl (Nat.le_of_ble_eq_true rfl) dc_La_law_361) hP hD hS hcw (List.Perm.refl _) (fun r1 v1 H locs hw1 hP hD hS => ?_)
          have hP : va_P D fq_cl (v1 ++ [(q2, .inr (12, [.int (nI S.rm), .int (fq_b sd), .int (nI S.sts.length), .ref aK, .ref aN, .int (nI S.iw), .int (nI S.ow), .int (fq_b S.ih), .int (fq_b S.oh), .ref aB, .int (nI S.ca), .int (nI us), .int (fq_b S.cl), .int (fq_b S.fl), .ref aS, .int (nI X.length), .ref aL, .ref aX, .int (nI md), .int (nI gi), .int (nI su), .int (nI S.ps), .int (nI S.cs)])), (aK, .inl (cI, 5, .inl fK)), (aN, .inl (cI, 25, .inl fN)), (aB, .inl (cI, 120, .inl fB)), (aS, .inl (cI, 120, .inl fS)), (aL, .inl (cI, 2300, .inl fL)), (aX, .inl (cI, 2300, .inl fX))]) _ := hP
          have hD : va_D A (v1 ++ [(q2, .inr (12, [.int (nI S.rm), .int (fq_b sd), .int (nI S.sts.length), .ref aK, .ref aN, .int (nI S.iw), .int (nI S.ow), .int (fq_b S.ih), .int (fq_b S.oh), .ref aB, .int (nI S.ca), .int (nI us), .int (fq_b S.cl), .int (fq_b S.fl), .ref aS, .int (nI X.length), .ref aL, .ref aX, .int (nI md), .int (nI gi), .int (nI su), .int (nI S.ps), .int (nI S.cs)])), (aK, .inl (cI, 5, .inl fK)), (aN, .inl (cI, 25, .inl fN)), (aB, .inl (cI, 120, .inl fB)), (aS, .inl (cI, 120, .inl fS)), (aL, .inl (cI, 2300, .inl fL)), (aX, .inl (cI, 2300, .inl fX))]) := hD
          refine lv_aload_n K.1 K.2.1 dc_La_law_364 rfl (lv_at hl 2 rfl) ?_
          refine lv_aload_n K.1 K.2.1 dc_La_law_365 rfl (lv_at hl 0 rfl) ?_
          refine lv_iload_n K.1 K.2.1 dc_La_law_366 rfl (lv_at hl 3 rfl) ?_
          refine lv_iconst (v := 1) K.1 K.2.1 dc_La_law_367 (by decide) ?_
          refine lv_iadd K.1 K.2.1 dc_La_law_368 ?_
          refine fq_asi (y := nI (1 + 6 * k + 1)) (nI_add (1 + 6 * k) 1) ?_
          refine va_sld K.1 K.2.1 hX hbl hbA hS (vp_in_nI (show 1 + 6 * k + 1 < L by omega) hL31) dc_La_law_369 ?_
          refine fq_asi (y := xs (1 + 6 * k + 1)) (by rw [nI_clamp (show 1 + 6 * k + 1 < 2 ^ 31 by omega)]) ?_
          refine lv_aload_n K.1 K.2.1 dc_La_law_370 rfl (lv_at hl 0 rfl) ?_
          refine lv_iload_n K.1 K.2.1 dc_La_law_371 rfl (lv_at hl 3 rfl) ?_
          refine lv_iconst (v := 2) K.1 K.2.1 dc_La_law_372 (by decide) ?_
          refine lv_iadd K.1 K.2.1 dc_La_law_373 ?_
          refine fq_asi (y := nI (1 + 6 * k + 2)) (nI_add (1 + 6 * k) 2) ?_
          refine va_sld K.1 K.2.1 hX hbl hbA hS (vp_in_nI (show 1 + 6 * k + 2 < L by omega) hL31) dc_La_law_374 ?_
          refine fq_asi (y := xs (1 + 6 * k + 2)) (by rw [nI_clamp (show 1 + 6 * k + 2 < 2 ^ 31 by omega)]) ?_
          refine lv_if_eq (tgt := 382) K.1 K.2.1 dc_La_law_375 rfl (fun b375 => absurd b375 b340) (fun b375 => ?_)
          refine lv_iconst (v := 1) K.1 K.2.1 dc_La_law_378 (by decide) ?_
          refine fq_asi (y := fq_b true) rfl ?_
          refine lv_goto (tgt := 383) K.1 K.2.1 dc_La_law_379 rfl ?_
          refine lv_aload_n K.1 K.2.1 dc_La_law_383 rfl (lv_at hl 0 rfl) ?_
          refine lv_iload_n K.1 K.2.1 dc_La_law_384 rfl (lv_at hl 3 rfl) ?_
          refine lv_iconst (v := 3) K.1 K.2.1 dc_La_law_385 (by decide) ?_
          refine lv_iadd K.1 K.2.1 dc_La_law_386 ?_
          refine fq_asi (y := nI (1 + 6 * k + 3)) (nI_add (1 + 6 * k) 3) ?_
          refine va_sld K.1 K.2.1 hX hbl hbA hS (vp_in_nI (show 1 + 6 * k + 3 < L by omega) hL31) dc_La_law_387 ?_
          refine fq_asi (y := xs (1 + 6 * k + 3)) (by rw [nI_clamp (show 1 + 6 * k + 3 < 2 ^ 31 by omega)]) ?_
          refine lv_if_eq (tgt := 395) K.1 K.2.1 dc_La_law_388 rfl (fun b388 => ?_) (fun b388 => absurd b353 b388)
          refine lv_iconst (v := 0) K.1 K.2.1 dc_La_law_395 (by decide) ?_
          refine fq_asi (y := fq_b false) rfl ?_
          have hcw := fq_cutR (wc := [(q2, .inr (12, [.int (nI S.rm), .int (fq_b sd), .int (nI S.sts.length), .ref aK, .ref aN, .int (nI S.iw), .int (nI S.ow), .int (fq_b S.ih), .int (fq_b S.oh), .ref aB, .int (nI S.ca), .int (nI us), .int (fq_b S.cl), .int (fq_b S.fl), .ref aS, .int (nI X.length), .ref aL, .ref aX, .int (nI md), .int (nI gi), .int (nI su), .int (nI S.ps), .int (nI S.cs)])), (aK, .inl (cI, 5, .inl fK)), (aN, .inl (cI, 25, .inl fN)), (aB, .inl (cI, 120, .inl fB)), (aS, .inl (cI, 120, .inl fS)), (aL, .inl (cI, 2300, .inl fL)), (aX, .inl (cI, 2300, .inl fX))]) (wr := v1) List.perm_append_comm hP hD hS hA
          refine fq_ciR (wc := [(q2, .inr (12, [.int (nI S.rm), .int (fq_b sd), .int (nI S.sts.length), .ref aK, .ref aN, .int (nI S.iw), .int (nI S.ow), .int (fq_b S.ih), .int (fq_b S.oh), .ref aB, .int (nI S.ca), .int (nI us), .int (fq_b S.cl), .int (fq_b S.fl), .ref aS, .int (nI X.length), .ref aL, .ref aX, .int (nI md), .int (nI gi), .int (nI su), .int (nI S.ps), .int (nI S.cs)])), (aK, .inl (cI, 5, .inl fK)), (aN, .inl (cI, 25, .inl fN)), (aB, .inl (cI, 120, .inl fB)), (aS, .inl (cI, 120, .inl fS)), (aL, .inl (cI, 2300, .inl fL)), (aX, .inl (cI, 2300, .inl fX))]) (wr := v1) (fq_rV K hK hZ hS hcw (ct_Mo_format l D cI cO tE q2 aK aN aB aS aL aX S.rm sd S.sts.length S.iw S.ow S.ih S.oh S.ca us S.cl S.fl X.length md gi su S.ps S.cs fK fN fB fS fL fX (xs (1 + 6 * k + 1)) true false _) yk_Mo_format wd_889 wd_890 wd_888 0 rfl rfl rfl ⟨⟨rfl, rfl⟩, ⟨Nat.le_of_ble_eq_true rfl, Nat.le_of_ble_eq_true rfl⟩, ⟨show cN + 0 + 0 ≤ 600000 by omega, show sN + 0 + 0 ≤ 7302249 by omega⟩⟩ hl.1 rfl (Nat.le_of_ble_eq_true rfl) dc_La_law_396) hP hD hS hcw List.perm_append_comm (fun r2 v2 H locs hw2 hP hD hS => ?_)
          have hP := fq_permP List.perm_append_comm hP
          have hD := fq_permD List.perm_append_comm hD
          obtain ⟨hrr, T, hT1, hT2⟩ := la_format eh er ek hfp hsd hI hR hw1 hw2
          have hP : va_P D fq_cl (v1 ++ v2) _ := hP
          have hD : va_D A (v1 ++ v2) := hD
          refine lv_icmp_eq (tgt := 677) K.1 K.2.1 dc_La_law_399 rfl (fun b399 => ?_) (fun b399 => absurd hrr b399)
          refine lv_iinc (v := nI (1 + 6 * (k + 1))) K.1 K.2.1 dc_La_law_677 hl (k := 3) rfl (by rw [show 1 + 6 * (k + 1) = (1 + 6 * k) + 6 by omega]; exact nI_add (1 + 6 * k) 6) (by decide) rfl (fun ls hl => ?_)
          have hl : lv_has ls 4 [(3, .int (nI (1 + 6 * (k + 1)))), (0, .ref b), (1, .ref q1), (2, .ref q2)] := hl
          refine lv_goto (tgt := 28) K.1 K.2.1 dc_La_law_680 rfl ?_
          exact ih28 (k + 1, T, v1, v2, cN + 0 + 0, sN + 0 + 0) _ _ _ (by show L - 6 * (k + 1) < L - 6 * k; omega) ⟨⟨by show 6 * (k + 1) ≤ 3078; omega, hT1, hT2, by show cN + 0 + 0 ≤ 24 + 5 * (k + 1); omega, by show sN + 0 + 0 ≤ 8088 + 32 * (k + 1); omega⟩, lv_sub hl [1, 2, 3, 0] rfl, hP, hD, hS⟩
        · skip
          refine lv_iconst (v := 1) K.1 K.2.1 dc_La_law_356 (by decide) ?_
          refine fq_asi (y := fq_b true) rfl ?_
          refine lv_goto (tgt := 361) K.1 K.2.1 dc_La_law_357 rfl ?_
          obtain ⟨aK, aN, aB, aS, aL, aX, us, md, gi, su, sd, fK, fN, fB, fS, fL, fX, X, rfl, hsd, hI, hR⟩ := hX2
          obtain ⟨Lh0, Lr0, Lk0, eh, er, ek, hfp⟩ := hX1
          obtain ⟨fs0, hfs0⟩ := fp_rv hfp
          have hcw := fq_cutR (wc := u1) (wr := [(q2, .inr (12, [.int (nI S.rm), .int (fq_b sd), .int (nI S.sts.length), .ref aK, .ref aN, .int (nI S.iw), .int (nI S.ow), .int (fq_b S.ih), .int (fq_b S.oh), .ref aB, .int (nI S.ca), .int (nI us), .int (fq_b S.cl), .int (fq_b S.fl), .ref aS, .int (nI X.length), .ref aL, .ref aX, .int (nI md), .int (nI gi), .int (nI su), .int (nI S.ps), .int (nI S.cs)])), (aK, .inl (cI, 5, .inl fK)), (aN, .inl (cI, 25, .inl fN)), (aB, .inl (cI, 120, .inl fB)), (aS, .inl (cI, 120, .inl fS)), (aL, .inl (cI, 2300, .inl fL)), (aX, .inl (cI, 2300, .inl fX))]) (List.Perm.refl _) hP hD hS hA
          refine fq_ciR (wc := u1) (wr := [(q2, .inr (12, [.int (nI S.rm), .int (fq_b sd), .int (nI S.sts.length), .ref aK, .ref aN, .int (nI S.iw), .int (nI S.ow), .int (fq_b S.ih), .int (fq_b S.oh), .ref aB, .int (nI S.ca), .int (nI us), .int (fq_b S.cl), .int (fq_b S.fl), .ref aS, .int (nI X.length), .ref aL, .ref aX, .int (nI md), .int (nI gi), .int (nI su), .int (nI S.ps), .int (nI S.cs)])), (aK, .inl (cI, 5, .inl fK)), (aN, .inl (cI, 25, .inl fN)), (aB, .inl (cI, 120, .inl fB)), (aS, .inl (cI, 120, .inl fS)), (aL, .inl (cI, 2300, .inl fL)), (aX, .inl (cI, 2300, .inl fX))]) (fq_rV K hK hZ hS hcw (ct_FP_format l D cI cO tE q1 S.sts S.rs S.fl S.ps S.cs S.ca S.cl S.iw S.ih S.Lb Lh0 Lr0 S.rm S.ow S.oh Lk0 u1 hfp (xs (1 + 6 * k + 1)) true true _) yk_FP_format wd_451 wd_452 wd_450 0 hfs0 rfl rfl ⟨⟨rfl, rfl⟩, ⟨Nat.le_of_ble_eq_true rfl, Nat.le_of_ble_eq_true rfl⟩, ⟨show cN + 0 ≤ 600000 by omega, show sN + 0 ≤ 7302249 by omega⟩⟩ hl.1 rfl (Nat.le_of_ble_eq_true rfl) dc_La_law_361) hP hD hS hcw (List.Perm.refl _) (fun r1 v1 H locs hw1 hP hD hS => ?_)
          have hP : va_P D fq_cl (v1 ++ [(q2, .inr (12, [.int (nI S.rm), .int (fq_b sd), .int (nI S.sts.length), .ref aK, .ref aN, .int (nI S.iw), .int (nI S.ow), .int (fq_b S.ih), .int (fq_b S.oh), .ref aB, .int (nI S.ca), .int (nI us), .int (fq_b S.cl), .int (fq_b S.fl), .ref aS, .int (nI X.length), .ref aL, .ref aX, .int (nI md), .int (nI gi), .int (nI su), .int (nI S.ps), .int (nI S.cs)])), (aK, .inl (cI, 5, .inl fK)), (aN, .inl (cI, 25, .inl fN)), (aB, .inl (cI, 120, .inl fB)), (aS, .inl (cI, 120, .inl fS)), (aL, .inl (cI, 2300, .inl fL)), (aX, .inl (cI, 2300, .inl fX))]) _ := hP
          have hD : va_D A (v1 ++ [(q2, .inr (12, [.int (nI S.rm), .int (fq_b sd), .int (nI S.sts.length), .ref aK, .ref aN, .int (nI S.iw), .int (nI S.ow), .int (fq_b S.ih), .int (fq_b S.oh), .ref aB, .int (nI S.ca), .int (nI us), .int (fq_b S.cl), .int (fq_b S.fl), .ref aS, .int (nI X.length), .ref aL, .ref aX, .int (nI md), .int (nI gi), .int (nI su), .int (nI S.ps), .int (nI S.cs)])), (aK, .inl (cI, 5, .inl fK)), (aN, .inl (cI, 25, .inl fN)), (aB, .inl (cI, 120, .inl fB)), (aS, .inl (cI, 120, .inl fS)), (aL, .inl (cI, 2300, .inl fL)), (aX, .inl (cI, 2300, .inl fX))]) := hD
          refine lv_aload_n K.1 K.2.1 dc_La_law_364 rfl (lv_at hl 2 rfl) ?_
          refine lv_aload_n K.1 K.2.1 dc_La_law_365 rfl (lv_at hl 0 rfl) ?_
          refine lv_iload_n K.1 K.2.1 dc_La_law_366 rfl (lv_at hl 3 rfl) ?_
          refine lv_iconst (v := 1) K.1 K.2.1 dc_La_law_367 (by decide) ?_
          refine lv_iadd K.1 K.2.1 dc_La_law_368 ?_
          refine fq_asi (y := nI (1 + 6 * k + 1)) (nI_add (1 + 6 * k) 1) ?_
          refine va_sld K.1 K.2.1 hX hbl hbA hS (vp_in_nI (show 1 + 6 * k + 1 < L by omega) hL31) dc_La_law_369 ?_
          refine fq_asi (y := xs (1 + 6 * k + 1)) (by rw [nI_clamp (show 1 + 6 * k + 1 < 2 ^ 31 by omega)]) ?_
          refine lv_aload_n K.1 K.2.1 dc_La_law_370 rfl (lv_at hl 0 rfl) ?_
          refine lv_iload_n K.1 K.2.1 dc_La_law_371 rfl (lv_at hl 3 rfl) ?_
          refine lv_iconst (v := 2) K.1 K.2.1 dc_La_law_372 (by decide) ?_
          refine lv_iadd K.1 K.2.1 dc_La_law_373 ?_
          refine fq_asi (y := nI (1 + 6 * k + 2)) (nI_add (1 + 6 * k) 2) ?_
          refine va_sld K.1 K.2.1 hX hbl hbA hS (vp_in_nI (show 1 + 6 * k + 2 < L by omega) hL31) dc_La_law_374 ?_
          refine fq_asi (y := xs (1 + 6 * k + 2)) (by rw [nI_clamp (show 1 + 6 * k + 2 < 2 ^ 31 by omega)]) ?_
          refine lv_if_eq (tgt := 382) K.1 K.2.1 dc_La_law_375 rfl (fun b375 => absurd b375 b340) (fun b375 => ?_)
          refine lv_iconst (v := 1) K.1 K.2.1 dc_La_law_378 (by decide) ?_
          refine fq_asi (y := fq_b true) rfl ?_
          refine lv_goto (tgt := 383) K.1 K.2.1 dc_La_law_379 rfl ?_
          refine lv_aload_n K.1 K.2.1 dc_La_law_383 rfl (lv_at hl 0 rfl) ?_
          refine lv_iload_n K.1 K.2.1 dc_La_law_384 rfl (lv_at hl 3 rfl) ?_
          refine lv_iconst (v := 3) K.1 K.2.1 dc_La_law_385 (by decide) ?_
          refine lv_iadd K.1 K.2.1 dc_La_law_386 ?_
          refine fq_asi (y := nI (1 + 6 * k + 3)) (nI_add (1 + 6 * k) 3) ?_
          refine va_sld K.1 K.2.1 hX hbl hbA hS (vp_in_nI (show 1 + 6 * k + 3 < L by omega) hL31) dc_La_law_387 ?_
          refine fq_asi (y := xs (1 + 6 * k + 3)) (by rw [nI_clamp (show 1 + 6 * k + 3 < 2 ^ 31 by omega)]) ?_
          refine lv_if_eq (tgt := 395) K.1 K.2.1 dc_La_law_388 rfl (fun b388 => absurd b388 b353) (fun b388 => ?_)
          refine lv_iconst (v := 1) K.1 K.2.1 dc_La_law_391 (by decide) ?_
          refine fq_asi (y := fq_b true) rfl ?_
          refine lv_goto (tgt := 396) K.1 K.2.1 dc_La_law_392 rfl ?_
          have hcw := fq_cutR (wc := [(q2, .inr (12, [.int (nI S.rm), .int (fq_b sd), .int (nI S.sts.length), .ref aK, .ref aN, .int (nI S.iw), .int (nI S.ow), .int (fq_b S.ih), .int (fq_b S.oh), .ref aB, .int (nI S.ca), .int (nI us), .int (fq_b S.cl), .int (fq_b S.fl), .ref aS, .int (nI X.length), .ref aL, .ref aX, .int (nI md), .int (nI gi), .int (nI su), .int (nI S.ps), .int (nI S.cs)])), (aK, .inl (cI, 5, .inl fK)), (aN, .inl (cI, 25, .inl fN)), (aB, .inl (cI, 120, .inl fB)), (aS, .inl (cI, 120, .inl fS)), (aL, .inl (cI, 2300, .inl fL)), (aX, .inl (cI, 2300, .inl fX))]) (wr := v1) List.perm_append_comm hP hD hS hA
          refine fq_ciR (wc := [(q2, .inr (12, [.int (nI S.rm), .int (fq_b sd), .int (nI S.sts.length), .ref aK, .ref aN, .int (nI S.iw), .int (nI S.ow), .int (fq_b S.ih), .int (fq_b S.oh), .ref aB, .int (nI S.ca), .int (nI us), .int (fq_b S.cl), .int (fq_b S.fl), .ref aS, .int (nI X.length), .ref aL, .ref aX, .int (nI md), .int (nI gi), .int (nI su), .int (nI S.ps), .int (nI S.cs)])), (aK, .inl (cI, 5, .inl fK)), (aN, .inl (cI, 25, .inl fN)), (aB, .inl (cI, 120, .inl fB)), (aS, .inl (cI, 120, .inl fS)), (aL, .inl (cI, 2300, .inl fL)), (aX, .inl (cI, 2300, .inl fX))]) (wr := v1) (fq_rV K hK hZ hS hcw (ct_Mo_format l D cI cO tE q2 aK aN aB aS aL aX S.rm sd S.sts.length S.iw S.ow S.ih S.oh S.ca us S.cl S.fl X.length md gi su S.ps S.cs fK fN fB fS fL fX (xs (1 + 6 * k + 1)) true true _) yk_Mo_format wd_889 wd_890 wd_888 0 rfl rfl rfl ⟨⟨rfl, rfl⟩, ⟨Nat.le_of_ble_eq_true rfl, Nat.le_of_ble_eq_true rfl⟩, ⟨show cN + 0 + 0 ≤ 600000 by omega, show sN + 0 + 0 ≤ 7302249 by omega⟩⟩ hl.1 rfl (Nat.le_of_ble_eq_true rfl) dc_La_law_396) hP hD hS hcw List.perm_append_comm (fun r2 v2 H locs hw2 hP hD hS => ?_)
          have hP := fq_permP List.perm_append_comm hP
          have hD := fq_permD List.perm_append_comm hD
          obtain ⟨hrr, T, hT1, hT2⟩ := la_format eh er ek hfp hsd hI hR hw1 hw2
          have hP : va_P D fq_cl (v1 ++ v2) _ := hP
          have hD : va_D A (v1 ++ v2) := hD
          refine lv_icmp_eq (tgt := 677) K.1 K.2.1 dc_La_law_399 rfl (fun b399 => ?_) (fun b399 => absurd hrr b399)
          refine lv_iinc (v := nI (1 + 6 * (k + 1))) K.1 K.2.1 dc_La_law_677 hl (k := 3) rfl (by rw [show 1 + 6 * (k + 1) = (1 + 6 * k) + 6 by omega]; exact nI_add (1 + 6 * k) 6) (by decide) rfl (fun ls hl => ?_)
          have hl : lv_has ls 4 [(3, .int (nI (1 + 6 * (k + 1)))), (0, .ref b), (1, .ref q1), (2, .ref q2)] := hl
          refine lv_goto (tgt := 28) K.1 K.2.1 dc_La_law_680 rfl ?_
          exact ih28 (k + 1, T, v1, v2, cN + 0 + 0, sN + 0 + 0) _ _ _ (by show L - 6 * (k + 1) < L - 6 * k; omega) ⟨⟨by show 6 * (k + 1) ≤ 3078; omega, hT1, hT2, by show cN + 0 + 0 ≤ 24 + 5 * (k + 1); omega, by show sN + 0 + 0 ≤ 8088 + 32 * (k + 1); omega⟩, lv_sub hl [1, 2, 3, 0] rfl, hP, hD, hS⟩
    by_cases c43_6 : v1 = 6
    · skip
      refine lv_tableIn (off := 361) (tgt := 404) K.1 K.2.1 dc_La_law_43 (by rw [c43_6]; decide) (by rw [c43_6]; decide) (by rw [c43_6]; decide) rfl ?_
      refine lv_aload_n K.1 K.2.1 dc_La_law_404 rfl (lv_at hl 1 rfl) ?_
      refine lv_aload_n K.1 K.2.1 dc_La_law_405 rfl (lv_at hl 0 rfl) ?_
      refine lv_iload_n K.1 K.2.1 dc_La_law_406 rfl (lv_at hl 3 rfl) ?_
      refine lv_iconst (v := 1) K.1 K.2.1 dc_La_law_407 (by decide) ?_
      refine lv_iadd K.1 K.2.1 dc_La_law_408 ?_
      refine fq_asi (y := nI (1 + 6 * k + 1)) (nI_add (1 + 6 * k) 1) ?_
      refine va_sld K.1 K.2.1 hX hbl hbA hS (vp_in_nI (show 1 + 6 * k + 1 < L by omega) hL31) dc_La_law_409 ?_
      refine fq_asi (y := xs (1 + 6 * k + 1)) (by rw [nI_clamp (show 1 + 6 * k + 1 < 2 ^ 31 by omega)]) ?_
      refine lv_aload_n K.1 K.2.1 dc_La_law_410 rfl (lv_at hl 0 rfl) ?_
      refine lv_iload_n K.1 K.2.1 dc_La_law_411 rfl (lv_at hl 3 rfl) ?_
      refine lv_iconst (v := 2) K.1 K.2.1 dc_La_law_412 (by decide) ?_
      refine lv_iadd K.1 K.2.1 dc_La_law_413 ?_
      refine fq_asi (y := nI (1 + 6 * k + 2)) (nI_add (1 + 6 * k) 2) ?_
      refine va_sld K.1 K.2.1 hX hbl hbA hS (vp_in_nI (show 1 + 6 * k + 2 < L by omega) hL31) dc_La_law_414 ?_
      refine fq_asi (y := xs (1 + 6 * k + 2)) (by rw [nI_clamp (show 1 + 6 * k + 2 < 2 ^ 31 by omega)]) ?_
      obtain ⟨aK, aN, aB, aS, aL, aX, us, md, gi, su, sd, fK, fN, fB, fS, fL, fX, X, rfl, hsd, hI, hR⟩ := hX2
      obtain ⟨Lh0, Lr0, Lk0, eh, er, ek, hfp⟩ := hX1
      obtain ⟨fs0, hfs0⟩ := fp_rv hfp
      have hcw := fq_cutR (wc := u1) (wr := [(q2, .inr (12, [.int (nI S.rm), .int (fq_b sd), .int (nI S.sts.length), .ref aK, .ref aN, .int (nI S.iw), .int (nI S.ow), .int (fq_b S.ih), .int (fq_b S.oh), .ref aB, .int (nI S.ca), .int (nI us), .int (fq_b S.cl), .int (fq_b S.fl), .ref aS, .int (nI X.length), .ref aL, .ref aX, .int (nI md), .int (nI gi), .int (nI su), .int (nI S.ps), .int (nI S.cs)])), (aK, .inl (cI, 5, .inl fK)), (aN, .inl (cI, 25, .inl fN)), (aB, .inl (cI, 120, .inl fB)), (aS, .inl (cI, 120, .inl fS)), (aL, .inl (cI, 2300, .inl fL)), (aX, .inl (cI, 2300, .inl fX))]) (List.Perm.refl _) hP hD hS hA
      refine fq_ciR (wc := u1) (wr := [(q2, .inr (12, [.int (nI S.rm), .int (fq_b sd), .int (nI S.sts.length), .ref aK, .ref aN, .int (nI S.iw), .int (nI S.ow), .int (fq_b S.ih), .int (fq_b S.oh), .ref aB, .int (nI S.ca), .int (nI us), .int (fq_b S.cl), .int (fq_b S.fl), .ref aS, .int (nI X.length), .ref aL, .ref aX, .int (nI md), .int (nI gi), .int (nI su), .int (nI S.ps), .int (nI S.cs)])), (aK, .inl (cI, 5, .inl fK)), (aN, .inl (cI, 25, .inl fN)), (aB, .inl (cI, 120, .inl fB)), (aS, .inl (cI, 120, .inl fS)), (aL, .inl (cI, 2300, .inl fL)), (aX, .inl (cI, 2300, .inl fX))]) (fq_rV K hK hZ hS hcw (ct_FP_response l D cI cO tE q1 S.sts S.rs S.fl S.ps S.cs S.ca S.cl S.iw S.ih S.Lb Lh0 Lr0 S.rm S.ow S.oh Lk0 u1 hfp (xs (1 + 6 * k + 1)) (xs (1 + 6 * k + 2)) _) yk_FP_response wd_459 wd_460 wd_458 0 hfs0 rfl rfl ⟨⟨rfl, rfl⟩, ⟨Nat.le_of_ble_eq_true rfl, Nat.le_of_ble_eq_true rfl⟩, ⟨show cN + 0 ≤ 600000 by omega, show sN + 0 ≤ 7302249 by omega⟩⟩ hl.1 rfl (Nat.le_of_ble_eq_true rfl) dc_La_law_415) hP hD hS hcw (List.Perm.refl _) (fun r1 v1 H locs hw1 hP hD hS => ?_)
      have hP : va_P D fq_cl (v1 ++ [(q2, .inr (12, [.int (nI S.rm), .int (fq_b sd), .int (nI S.sts.length), .ref aK, .ref aN, .int (nI S.iw), .int (nI S.ow), .int (fq_b S.ih), .int (fq_b S.oh), .ref aB, .int (nI S.ca), .int (nI us), .int (fq_b S.cl), .int (fq_b S.fl), .ref aS, .int (nI X.length), .ref aL, .ref aX, .int (nI md), .int (nI gi), .int (nI su), .int (nI S.ps), .int (nI S.cs)])), (aK, .inl (cI, 5, .inl fK)), (aN, .inl (cI, 25, .inl fN)), (aB, .inl (cI, 120, .inl fB)), (aS, .inl (cI, 120, .inl fS)), (aL, .inl (cI, 2300, .inl fL)), (aX, .inl (cI, 2300, .inl fX))]) _ := hP
      have hD : va_D A (v1 ++ [(q2, .inr (12, [.int (nI S.rm), .int (fq_b sd), .int (nI S.sts.length), .ref aK, .ref aN, .int (nI S.iw), .int (nI S.ow), .int (fq_b S.ih), .int (fq_b S.oh), .ref aB, .int (nI S.ca), .int (nI us), .int (fq_b S.cl), .int (fq_b S.fl), .ref aS, .int (nI X.length), .ref aL, .ref aX, .int (nI md), .int (nI gi), .int (nI su), .int (nI S.ps), .int (nI S.cs)])), (aK, .inl (cI, 5, .inl fK)), (aN, .inl (cI, 25, .inl fN)), (aB, .inl (cI, 120, .inl fB)), (aS, .inl (cI, 120, .inl fS)), (aL, .inl (cI, 2300, .inl fL)), (aX, .inl (cI, 2300, .inl fX))]) := hD
      refine lv_aload_n K.1 K.2.1 dc_La_law_418 rfl (lv_at hl 2 rfl) ?_
      refine lv_aload_n K.1 K.2.1 dc_La_law_419 rfl (lv_at hl 0 rfl) ?_
      refine lv_iload_n K.1 K.2.1 dc_La_law_420 rfl (lv_at hl 3 rfl) ?_
      refine lv_iconst (v := 1) K.1 K.2.1 dc_La_law_421 (by decide) ?_
      refine lv_iadd K.1 K.2.1 dc_La_law_422 ?_
      refine fq_asi (y := nI (1 + 6 * k + 1)) (nI_add (1 + 6 * k) 1) ?_
      refine va_sld K.1 K.2.1 hX hbl hbA hS (vp_in_nI (show 1 + 6 * k + 1 < L by omega) hL31) dc_La_law_423 ?_
      refine fq_asi (y := xs (1 + 6 * k + 1)) (by rw [nI_clamp (show 1 + 6 * k + 1 < 2 ^ 31 by omega)]) ?_
      refine lv_aload_n K.1 K.2.1 dc_La_law_424 rfl (lv_at hl 0 rfl) ?_
      refine lv_iload_n K.1 K.2.1 dc_La_law_425 rfl (lv_at hl 3 rfl) ?_
      refine lv_iconst (v := 2) K.1 K.2.1 dc_La_law_426 (by decide) ?_
      refine lv_iadd K.1 K.2.1 dc_La_law_427 ?_
      refine fq_asi (y := nI (1 + 6 * k + 2)) (nI_add (1 + 6 * k) 2) ?_
      refine va_sld K.1 K.2.1 hX hbl hbA hS (vp_in_nI (show 1 + 6 * k + 2 < L by omega) hL31) dc_La_law_428 ?_
      refine fq_asi (y := xs (1 + 6 * k + 2)) (by rw [nI_clamp (show 1 + 6 * k + 2 < 2 ^ 31 by omega)]) ?_
      have hcw := fq_cutR (wc := [(q2, .inr (12, [.int (nI S.rm), .int (fq_b sd), .int (nI S.sts.length), .ref aK, .ref aN, .int (nI S.iw), .int (nI S.ow), .int (fq_b S.ih), .int (fq_b S.oh), .ref aB, .int (nI S.ca), .int (nI us), .int (fq_b S.cl), .int (fq_b S.fl), .ref aS, .int (nI X.length), .ref aL, .ref aX, .int (nI md), .int (nI gi), .int (nI su), .int (nI S.ps), .int (nI S.cs)])), (aK, .inl (cI, 5, .inl fK)), (aN, .inl (cI, 25, .inl fN)), (aB, .inl (cI, 120, .inl fB)), (aS, .inl (cI, 120, .inl fS)), (aL, .inl (cI, 2300, .inl fL)), (aX, .inl (cI, 2300, .inl fX))]) (wr := v1) List.perm_append_comm hP hD hS hA
      refine fq_ciR (wc := [(q2, .inr (12, [.int (nI S.rm), .int (fq_b sd), .int (nI S.sts.length), .ref aK, .ref aN, .int (nI S.iw), .int (nI S.ow), .int (fq_b S.ih), .int (fq_b S.oh), .ref aB, .int (nI S.ca), .int (nI us), .int (fq_b S.cl), .int (fq_b S.fl), .ref aS, .int (nI X.length), .ref aL, .ref aX, .int (nI md), .int (nI gi), .int (nI su), .int (nI S.ps), .int (nI S.cs)])), (aK, .inl (cI, 5, .inl fK)), (aN, .inl (cI, 25, .inl fN)), (aB, .inl (cI, 120, .inl fB)), (aS, .inl (cI, 120, .inl fS)), (aL, .inl (cI, 2300, .inl fL)), (aX, .inl (cI, 2300, .inl fX))]) (wr := v1) (fq_rV K hK hZ hS hcw (ct_Mo_response l D cI cO tE q2 aK aN aB aS aL aX S.rm sd S.sts.length S.iw S.ow S.ih S.oh S.ca us S.cl S.fl X.length md gi su S.ps S.cs fK fN fB fS fL fX (st_P S) (List.length_map _).symm hI.1.2.2.2.2.2 hR.1 hI.2.2.1.1.1 (xs (1 + 6 * k + 1)) (xs (1 + 6 * k + 2)) _) yk_Mo_response wd_893 wd_894 wd_892 0 rfl rfl rfl ⟨⟨rfl, rfl⟩, ⟨Nat.le_of_ble_eq_true rfl, Nat.le_of_ble_eq_true rfl⟩, ⟨show cN + 0 + 0 ≤ 600000 by omega, show sN + 0 + 0 ≤ 7302249 by omega⟩⟩ hl.1 rfl (Nat.le_of_ble_eq_true rfl) dc_La_law_429) hP hD hS hcw List.perm_append_comm (fun r2 v2 H locs hw2 hP hD hS => ?_)
      have hP := fq_permP List.perm_append_comm hP
      have hD := fq_permD List.perm_append_comm hD
      obtain ⟨hrr, T, hT1, hT2⟩ := la_response eh er ek hfp hsd hI hR hw1 hw2
      have hP : va_P D fq_cl (v1 ++ v2) _ := hP
      have hD : va_D A (v1 ++ v2) := hD
      refine lv_icmp_eq (tgt := 677) K.1 K.2.1 dc_La_law_432 rfl (fun b432 => ?_) (fun b432 => absurd hrr b432)
      refine lv_iinc (v := nI (1 + 6 * (k + 1))) K.1 K.2.1 dc_La_law_677 hl (k := 3) rfl (by rw [show 1 + 6 * (k + 1) = (1 + 6 * k) + 6 by omega]; exact nI_add (1 + 6 * k) 6) (by decide) rfl (fun ls hl => ?_)
      have hl : lv_has ls 4 [(3, .int (nI (1 + 6 * (k + 1)))), (0, .ref b), (1, .ref q1), (2, .ref q2)] := hl
      refine lv_goto (tgt := 28) K.1 K.2.1 dc_La_law_680 rfl ?_
      exact ih28 (k + 1, T, v1, v2, cN + 0 + 0, sN + 0 + 0) _ _ _ (by show L - 6 * (k + 1) < L - 6 * k; omega) ⟨⟨by show 6 * (k + 1) ≤ 3078; omega, hT1, hT2, by show cN + 0 + 0 ≤ 24 + 5 * (k + 1); omega, by show sN + 0 + 0 ≤ 8088 + 32 * (k + 1); omega⟩, lv_sub hl [1, 2, 3, 0] rfl, hP, hD, hS⟩
    by_cases c43_7 : v1 = 7
    · skip
      refine lv_tableIn (off := 394) (tgt := 437) K.1 K.2.1 dc_La_law_43 (by rw [c43_7]; decide) (by rw [c43_7]; decide) (by rw [c43_7]; decide) rfl ?_
      refine lv_aload_n K.1 K.2.1 dc_La_law_437 rfl (lv_at hl 1 rfl) ?_
      obtain ⟨aK, aN, aB, aS, aL, aX, us, md, gi, su, sd, fK, fN, fB, fS, fL, fX, X, rfl, hsd, hI, hR⟩ := hX2
      obtain ⟨Lh0, Lr0, Lk0, eh, er, ek, hfp⟩ := hX1
      obtain ⟨fs0, hfs0⟩ := fp_rv hfp
      have hcw := fq_cutR (wc := u1) (wr := [(q2, .inr (12, [.int (nI S.rm), .int (fq_b sd), .int (nI S.sts.length), .ref aK, .ref aN, .int (nI S.iw), .int (nI S.ow), .int (fq_b S.ih), .int (fq_b S.oh), .ref aB, .int (nI S.ca), .int (nI us), .int (fq_b S.cl), .int (fq_b S.fl), .ref aS, .int (nI X.length), .ref aL, .ref aX, .int (nI md), .int (nI gi), .int (nI su), .int (nI S.ps), .int (nI S.cs)])), (aK, .inl (cI, 5, .inl fK)), (aN, .inl (cI, 25, .inl fN)), (aB, .inl (cI, 120, .inl fB)), (aS, .inl (cI, 120, .inl fS)), (aL, .inl (cI, 2300, .inl fL)), (aX, .inl (cI, 2300, .inl fX))]) (List.Perm.refl _) hP hD hS hA
      refine fq_ciR (wc := u1) (wr := [(q2, .inr (12, [.int (nI S.rm), .int (fq_b sd), .int (nI S.sts.length), .ref aK, .ref aN, .int (nI S.iw), .int (nI S.ow), .int (fq_b S.ih), .int (fq_b S.oh), .ref aB, .int (nI S.ca), .int (nI us), .int (fq_b S.cl), .int (fq_b S.fl), .ref aS, .int (nI X.length), .ref aL, .ref aX, .int (nI md), .int (nI gi), .int (nI su), .int (nI S.ps), .int (nI S.cs)])), (aK, .inl (cI, 5, .inl fK)), (aN, .inl (cI, 25, .inl fN)), (aB, .inl (cI, 120, .inl fB)), (aS, .inl (cI, 120, .inl fS)), (aL, .inl (cI, 2300, .inl fL)), (aX, .inl (cI, 2300, .inl fX))]) (fq_rV K hK hZ hS hcw (ct_FP_start l D cI cO tE q1 S.sts S.rs S.fl S.ps S.cs S.ca S.cl S.iw S.ih S.Lb Lh0 Lr0 S.rm S.ow S.oh Lk0 u1 hfp  _) yk_FP_start wd_497 wd_498 wd_496 0 hfs0 rfl rfl ⟨⟨rfl, rfl⟩, ⟨Nat.le_of_ble_eq_true rfl, Nat.le_of_ble_eq_true rfl⟩, ⟨show cN + 0 ≤ 600000 by omega, show sN + 0 ≤ 7302249 by omega⟩⟩ hl.1 rfl (Nat.le_of_ble_eq_true rfl) dc_La_law_438) hP hD hS hcw (List.Perm.refl _) (fun r1 v1 H locs hw1 hP hD hS => ?_)
      have hP : va_P D fq_cl (v1 ++ [(q2, .inr (12, [.int (nI S.rm), .int (fq_b sd), .int (nI S.sts.length), .ref aK, .ref aN, .int (nI S.iw), .int (nI S.ow), .int (fq_b S.ih), .int (fq_b S.oh), .ref aB, .int (nI S.ca), .int (nI us), .int (fq_b S.cl), .int (fq_b S.fl), .ref aS, .int (nI X.length), .ref aL, .ref aX, .int (nI md), .int (nI gi), .int (nI su), .int (nI S.ps), .int (nI S.cs)])), (aK, .inl (cI, 5, .inl fK)), (aN, .inl (cI, 25, .inl fN)), (aB, .inl (cI, 120, .inl fB)), (aS, .inl (cI, 120, .inl fS)), (aL, .inl (cI, 2300, .inl fL)), (aX, .inl (cI, 2300, .inl fX))]) _ := hP
      have hD : va_D A (v1 ++ [(q2, .inr (12, [.int (nI S.rm), .int (fq_b sd), .int (nI S.sts.length), .ref aK, .ref aN, .int (nI S.iw), .int (nI S.ow), .int (fq_b S.ih), .int (fq_b S.oh), .ref aB, .int (nI S.ca), .int (nI us), .int (fq_b S.cl), .int (fq_b S.fl), .ref aS, .int (nI X.length), .ref aL, .ref aX, .int (nI md), .int (nI gi), .int (nI su), .int (nI S.ps), .int (nI S.cs)])), (aK, .inl (cI, 5, .inl fK)), (aN, .inl (cI, 25, .inl fN)), (aB, .inl (cI, 120, .inl fB)), (aS, .inl (cI, 120, .inl fS)), (aL, .inl (cI, 2300, .inl fL)), (aX, .inl (cI, 2300, .inl fX))]) := hD
      refine lv_aload_n K.1 K.2.1 dc_La_law_441 rfl (lv_at hl 2 rfl) ?_
      have hcw := fq_cutR (wc := [(q2, .inr (12, [.int (nI S.rm), .int (fq_b sd), .int (nI S.sts.length), .ref aK, .ref aN, .int (nI S.iw), .int (nI S.ow), .int (fq_b S.ih), .int (fq_b S.oh), .ref aB, .int (nI S.ca), .int (nI us), .int (fq_b S.cl), .int (fq_b S.fl), .ref aS, .int (nI X.length), .ref aL, .ref aX, .int (nI md), .int (nI gi), .int (nI su), .int (nI S.ps), .int (nI S.cs)])), (aK, .inl (cI, 5, .inl fK)), (aN, .inl (cI, 25, .inl fN)), (aB, .inl (cI, 120, .inl fB)), (aS, .inl (cI, 120, .inl fS)), (aL, .inl (cI, 2300, .inl fL)), (aX, .inl (cI, 2300, .inl fX))]) (wr := v1) List.perm_append_comm hP hD hS hA
      refine fq_ciR (wc := [(q2, .inr (12, [.int (nI S.rm), .int (fq_b sd), .int (nI S.sts.length), .ref aK, .ref aN, .int (nI S.iw), .int (nI S.ow), .int (fq_b S.ih), .int (fq_b S.oh), .ref aB, .int (nI S.ca), .int (nI us), .int (fq_b S.cl), .int (fq_b S.fl), .ref aS, .int (nI X.length), .ref aL, .ref aX, .int (nI md), .int (nI gi), .int (nI su), .int (nI S.ps), .int (nI S.cs)])), (aK, .inl (cI, 5, .inl fK)), (aN, .inl (cI, 25, .inl fN)), (aB, .inl (cI, 120, .inl fB)), (aS, .inl (cI, 120, .inl fS)), (aL, .inl (cI, 2300, .inl fL)), (aX, .inl (cI, 2300, .inl fX))]) (wr := v1) (fq_rV K hK hZ hS hcw (ct_Mo_start l D cI cO tE q2 aK aN aB aS aL aX S.rm sd S.sts.length S.iw S.ow S.ih S.oh S.ca us S.cl S.fl X.length md gi su S.ps S.cs fK fN fB fS fL fX  _) yk_Mo_start wd_903 wd_904 wd_902 0 rfl rfl rfl ⟨⟨rfl, rfl⟩, ⟨Nat.le_of_ble_eq_true rfl, Nat.le_of_ble_eq_true rfl⟩, ⟨show cN + 0 + 0 ≤ 600000 by omega, show sN + 0 + 0 ≤ 7302249 by omega⟩⟩ hl.1 rfl (Nat.le_of_ble_eq_true rfl) dc_La_law_442) hP hD hS hcw List.perm_append_comm (fun r2 v2 H locs hw2 hP hD hS => ?_)
      have hP := fq_permP List.perm_append_comm hP
      have hD := fq_permD List.perm_append_comm hD
      obtain ⟨hrr, T, hT1, hT2⟩ := la_start eh er ek hfp hsd hI hR hw1 hw2
      have hP : va_P D fq_cl (v1 ++ v2) _ := hP
      have hD : va_D A (v1 ++ v2) := hD
      refine lv_icmp_eq (tgt := 677) K.1 K.2.1 dc_La_law_445 rfl (fun b445 => ?_) (fun b445 => absurd hrr b445)
      refine lv_iinc (v := nI (1 + 6 * (k + 1))) K.1 K.2.1 dc_La_law_677 hl (k := 3) rfl (by rw [show 1 + 6 * (k + 1) = (1 + 6 * k) + 6 by omega]; exact nI_add (1 + 6 * k) 6) (by decide) rfl (fun ls hl => ?_)
      have hl : lv_has ls 4 [(3, .int (nI (1 + 6 * (k + 1)))), (0, .ref b), (1, .ref q1), (2, .ref q2)] := hl
      refine lv_goto (tgt := 28) K.1 K.2.1 dc_La_law_680 rfl ?_
      exact ih28 (k + 1, T, v1, v2, cN + 0 + 0, sN + 0 + 0) _ _ _ (by show L - 6 * (k + 1) < L - 6 * k; omega) ⟨⟨by show 6 * (k + 1) ≤ 3078; omega, hT1, hT2, by show cN + 0 + 0 ≤ 24 + 5 * (k + 1); omega, by show sN + 0 + 0 ≤ 8088 + 32 * (k + 1); omega⟩, lv_sub hl [1, 2, 3, 0] rfl, hP, hD, hS⟩
    by_cases c43_8 : v1 = 8
    · skip
      refine lv_tableIn (off := 407) (tgt := 450) K.1 K.2.1 dc_La_law_43 (by rw [c43_8]; decide) (by rw [c43_8]; decide) (by rw [c43_8]; decide) rfl ?_
      refine lv_aload_n K.1 K.2.1 dc_La_law_450 rfl (lv_at hl 1 rfl) ?_
      obtain ⟨aK, aN, aB, aS, aL, aX, us, md, gi, su, sd, fK, fN, fB, fS, fL, fX, X, rfl, hsd, hI, hR⟩ := hX2
      obtain ⟨Lh0, Lr0, Lk0, eh, er, ek, hfp⟩ := hX1
      obtain ⟨fs0, hfs0⟩ := fp_rv hfp
      have hcw := fq_cutR (wc := u1) (wr := [(q2, .inr (12, [.int (nI S.rm), .int (fq_b sd), .int (nI S.sts.length), .ref aK, .ref aN, .int (nI S.iw), .int (nI S.ow), .int (fq_b S.ih), .int (fq_b S.oh), .ref aB, .int (nI S.ca), .int (nI us), .int (fq_b S.cl), .int (fq_b S.fl), .ref aS, .int (nI X.length), .ref aL, .ref aX, .int (nI md), .int (nI gi), .int (nI su), .int (nI S.ps), .int (nI S.cs)])), (aK, .inl (cI, 5, .inl fK)), (aN, .inl (cI, 25, .inl fN)), (aB, .inl (cI, 120, .inl fB)), (aS, .inl (cI, 120, .inl fS)), (aL, .inl (cI, 2300, .inl fL)), (aX, .inl (cI, 2300, .inl fX))]) (List.Perm.refl _) hP hD hS hA
      refine fq_ciR (wc := u1) (wr := [(q2, .inr (12, [.int (nI S.rm), .int (fq_b sd), .int (nI S.sts.length), .ref aK, .ref aN, .int (nI S.iw), .int (nI S.ow), .int (fq_b S.ih), .int (fq_b S.oh), .ref aB, .int (nI S.ca), .int (nI us), .int (fq_b S.cl), .int (fq_b S.fl), .ref aS, .int (nI X.length), .ref aL, .ref aX, .int (nI md), .int (nI gi), .int (nI su), .int (nI S.ps), .int (nI S.cs)])), (aK, .inl (cI, 5, .inl fK)), (aN, .inl (cI, 25, .inl fN)), (aB, .inl (cI, 120, .inl fB)), (aS, .inl (cI, 120, .inl fS)), (aL, .inl (cI, 2300, .inl fL)), (aX, .inl (cI, 2300, .inl fX))]) (fq_rV K hK hZ hS hcw (ct_FP_restart l D cI cO tE q1 S.sts S.rs S.fl S.ps S.cs S.ca S.cl S.iw S.ih S.Lb Lh0 Lr0 S.rm S.ow S.oh Lk0 u1 hfp  _) yk_FP_restart wd_538 wd_539 wd_537 0 hfs0 rfl rfl ⟨⟨rfl, rfl⟩, ⟨Nat.le_of_ble_eq_true rfl, Nat.le_of_ble_eq_true rfl⟩, ⟨show cN + 0 ≤ 600000 by omega, show sN + 0 ≤ 7302249 by omega⟩⟩ hl.1 rfl (Nat.le_of_ble_eq_true rfl) dc_La_law_451) hP hD hS hcw (List.Perm.refl _) (fun r1 v1 H locs hw1 hP hD hS => ?_)
      have hP : va_P D fq_cl (v1 ++ [(q2, .inr (12, [.int (nI S.rm), .int (fq_b sd), .int (nI S.sts.length), .ref aK, .ref aN, .int (nI S.iw), .int (nI S.ow), .int (fq_b S.ih), .int (fq_b S.oh), .ref aB, .int (nI S.ca), .int (nI us), .int (fq_b S.cl), .int (fq_b S.fl), .ref aS, .int (nI X.length), .ref aL, .ref aX, .int (nI md), .int (nI gi), .int (nI su), .int (nI S.ps), .int (nI S.cs)])), (aK, .inl (cI, 5, .inl fK)), (aN, .inl (cI, 25, .inl fN)), (aB, .inl (cI, 120, .inl fB)), (aS, .inl (cI, 120, .inl fS)), (aL, .inl (cI, 2300, .inl fL)), (aX, .inl (cI, 2300, .inl fX))]) _ := hP
      have hD : va_D A (v1 ++ [(q2, .inr (12, [.int (nI S.rm), .int (fq_b sd), .int (nI S.sts.length), .ref aK, .ref aN, .int (nI S.iw), .int (nI S.ow), .int (fq_b S.ih), .int (fq_b S.oh), .ref aB, .int (nI S.ca), .int (nI us), .int (fq_b S.cl), .int (fq_b S.fl), .ref aS, .int (nI X.length), .ref aL, .ref aX, .int (nI md), .int (nI gi), .int (nI su), .int (nI S.ps), .int (nI S.cs)])), (aK, .inl (cI, 5, .inl fK)), (aN, .inl (cI, 25, .inl fN)), (aB, .inl (cI, 120, .inl fB)), (aS, .inl (cI, 120, .inl fS)), (aL, .inl (cI, 2300, .inl fL)), (aX, .inl (cI, 2300, .inl fX))]) := hD
      refine lv_aload_n K.1 K.2.1 dc_La_law_454 rfl (lv_at hl 2 rfl) ?_
      have hcw := fq_cutR (wc := [(q2, .inr (12, [.int (nI S.rm), .int (fq_b sd), .int (nI S.sts.length), .ref aK, .ref aN, .int (nI S.iw), .int (nI S.ow), .int (fq_b S.ih), .int (fq_b S.oh), .ref aB, .int (nI S.ca), .int (nI us), .int (fq_b S.cl), .int (fq_b S.fl), .ref aS, .int (nI X.length), .ref aL, .ref aX, .int (nI md), .int (nI gi), .int (nI su), .int (nI S.ps), .int (nI S.cs)])), (aK, .inl (cI, 5, .inl fK)), (aN, .inl (cI, 25, .inl fN)), (aB, .inl (cI, 120, .inl fB)), (aS, .inl (cI, 120, .inl fS)), (aL, .inl (cI, 2300, .inl fL)), (aX, .inl (cI, 2300, .inl fX))]) (wr := v1) List.perm_append_comm hP hD hS hA
      refine fq_ciR (wc := [(q2, .inr (12, [.int (nI S.rm), .int (fq_b sd), .int (nI S.sts.length), .ref aK, .ref aN, .int (nI S.iw), .int (nI S.ow), .int (fq_b S.ih), .int (fq_b S.oh), .ref aB, .int (nI S.ca), .int (nI us), .int (fq_b S.cl), .int (fq_b S.fl), .ref aS, .int (nI X.length), .ref aL, .ref aX, .int (nI md), .int (nI gi), .int (nI su), .int (nI S.ps), .int (nI S.cs)])), (aK, .inl (cI, 5, .inl fK)), (aN, .inl (cI, 25, .inl fN)), (aB, .inl (cI, 120, .inl fB)), (aS, .inl (cI, 120, .inl fS)), (aL, .inl (cI, 2300, .inl fL)), (aX, .inl (cI, 2300, .inl fX))]) (wr := v1) (fq_rV K hK hZ hS hcw (ct_Mo_restart l D cI cO tE q2 aK aN aB aS aL aX S.rm sd S.sts.length S.iw S.ow S.ih S.oh S.ca us S.cl S.fl X.length md gi su S.ps S.cs fK fN fB fS fL fX  _) yk_Mo_restart wd_907 wd_908 wd_910 0 rfl rfl rfl ⟨⟨rfl, rfl⟩, ⟨Nat.le_of_ble_eq_true rfl, Nat.le_of_ble_eq_true rfl⟩, ⟨show cN + 0 + 0 ≤ 600000 by omega, show sN + 0 + 0 ≤ 7302249 by omega⟩⟩ hl.1 rfl (Nat.le_of_ble_eq_true rfl) dc_La_law_455) hP hD hS hcw List.perm_append_comm (fun r2 v2 H locs hw2 hP hD hS => ?_)
      have hP := fq_permP List.perm_append_comm hP
      have hD := fq_permD List.perm_append_comm hD
      obtain ⟨hrr, T, hT1, hT2⟩ := la_restart eh er ek hfp hsd hI hR hw1 hw2
      have hP : va_P D fq_cl (v1 ++ v2) _ := hP
      have hD : va_D A (v1 ++ v2) := hD
      refine lv_icmp_eq (tgt := 677) K.1 K.2.1 dc_La_law_458 rfl (fun b458 => ?_) (fun b458 => absurd hrr b458)
      refine lv_iinc (v := nI (1 + 6 * (k + 1))) K.1 K.2.1 dc_La_law_677 hl (k := 3) rfl (by rw [show 1 + 6 * (k + 1) = (1 + 6 * k) + 6 by omega]; exact nI_add (1 + 6 * k) 6) (by decide) rfl (fun ls hl => ?_)
      have hl : lv_has ls 4 [(3, .int (nI (1 + 6 * (k + 1)))), (0, .ref b), (1, .ref q1), (2, .ref q2)] := hl
      refine lv_goto (tgt := 28) K.1 K.2.1 dc_La_law_680 rfl ?_
      exact ih28 (k + 1, T, v1, v2, cN + 0 + 0, sN + 0 + 0) _ _ _ (by show L - 6 * (k + 1) < L - 6 * k; omega) ⟨⟨by show 6 * (k + 1) ≤ 3078; omega, hT1, hT2, by show cN + 0 + 0 ≤ 24 + 5 * (k + 1); omega, by show sN + 0 + 0 ≤ 8088 + 32 * (k + 1); omega⟩, lv_sub hl [1, 2, 3, 0] rfl, hP, hD, hS⟩
    by_cases c43_9 : v1 = 9
    · skip
      refine lv_tableIn (off := 420) (tgt := 463) K.1 K.2.1 dc_La_law_43 (by rw [c43_9]; decide) (by rw [c43_9]; decide) (by rw [c43_9]; decide) rfl ?_
      refine lv_aload_n K.1 K.2.1 dc_La_law_463 rfl (lv_at hl 1 rfl) ?_
      refine lv_aload_n K.1 K.2.1 dc_La_law_464 rfl (lv_at hl 0 rfl) ?_
      refine lv_iload_n K.1 K.2.1 dc_La_law_465 rfl (lv_at hl 3 rfl) ?_
      refine lv_iconst (v := 1) K.1 K.2.1 dc_La_law_466 (by decide) ?_
      refine lv_iadd K.1 K.2.1 dc_La_law_467 ?_
      refine fq_asi (y := nI (1 + 6 * k + 1)) (nI_add (1 + 6 * k) 1) ?_
      refine va_sld K.1 K.2.1 hX hbl hbA hS (vp_in_nI (show 1 + 6 * k + 1 < L by omega) hL31) dc_La_law_468 ?_
      refine fq_asi (y := xs (1 + 6 * k + 1)) (by rw [nI_clamp (show 1 + 6 * k + 1 < 2 ^ 31 by omega)]) ?_
      refine lv_aload_n K.1 K.2.1 dc_La_law_469 rfl (lv_at hl 0 rfl) ?_
      refine lv_iload_n K.1 K.2.1 dc_La_law_470 rfl (lv_at hl 3 rfl) ?_
      refine lv_iconst (v := 2) K.1 K.2.1 dc_La_law_471 (by decide) ?_
      refine lv_iadd K.1 K.2.1 dc_La_law_472 ?_
      refine fq_asi (y := nI (1 + 6 * k + 2)) (nI_add (1 + 6 * k) 2) ?_
      refine va_sld K.1 K.2.1 hX hbl hbA hS (vp_in_nI (show 1 + 6 * k + 2 < L by omega) hL31) dc_La_law_473 ?_
      refine fq_asi (y := xs (1 + 6 * k + 2)) (by rw [nI_clamp (show 1 + 6 * k + 2 < 2 ^ 31 by omega)]) ?_
      obtain ⟨aK, aN, aB, aS, aL, aX, us, md, gi, su, sd, fK, fN, fB, fS, fL, fX, X, rfl, hsd, hI, hR⟩ := hX2
      obtain ⟨Lh0, Lr0, Lk0, eh, er, ek, hfp⟩ := hX1
      obtain ⟨fs0, hfs0⟩ := fp_rv hfp
      have hcw := fq_cutR (wc := u1) (wr := [(q2, .inr (12, [.int (nI S.rm), .int (fq_b sd), .int (nI S.sts.length), .ref aK, .ref aN, .int (nI S.iw), .int (nI S.ow), .int (fq_b S.ih), .int (fq_b S.oh), .ref aB, .int (nI S.ca), .int (nI us), .int (fq_b S.cl), .int (fq_b S.fl), .ref aS, .int (nI X.length), .ref aL, .ref aX, .int (nI md), .int (nI gi), .int (nI su), .int (nI S.ps), .int (nI S.cs)])), (aK, .inl (cI, 5, .inl fK)), (aN, .inl (cI, 25, .inl fN)), (aB, .inl (cI, 120, .inl fB)), (aS, .inl (cI, 120, .inl fS)), (aL, .inl (cI, 2300, .inl fL)), (aX, .inl (cI, 2300, .inl fX))]) (List.Perm.refl _) hP hD hS hA
      refine fq_ciR (wc := u1) (wr := [(q2, .inr (12, [.int (nI S.rm), .int (fq_b sd), .int (nI S.sts.length), .ref aK, .ref aN, .int (nI S.iw), .int (nI S.ow), .int (fq_b S.ih), .int (fq_b S.oh), .ref aB, .int (nI S.ca), .int (nI us), .int (fq_b S.cl), .int (fq_b S.fl), .ref aS, .int (nI X.length), .ref aL, .ref aX, .int (nI md), .int (nI gi), .int (nI su), .int (nI S.ps), .int (nI S.cs)])), (aK, .inl (cI, 5, .inl fK)), (aN, .inl (cI, 25, .inl fN)), (aB, .inl (cI, 120, .inl fB)), (aS, .inl (cI, 120, .inl fS)), (aL, .inl (cI, 2300, .inl fL)), (aX, .inl (cI, 2300, .inl fX))]) (fq_rV K hK hZ hS hcw (ct_FP_bytes l D cI cO tE q1 S.sts S.rs S.fl S.ps S.cs S.ca S.cl S.iw S.ih S.Lb Lh0 Lr0 S.rm S.ow S.oh Lk0 u1 hfp (xs (1 + 6 * k + 1)) (xs (1 + 6 * k + 2)) _) yk_FP_bytes wd_542 wd_543 wd_541 0 hfs0 rfl rfl ⟨⟨rfl, rfl⟩, ⟨Nat.le_of_ble_eq_true rfl, Nat.le_of_ble_eq_true rfl⟩, ⟨show cN + 0 ≤ 600000 by omega, show sN + 0 ≤ 7302249 by omega⟩⟩ hl.1 rfl (Nat.le_of_ble_eq_true rfl) dc_La_law_474) hP hD hS hcw (List.Perm.refl _) (fun r1 v1 H locs hw1 hP hD hS => ?_)
      have hP : va_P D fq_cl (v1 ++ [(q2, .inr (12, [.int (nI S.rm), .int (fq_b sd), .int (nI S.sts.length), .ref aK, .ref aN, .int (nI S.iw), .int (nI S.ow), .int (fq_b S.ih), .int (fq_b S.oh), .ref aB, .int (nI S.ca), .int (nI us), .int (fq_b S.cl), .int (fq_b S.fl), .ref aS, .int (nI X.length), .ref aL, .ref aX, .int (nI md), .int (nI gi), .int (nI su), .int (nI S.ps), .int (nI S.cs)])), (aK, .inl (cI, 5, .inl fK)), (aN, .inl (cI, 25, .inl fN)), (aB, .inl (cI, 120, .inl fB)), (aS, .inl (cI, 120, .inl fS)), (aL, .inl (cI, 2300, .inl fL)), (aX, .inl (cI, 2300, .inl fX))]) _ := hP
      have hD : va_D A (v1 ++ [(q2, .inr (12, [.int (nI S.rm), .int (fq_b sd), .int (nI S.sts.length), .ref aK, .ref aN, .int (nI S.iw), .int (nI S.ow), .int (fq_b S.ih), .int (fq_b S.oh), .ref aB, .int (nI S.ca), .int (nI us), .int (fq_b S.cl), .int (fq_b S.fl), .ref aS, .int (nI X.length), .ref aL, .ref aX, .int (nI md), .int (nI gi), .int (nI su), .int (nI S.ps), .int (nI S.cs)])), (aK, .inl (cI, 5, .inl fK)), (aN, .inl (cI, 25, .inl fN)), (aB, .inl (cI, 120, .inl fB)), (aS, .inl (cI, 120, .inl fS)), (aL, .inl (cI, 2300, .inl fL)), (aX, .inl (cI, 2300, .inl fX))]) := hD
      refine lv_aload_n K.1 K.2.1 dc_La_law_477 rfl (lv_at hl 2 rfl) ?_
      refine lv_aload_n K.1 K.2.1 dc_La_law_478 rfl (lv_at hl 0 rfl) ?_
      refine lv_iload_n K.1 K.2.1 dc_La_law_479 rfl (lv_at hl 3 rfl) ?_
      refine lv_iconst (v := 1) K.1 K.2.1 dc_La_law_480 (by decide) ?_
      refine lv_iadd K.1 K.2.1 dc_La_law_481 ?_
      refine fq_asi (y := nI (1 + 6 * k + 1)) (nI_add (1 + 6 * k) 1) ?_
      refine va_sld K.1 K.2.1 hX hbl hbA hS (vp_in_nI (show 1 + 6 * k + 1 < L by omega) hL31) dc_La_law_482 ?_
      refine fq_asi (y := xs (1 + 6 * k + 1)) (by rw [nI_clamp (show 1 + 6 * k + 1 < 2 ^ 31 by omega)]) ?_
      refine lv_aload_n K.1 K.2.1 dc_La_law_483 rfl (lv_at hl 0 rfl) ?_
      refine lv_iload_n K.1 K.2.1 dc_La_law_484 rfl (lv_at hl 3 rfl) ?_
      refine lv_iconst (v := 2) K.1 K.2.1 dc_La_law_485 (by decide) ?_
      refine lv_iadd K.1 K.2.1 dc_La_law_486 ?_
      refine fq_asi (y := nI (1 + 6 * k + 2)) (nI_add (1 + 6 * k) 2) ?_
      refine va_sld K.1 K.2.1 hX hbl hbA hS (vp_in_nI (show 1 + 6 * k + 2 < L by omega) hL31) dc_La_law_487 ?_
      refine fq_asi (y := xs (1 + 6 * k + 2)) (by rw [nI_clamp (show 1 + 6 * k + 2 < 2 ^ 31 by omega)]) ?_
      have hcw := fq_cutR (wc := [(q2, .inr (12, [.int (nI S.rm), .int (fq_b sd), .int (nI S.sts.length), .ref aK, .ref aN, .int (nI S.iw), .int (nI S.ow), .int (fq_b S.ih), .int (fq_b S.oh), .ref aB, .int (nI S.ca), .int (nI us), .int (fq_b S.cl), .int (fq_b S.fl), .ref aS, .int (nI X.length), .ref aL, .ref aX, .int (nI md), .int (nI gi), .int (nI su), .int (nI S.ps), .int (nI S.cs)])), (aK, .inl (cI, 5, .inl fK)), (aN, .inl (cI, 25, .inl fN)), (aB, .inl (cI, 120, .inl fB)), (aS, .inl (cI, 120, .inl fS)), (aL, .inl (cI, 2300, .inl fL)), (aX, .inl (cI, 2300, .inl fX))]) (wr := v1) List.perm_append_comm hP hD hS hA
      refine fq_ciR (wc := [(q2, .inr (12, [.int (nI S.rm), .int (fq_b sd), .int (nI S.sts.length), .ref aK, .ref aN, .int (nI S.iw), .int (nI S.ow), .int (fq_b S.ih), .int (fq_b S.oh), .ref aB, .int (nI S.ca), .int (nI us), .int (fq_b S.cl), .int (fq_b S.fl), .ref aS, .int (nI X.length), .ref aL, .ref aX, .int (nI md), .int (nI gi), .int (nI su), .int (nI S.ps), .int (nI S.cs)])), (aK, .inl (cI, 5, .inl fK)), (aN, .inl (cI, 25, .inl fN)), (aB, .inl (cI, 120, .inl fB)), (aS, .inl (cI, 120, .inl fS)), (aL, .inl (cI, 2300, .inl fL)), (aX, .inl (cI, 2300, .inl fX))]) (wr := v1) (fq_rV K hK hZ hS hcw (ct_Mo_bytes l D cI cO tE q2 aK aN aB aS aL aX S.rm sd S.sts.length S.iw S.ow S.ih S.oh S.ca us S.cl S.fl X.length md gi su S.ps S.cs fK fN fB fS fL fX (xs (1 + 6 * k + 1)) (xs (1 + 6 * k + 2)) hI.1.2.2.1 _) yk_Mo_bytes wd_912 wd_913 wd_911 0 rfl rfl rfl ⟨⟨rfl, rfl⟩, ⟨Nat.le_of_ble_eq_true rfl, Nat.le_of_ble_eq_true rfl⟩, ⟨show cN + 0 + 0 ≤ 600000 by omega, show sN + 0 + 0 ≤ 7302249 by omega⟩⟩ hl.1 rfl (Nat.le_of_ble_eq_true rfl) dc_La_law_488) hP hD hS hcw List.perm_append_comm (fun r2 v2 H locs hw2 hP hD hS => ?_)
      have hP := fq_permP List.perm_append_comm hP
      have hD := fq_permD List.perm_append_comm hD
      obtain ⟨hrr, T, hT1, hT2⟩ := la_bytes eh er ek hfp hsd hI hR hw1 hw2
      have hP : va_P D fq_cl (v1 ++ v2) _ := hP
      have hD : va_D A (v1 ++ v2) := hD
      refine lv_icmp_eq (tgt := 677) K.1 K.2.1 dc_La_law_491 rfl (fun b491 => ?_) (fun b491 => absurd hrr b491)
      refine lv_iinc (v := nI (1 + 6 * (k + 1))) K.1 K.2.1 dc_La_law_677 hl (k := 3) rfl (by rw [show 1 + 6 * (k + 1) = (1 + 6 * k) + 6 by omega]; exact nI_add (1 + 6 * k) 6) (by decide) rfl (fun ls hl => ?_)
      have hl : lv_has ls 4 [(3, .int (nI (1 + 6 * (k + 1)))), (0, .ref b), (1, .ref q1), (2, .ref q2)] := hl
      refine lv_goto (tgt := 28) K.1 K.2.1 dc_La_law_680 rfl ?_
      exact ih28 (k + 1, T, v1, v2, cN + 0 + 0, sN + 0 + 0) _ _ _ (by show L - 6 * (k + 1) < L - 6 * k; omega) ⟨⟨by show 6 * (k + 1) ≤ 3078; omega, hT1, hT2, by show cN + 0 + 0 ≤ 24 + 5 * (k + 1); omega, by show sN + 0 + 0 ≤ 8088 + 32 * (k + 1); omega⟩, lv_sub hl [1, 2, 3, 0] rfl, hP, hD, hS⟩
    by_cases c43_10 : v1 = 10
    · skip
      refine lv_tableIn (off := 453) (tgt := 496) K.1 K.2.1 dc_La_law_43 (by rw [c43_10]; decide) (by rw [c43_10]; decide) (by rw [c43_10]; decide) rfl ?_
      refine lv_aload_n K.1 K.2.1 dc_La_law_496 rfl (lv_at hl 1 rfl) ?_
      obtain ⟨aK, aN, aB, aS, aL, aX, us, md, gi, su, sd, fK, fN, fB, fS, fL, fX, X, rfl, hsd, hI, hR⟩ := hX2
      obtain ⟨Lh0, Lr0, Lk0, eh, er, ek, hfp⟩ := hX1
      obtain ⟨fs0, hfs0⟩ := fp_rv hfp
      have hcw := fq_cutR (wc := u1) (wr := [(q2, .inr (12, [.int (nI S.rm), .int (fq_b sd), .int (nI S.sts.length), .ref aK, .ref aN, .int (nI S.iw), .int (nI S.ow), .int (fq_b S.ih), .int (fq_b S.oh), .ref aB, .int (nI S.ca), .int (nI us), .int (fq_b S.cl), .int (fq_b S.fl), .ref aS, .int (nI X.length), .ref aL, .ref aX, .int (nI md), .int (nI gi), .int (nI su), .int (nI S.ps), .int (nI S.cs)])), (aK, .inl (cI, 5, .inl fK)), (aN, .inl (cI, 25, .inl fN)), (aB, .inl (cI, 120, .inl fB)), (aS, .inl (cI, 120, .inl fS)), (aL, .inl (cI, 2300, .inl fL)), (aX, .inl (cI, 2300, .inl fX))]) (List.Perm.refl _) hP hD hS hA
      refine fq_ciR (wc := u1) (wr := [(q2, .inr (12, [.int (nI S.rm), .int (fq_b sd), .int (nI S.sts.length), .ref aK, .ref aN, .int (nI S.iw), .int (nI S.ow), .int (fq_b S.ih), .int (fq_b S.oh), .ref aB, .int (nI S.ca), .int (nI us), .int (fq_b S.cl), .int (fq_b S.fl), .ref aS, .int (nI X.length), .ref aL, .ref aX, .int (nI md), .int (nI gi), .int (nI su), .int (nI S.ps), .int (nI S.cs)])), (aK, .inl (cI, 5, .inl fK)), (aN, .inl (cI, 25, .inl fN)), (aB, .inl (cI, 120, .inl fB)), (aS, .inl (cI, 120, .inl fS)), (aL, .inl (cI, 2300, .inl fL)), (aX, .inl (cI, 2300, .inl fX))]) (fq_rV K hK hZ hS hcw (ct_FP_close l D cI cO tE q1 S.sts S.rs S.fl S.ps S.cs S.ca S.cl S.iw S.ih S.Lb Lh0 Lr0 S.rm S.ow S.oh Lk0 u1 hfp  _) yk_FP_close wd_562 wd_563 wd_561 0 hfs0 rfl rfl ⟨⟨rfl, rfl⟩, ⟨Nat.le_of_ble_eq_true rfl, Nat.le_of_ble_eq_true rfl⟩, ⟨show cN + 0 ≤ 600000 by omega, show sN + 0 ≤ 7302249 by omega⟩⟩ hl.1 rfl (Nat.le_of_ble_eq_true rfl) dc_La_law_497) hP hD hS hcw (List.Perm.refl _) (fun r1 v1 H locs hw1 hP hD hS => ?_)
      have hP : va_P D fq_cl (v1 ++ [(q2, .inr (12, [.int (nI S.rm), .int (fq_b sd), .int (nI S.sts.length), .ref aK, .ref aN, .int (nI S.iw), .int (nI S.ow), .int (fq_b S.ih), .int (fq_b S.oh), .ref aB, .int (nI S.ca), .int (nI us), .int (fq_b S.cl), .int (fq_b S.fl), .ref aS, .int (nI X.length), .ref aL, .ref aX, .int (nI md), .int (nI gi), .int (nI su), .int (nI S.ps), .int (nI S.cs)])), (aK, .inl (cI, 5, .inl fK)), (aN, .inl (cI, 25, .inl fN)), (aB, .inl (cI, 120, .inl fB)), (aS, .inl (cI, 120, .inl fS)), (aL, .inl (cI, 2300, .inl fL)), (aX, .inl (cI, 2300, .inl fX))]) _ := hP
      have hD : va_D A (v1 ++ [(q2, .inr (12, [.int (nI S.rm), .int (fq_b sd), .int (nI S.sts.length), .ref aK, .ref aN, .int (nI S.iw), .int (nI S.ow), .int (fq_b S.ih), .int (fq_b S.oh), .ref aB, .int (nI S.ca), .int (nI us), .int (fq_b S.cl), .int (fq_b S.fl), .ref aS, .int (nI X.length), .ref aL, .ref aX, .int (nI md), .int (nI gi), .int (nI su), .int (nI S.ps), .int (nI S.cs)])), (aK, .inl (cI, 5, .inl fK)), (aN, .inl (cI, 25, .inl fN)), (aB, .inl (cI, 120, .inl fB)), (aS, .inl (cI, 120, .inl fS)), (aL, .inl (cI, 2300, .inl fL)), (aX, .inl (cI, 2300, .inl fX))]) := hD
      refine lv_aload_n K.1 K.2.1 dc_La_law_500 rfl (lv_at hl 2 rfl) ?_
      have hcw := fq_cutR (wc := [(q2, .inr (12, [.int (nI S.rm), .int (fq_b sd), .int (nI S.sts.length), .ref aK, .ref aN, .int (nI S.iw), .int (nI S.ow), .int (fq_b S.ih), .int (fq_b S.oh), .ref aB, .int (nI S.ca), .int (nI us), .int (fq_b S.cl), .int (fq_b S.fl), .ref aS, .int (nI X.length), .ref aL, .ref aX, .int (nI md), .int (nI gi), .int (nI su), .int (nI S.ps), .int (nI S.cs)])), (aK, .inl (cI, 5, .inl fK)), (aN, .inl (cI, 25, .inl fN)), (aB, .inl (cI, 120, .inl fB)), (aS, .inl (cI, 120, .inl fS)), (aL, .inl (cI, 2300, .inl fL)), (aX, .inl (cI, 2300, .inl fX))]) (wr := v1) List.perm_append_comm hP hD hS hA
      refine fq_ciR (wc := [(q2, .inr (12, [.int (nI S.rm), .int (fq_b sd), .int (nI S.sts.length), .ref aK, .ref aN, .int (nI S.iw), .int (nI S.ow), .int (fq_b S.ih), .int (fq_b S.oh), .ref aB, .int (nI S.ca), .int (nI us), .int (fq_b S.cl), .int (fq_b S.fl), .ref aS, .int (nI X.length), .ref aL, .ref aX, .int (nI md), .int (nI gi), .int (nI su), .int (nI S.ps), .int (nI S.cs)])), (aK, .inl (cI, 5, .inl fK)), (aN, .inl (cI, 25, .inl fN)), (aB, .inl (cI, 120, .inl fB)), (aS, .inl (cI, 120, .inl fS)), (aL, .inl (cI, 2300, .inl fL)), (aX, .inl (cI, 2300, .inl fX))]) (wr := v1) (fq_rV K hK hZ hS hcw (ct_Mo_close l D cI cO tE q2 aK aN aB aS aL aX S.rm sd S.sts.length S.iw S.ow S.ih S.oh S.ca us S.cl S.fl X.length md gi su S.ps S.cs fK fN fB fS fL fX  _) yk_Mo_close wd_916 wd_917 wd_915 0 rfl rfl rfl ⟨⟨rfl, rfl⟩, ⟨Nat.le_of_ble_eq_true rfl, Nat.le_of_ble_eq_true rfl⟩, ⟨show cN + 0 + 0 ≤ 600000 by omega, show sN + 0 + 0 ≤ 7302249 by omega⟩⟩ hl.1 rfl (Nat.le_of_ble_eq_true rfl) dc_La_law_501) hP hD hS hcw List.perm_append_comm (fun r2 v2 H locs hw2 hP hD hS => ?_)
      have hP := fq_permP List.perm_append_comm hP
      have hD := fq_permD List.perm_append_comm hD
      obtain ⟨hrr, T, hT1, hT2⟩ := la_close eh er ek hfp hsd hI hR hw1 hw2
      have hP : va_P D fq_cl (v1 ++ v2) _ := hP
      have hD : va_D A (v1 ++ v2) := hD
      refine lv_icmp_eq (tgt := 677) K.1 K.2.1 dc_La_law_504 rfl (fun b504 => ?_) (fun b504 => absurd hrr b504)
      refine lv_iinc (v := nI (1 + 6 * (k + 1))) K.1 K.2.1 dc_La_law_677 hl (k := 3) rfl (by rw [show 1 + 6 * (k + 1) = (1 + 6 * k) + 6 by omega]; exact nI_add (1 + 6 * k) 6) (by decide) rfl (fun ls hl => ?_)
      have hl : lv_has ls 4 [(3, .int (nI (1 + 6 * (k + 1)))), (0, .ref b), (1, .ref q1), (2, .ref q2)] := hl
      refine lv_goto (tgt := 28) K.1 K.2.1 dc_La_law_680 rfl ?_
      exact ih28 (k + 1, T, v1, v2, cN + 0 + 0, sN + 0 + 0) _ _ _ (by show L - 6 * (k + 1) < L - 6 * k; omega) ⟨⟨by show 6 * (k + 1) ≤ 3078; omega, hT1, hT2, by show cN + 0 + 0 ≤ 24 + 5 * (k + 1); omega, by show sN + 0 + 0 ≤ 8088 + 32 * (k + 1); omega⟩, lv_sub hl [1, 2, 3, 0] rfl, hP, hD, hS⟩
    by_cases c43_11 : v1 = 11
    · skip
      refine lv_tableIn (off := 466) (tgt := 509) K.1 K.2.1 dc_La_law_43 (by rw [c43_11]; decide) (by rw [c43_11]; decide) (by rw [c43_11]; decide) rfl ?_
      refine lv_aload_n K.1 K.2.1 dc_La_law_509 rfl (lv_at hl 1 rfl) ?_
      refine lv_aload_n K.1 K.2.1 dc_La_law_510 rfl (lv_at hl 0 rfl) ?_
      refine lv_iload_n K.1 K.2.1 dc_La_law_511 rfl (lv_at hl 3 rfl) ?_
      refine lv_iconst (v := 1) K.1 K.2.1 dc_La_law_512 (by decide) ?_
      refine lv_iadd K.1 K.2.1 dc_La_law_513 ?_
      refine fq_asi (y := nI (1 + 6 * k + 1)) (nI_add (1 + 6 * k) 1) ?_
      refine va_sld K.1 K.2.1 hX hbl hbA hS (vp_in_nI (show 1 + 6 * k + 1 < L by omega) hL31) dc_La_law_514 ?_
      refine fq_asi (y := xs (1 + 6 * k + 1)) (by rw [nI_clamp (show 1 + 6 * k + 1 < 2 ^ 31 by omega)]) ?_
      have hJ := mo_J hX2
      obtain ⟨Lh0, Lr0, Lk0, eh, er, ek, hfp⟩ := id hX1
      obtain ⟨fs0, hfs0⟩ := fp_rv hfp
      have hcw := fq_cutR (wc := u1) (wr := u2) (List.Perm.refl _) hP hD hS hA
      refine fq_ciR (wc := u1) (wr := u2) (fq_rV K hK hZ hS hcw (ct_FP_produce l D cI cO tE q1 S u1 hX1 (xs (1 + 6 * k + 1)) st_J st_Jp (fun S T h e => (st_Ps h e).1) hJ _) yk_FP_produce wd_566 wd_567 wd_565 0 hfs0 rfl rfl ⟨⟨rfl, rfl⟩, ⟨Nat.le_of_ble_eq_true rfl, Nat.le_of_ble_eq_true rfl⟩, ⟨show cN + 0 ≤ 600000 by omega, show sN + 0 ≤ 7302249 by omega⟩⟩ hl.1 rfl (Nat.le_of_ble_eq_true rfl) dc_La_law_515) hP hD hS hcw (List.Perm.refl _) (fun r1 v1 H locs hw1 hP hD hS => ?_)
      have hP : va_P D fq_cl (v1 ++ u2) _ := hP
      have hD : va_D A (v1 ++ u2) := hD
      refine lv_aload_n K.1 K.2.1 dc_La_law_518 rfl (lv_at hl 2 rfl) ?_
      refine lv_aload_n K.1 K.2.1 dc_La_law_519 rfl (lv_at hl 0 rfl) ?_
      refine lv_iload_n K.1 K.2.1 dc_La_law_520 rfl (lv_at hl 3 rfl) ?_
      refine lv_iconst (v := 1) K.1 K.2.1 dc_La_law_521 (by decide) ?_
      refine lv_iadd K.1 K.2.1 dc_La_law_522 ?_
      refine fq_asi (y := nI (1 + 6 * k + 1)) (nI_add (1 + 6 * k) 1) ?_
      refine va_sld K.1 K.2.1 hX hbl hbA hS (vp_in_nI (show 1 + 6 * k + 1 < L by omega) hL31) dc_La_law_523 ?_
      refine fq_asi (y := xs (1 + 6 * k + 1)) (by rw [nI_clamp (show 1 + 6 * k + 1 < 2 ^ 31 by omega)]) ?_
      obtain ⟨fs2, hfs2⟩ := mo_rcv hX2
      have hcw := fq_cutR (wc := u2) (wr := v1) List.perm_append_comm hP hD hS hA
      refine fq_ciR (wc := u2) (wr := v1) (fq_rV K hK hZ hS hcw (ct_Mo_produce l D cI cO tE q2 S u2 hX2 (xs (1 + 6 * k + 1)) _) yk_Mo_produce wd_920 wd_921 wd_919 0 hfs2 rfl rfl ⟨⟨rfl, rfl⟩, ⟨Nat.le_of_ble_eq_true rfl, Nat.le_of_ble_eq_true rfl⟩, ⟨show cN + 0 + 0 ≤ 600000 by omega, show sN + 0 + 0 ≤ 7302249 by omega⟩⟩ hl.1 rfl (Nat.le_of_ble_eq_true rfl) dc_La_law_524) hP hD hS hcw List.perm_append_comm (fun r2 v2 H locs hw2 hP hD hS => ?_)
      have hP := fq_permP List.perm_append_comm hP
      have hD := fq_permD List.perm_append_comm hD
      obtain ⟨hrr, T, hT1, hT2⟩ := la_produce hJ hw1 hw2
      have hP : va_P D fq_cl (v1 ++ v2) _ := hP
      have hD : va_D A (v1 ++ v2) := hD
      refine lv_icmp_eq (tgt := 677) K.1 K.2.1 dc_La_law_527 rfl (fun b527 => ?_) (fun b527 => absurd hrr b527)
      refine lv_iinc (v := nI (1 + 6 * (k + 1))) K.1 K.2.1 dc_La_law_677 hl (k := 3) rfl (by rw [show 1 + 6 * (k + 1) = (1 + 6 * k) + 6 by omega]; exact nI_add (1 + 6 * k) 6) (by decide) rfl (fun ls hl => ?_)
      have hl : lv_has ls 4 [(3, .int (nI (1 + 6 * (k + 1)))), (0, .ref b), (1, .ref q1), (2, .ref q2)] := hl
      refine lv_goto (tgt := 28) K.1 K.2.1 dc_La_law_680 rfl ?_
      exact ih28 (k + 1, T, v1, v2, cN + 0 + 0, sN + 0 + 0) _ _ _ (by show L - 6 * (k + 1) < L - 6 * k; omega) ⟨⟨by show 6 * (k + 1) ≤ 3078; omega, hT1, hT2, by show cN + 0 + 0 ≤ 24 + 5 * (k + 1); omega, by show sN + 0 + 0 ≤ 8088 + 32 * (k + 1); omega⟩, lv_sub hl [1, 2, 3, 0] rfl, hP, hD, hS⟩
    by_cases c43_12 : v1 = 12
    · skip
      refine lv_tableIn (off := 489) (tgt := 532) K.1 K.2.1 dc_La_law_43 (by rw [c43_12]; decide) (by rw [c43_12]; decide) (by rw [c43_12]; decide) rfl ?_
      refine lv_aload_n K.1 K.2.1 dc_La_law_532 rfl (lv_at hl 1 rfl) ?_
      refine lv_aload_n K.1 K.2.1 dc_La_law_533 rfl (lv_at hl 0 rfl) ?_
      refine lv_iload_n K.1 K.2.1 dc_La_law_534 rfl (lv_at hl 3 rfl) ?_
      refine lv_iconst (v := 1) K.1 K.2.1 dc_La_law_535 (by decide) ?_
      refine lv_iadd K.1 K.2.1 dc_La_law_536 ?_
      refine fq_asi (y := nI (1 + 6 * k + 1)) (nI_add (1 + 6 * k) 1) ?_
      refine va_sld K.1 K.2.1 hX hbl hbA hS (vp_in_nI (show 1 + 6 * k + 1 < L by omega) hL31) dc_La_law_537 ?_
      refine fq_asi (y := xs (1 + 6 * k + 1)) (by rw [nI_clamp (show 1 + 6 * k + 1 < 2 ^ 31 by omega)]) ?_
      have hJ := mo_J hX2
      obtain ⟨Lh0, Lr0, Lk0, eh, er, ek, hfp⟩ := id hX1
      obtain ⟨fs0, hfs0⟩ := fp_rv hfp
      have hcw := fq_cutR (wc := u1) (wr := u2) (List.Perm.refl _) hP hD hS hA
      refine fq_ciR (wc := u1) (wr := u2) (fq_rV K hK hZ hS hcw (ct_FP_consume l D cI cO tE q1 S u1 hX1 (xs (1 + 6 * k + 1)) _) yk_FP_consume wd_708 wd_709 wd_707 0 hfs0 rfl rfl ⟨⟨rfl, rfl⟩, ⟨Nat.le_of_ble_eq_true rfl, Nat.le_of_ble_eq_true rfl⟩, ⟨show cN + 0 ≤ 600000 by omega, show sN + 0 ≤ 7302249 by omega⟩⟩ hl.1 rfl (Nat.le_of_ble_eq_true rfl) dc_La_law_538) hP hD hS hcw (List.Perm.refl _) (fun r1 v1 H locs hw1 hP hD hS => ?_)
      have hP : va_P D fq_cl (v1 ++ u2) _ := hP
      have hD : va_D A (v1 ++ u2) := hD
      refine lv_aload_n K.1 K.2.1 dc_La_law_541 rfl (lv_at hl 2 rfl) ?_
      refine lv_aload_n K.1 K.2.1 dc_La_law_542 rfl (lv_at hl 0 rfl) ?_
      refine lv_iload_n K.1 K.2.1 dc_La_law_543 rfl (lv_at hl 3 rfl) ?_
      refine lv_iconst (v := 1) K.1 K.2.1 dc_La_law_544 (by decide) ?_
      refine lv_iadd K.1 K.2.1 dc_La_law_545 ?_
      refine fq_asi (y := nI (1 + 6 * k + 1)) (nI_add (1 + 6 * k) 1) ?_
      refine va_sld K.1 K.2.1 hX hbl hbA hS (vp_in_nI (show 1 + 6 * k + 1 < L by omega) hL31) dc_La_law_546 ?_
      refine fq_asi (y := xs (1 + 6 * k + 1)) (by rw [nI_clamp (show 1 + 6 * k + 1 < 2 ^ 31 by omega)]) ?_
      obtain ⟨fs2, hfs2⟩ := mo_rcv hX2
      have hcw := fq_cutR (wc := u2) (wr := v1) List.perm_append_comm hP hD hS hA
      refine fq_ciR (wc := u2) (wr := v1) (fq_rV K hK hZ hS hcw (ct_Mo_consume l D cI cO tE q2 S u2 hX2 (xs (1 + 6 * k + 1)) _) yk_Mo_consume wd_969 wd_970 wd_968 0 hfs2 rfl rfl ⟨⟨rfl, rfl⟩, ⟨Nat.le_of_ble_eq_true rfl, Nat.le_of_ble_eq_true rfl⟩, ⟨show cN + 0 + 0 ≤ 600000 by omega, show sN + 0 + 0 ≤ 7302249 by omega⟩⟩ hl.1 rfl (Nat.le_of_ble_eq_true rfl) dc_La_law_547) hP hD hS hcw List.perm_append_comm (fun r2 v2 H locs hw2 hP hD hS => ?_)
      have hP := fq_permP List.perm_append_comm hP
      have hD := fq_permD List.perm_append_comm hD
      obtain ⟨hrr, T, hT1, hT2⟩ := la_consume hJ hw1 hw2
      have hP : va_P D fq_cl (v1 ++ v2) _ := hP
      have hD : va_D A (v1 ++ v2) := hD
      refine lv_icmp_eq (tgt := 677) K.1 K.2.1 dc_La_law_550 rfl (fun b550 => ?_) (fun b550 => absurd hrr b550)
      refine lv_iinc (v := nI (1 + 6 * (k + 1))) K.1 K.2.1 dc_La_law_677 hl (k := 3) rfl (by rw [show 1 + 6 * (k + 1) = (1 + 6 * k) + 6 by omega]; exact nI_add (1 + 6 * k) 6) (by decide) rfl (fun ls hl => ?_)
      have hl : lv_has ls 4 [(3, .int (nI (1 + 6 * (k + 1)))), (0, .ref b), (1, .ref q1), (2, .ref q2)] := hl
      refine lv_goto (tgt := 28) K.1 K.2.1 dc_La_law_680 rfl ?_
      exact ih28 (k + 1, T, v1, v2, cN + 0 + 0, sN + 0 + 0) _ _ _ (by show L - 6 * (k + 1) < L - 6 * k; omega) ⟨⟨by show 6 * (k + 1) ≤ 3078; omega, hT1, hT2, by show cN + 0 + 0 ≤ 24 + 5 * (k + 1); omega, by show sN + 0 + 0 ≤ 8088 + 32 * (k + 1); omega⟩, lv_sub hl [1, 2, 3, 0] rfl, hP, hD, hS⟩
    by_cases c43_13 : v1 = 13
    · skip
      refine lv_tableIn (off := 512) (tgt := 555) K.1 K.2.1 dc_La_law_43 (by rw [c43_13]; decide) (by rw [c43_13]; decide) (by rw [c43_13]; decide) rfl ?_
      refine lv_aload_n K.1 K.2.1 dc_La_law_555 rfl (lv_at hl 1 rfl) ?_
      refine lv_aload_n K.1 K.2.1 dc_La_law_556 rfl (lv_at hl 0 rfl) ?_
      refine lv_iload_n K.1 K.2.1 dc_La_law_557 rfl (lv_at hl 3 rfl) ?_
      refine lv_iconst (v := 1) K.1 K.2.1 dc_La_law_558 (by decide) ?_
      refine lv_iadd K.1 K.2.1 dc_La_law_559 ?_
      refine fq_asi (y := nI (1 + 6 * k + 1)) (nI_add (1 + 6 * k) 1) ?_
      refine va_sld K.1 K.2.1 hX hbl hbA hS (vp_in_nI (show 1 + 6 * k + 1 < L by omega) hL31) dc_La_law_560 ?_
      refine fq_asi (y := xs (1 + 6 * k + 1)) (by rw [nI_clamp (show 1 + 6 * k + 1 < 2 ^ 31 by omega)]) ?_
      refine lv_if_eq (tgt := 568) K.1 K.2.1 dc_La_law_561 rfl (fun b561 => ?_) (fun b561 => ?_)
      · skip
        refine lv_iconst (v := 0) K.1 K.2.1 dc_La_law_568 (by decide) ?_
        refine fq_asi (y := fq_b false) rfl ?_
        obtain ⟨aK, aN, aB, aS, aL, aX, us, md, gi, su, sd, fK, fN, fB, fS, fL, fX, X, rfl, hsd, hI, hR⟩ := hX2
        obtain ⟨Lh0, Lr0, Lk0, eh, er, ek, hfp⟩ := hX1
        obtain ⟨fs0, hfs0⟩ := fp_rv hfp
        have hcw := fq_cutR (wc := u1) (wr := [(q2, .inr (12, [.int (nI S.rm), .int (fq_b sd), .int (nI S.sts.length), .ref aK, .ref aN, .int (nI S.iw), .int (nI S.ow), .int (fq_b S.ih), .int (fq_b S.oh), .ref aB, .int (nI S.ca), .int (nI us), .int (fq_b S.cl), .int (fq_b S.fl), .ref aS, .int (nI X.length), .ref aL, .ref aX, .int (nI md), .int (nI gi), .int (nI su), .int (nI S.ps), .int (nI S.cs)])), (aK, .inl (cI, 5, .inl fK)), (aN, .inl (cI, 25, .inl fN)), (aB, .inl (cI, 120, .inl fB)), (aS, .inl (cI, 120, .inl fS)), (aL, .inl (cI, 2300, .inl fL)), (aX, .inl (cI, 2300, .inl fX))]) (List.Perm.refl _) hP hD hS hA
        refine fq_ciR (wc := u1) (wr := [(q2, .inr (12, [.int (nI S.rm), .int (fq_b sd), .int (nI S.sts.length), .ref aK, .ref aN, .int (nI S.iw), .int (nI S.ow), .int (fq_b S.ih), .int (fq_b S.oh), .ref aB, .int (nI S.ca), .int (nI us), .int (fq_b S.cl), .int (fq_b S.fl), .ref aS, .int (nI X.length), .ref aL, .ref aX, .int (nI md), .int (nI gi), .int (nI su), .int (nI S.ps), .int (nI S.cs)])), (aK, .inl (cI, 5, .inl fK)), (aN, .inl (cI, 25, .inl fN)), (aB, .inl (cI, 120, .inl fB)), (aS, .inl (cI, 120, .inl fS)), (aL, .inl (cI, 2300, .inl fL)), (aX, .inl (cI, 2300, .inl fX))]) (fq_rV K hK hZ hS hcw (ct_FP_interrupt l D cI cO tE q1 S.sts S.rs S.fl S.ps S.cs S.ca S.cl S.iw S.ih S.Lb Lh0 Lr0 S.rm S.ow S.oh Lk0 u1 hfp false _) yk_FP_interrupt wd_716 wd_717 wd_715 0 hfs0 rfl rfl ⟨⟨rfl, rfl⟩, ⟨Nat.le_of_ble_eq_true rfl, Nat.le_of_ble_eq_true rfl⟩, ⟨show cN + 0 ≤ 600000 by omega, show sN + 0 ≤ 7302249 by omega⟩⟩ hl.1 rfl (Nat.le_of_ble_eq_true rfl) dc_La_law_569) hP hD hS hcw (List.Perm.refl _) (fun r1 v1 H locs hw1 hP hD hS => ?_)
        have hP : va_P D fq_cl (v1 ++ [(q2, .inr (12, [.int (nI S.rm), .int (fq_b sd), .int (nI S.sts.length), .ref aK, .ref aN, .int (nI S.iw), .int (nI S.ow), .int (fq_b S.ih), .int (fq_b S.oh), .ref aB, .int (nI S.ca), .int (nI us), .int (fq_b S.cl), .int (fq_b S.fl), .ref aS, .int (nI X.length), .ref aL, .ref aX, .int (nI md), .int (nI gi), .int (nI su), .int (nI S.ps), .int (nI S.cs)])), (aK, .inl (cI, 5, .inl fK)), (aN, .inl (cI, 25, .inl fN)), (aB, .inl (cI, 120, .inl fB)), (aS, .inl (cI, 120, .inl fS)), (aL, .inl (cI, 2300, .inl fL)), (aX, .inl (cI, 2300, .inl fX))]) _ := hP
        have hD : va_D A (v1 ++ [(q2, .inr (12, [.int (nI S.rm), .int (fq_b sd), .int (nI S.sts.length), .ref aK, .ref aN, .int (nI S.iw), .int (nI S.ow), .int (fq_b S.ih), .int (fq_b S.oh), .ref aB, .int (nI S.ca), .int (nI us), .int (fq_b S.cl), .int (fq_b S.fl), .ref aS, .int (nI X.length), .ref aL, .ref aX, .int (nI md), .int (nI gi), .int (nI su), .int (nI S.ps), .int (nI S.cs)])), (aK, .inl (cI, 5, .inl fK)), (aN, .inl (cI, 25, .inl fN)), (aB, .inl (cI, 120, .inl fB)), (aS, .inl (cI, 120, .inl fS)), (aL, .inl (cI, 2300, .inl fL)), (aX, .inl (cI, 2300, .inl fX))]) := hD
        refine lv_aload_n K.1 K.2.1 dc_La_law_572 rfl (lv_at hl 2 rfl) ?_
        refine lv_aload_n K.1 K.2.1 dc_La_law_573 rfl (lv_at hl 0 rfl) ?_
        refine lv_iload_n K.1 K.2.1 dc_La_law_574 rfl (lv_at hl 3 rfl) ?_
        refine lv_iconst (v := 1) K.1 K.2.1 dc_La_law_575 (by decide) ?_
        refine lv_iadd K.1 K.2.1 dc_La_law_576 ?_
        refine fq_asi (y := nI (1 + 6 * k + 1)) (nI_add (1 + 6 * k) 1) ?_
        refine va_sld K.1 K.2.1 hX hbl hbA hS (vp_in_nI (show 1 + 6 * k + 1 < L by omega) hL31) dc_La_law_577 ?_
        refine fq_asi (y := xs (1 + 6 * k + 1)) (by rw [nI_clamp (show 1 + 6 * k + 1 < 2 ^ 31 by omega)]) ?_
        refine lv_if_eq (tgt := 585) K.1 K.2.1 dc_La_law_578 rfl (fun b578 => ?_) (fun b578 => absurd b561 b578)
        refine lv_iconst (v := 0) K.1 K.2.1 dc_La_law_585 (by decide) ?_
        refine fq_asi (y := fq_b false) rfl ?_
        have hcw := fq_cutR (wc := [(q2, .inr (12, [.int (nI S.rm), .int (fq_b sd), .int (nI S.sts.length), .ref aK, .ref aN, .int (nI S.iw), .int (nI S.ow), .int (fq_b S.ih), .int (fq_b S.oh), .ref aB, .int (nI S.ca), .int (nI us), .int (fq_b S.cl), .int (fq_b S.fl), .ref aS, .int (nI X.length), .ref aL, .ref aX, .int (nI md), .int (nI gi), .int (nI su), .int (nI S.ps), .int (nI S.cs)])), (aK, .inl (cI, 5, .inl fK)), (aN, .inl (cI, 25, .inl fN)), (aB, .inl (cI, 120, .inl fB)), (aS, .inl (cI, 120, .inl fS)), (aL, .inl (cI, 2300, .inl fL)), (aX, .inl (cI, 2300, .inl fX))]) (wr := v1) List.perm_append_comm hP hD hS hA
        refine fq_ciR (wc := [(q2, .inr (12, [.int (nI S.rm), .int (fq_b sd), .int (nI S.sts.length), .ref aK, .ref aN, .int (nI S.iw), .int (nI S.ow), .int (fq_b S.ih), .int (fq_b S.oh), .ref aB, .int (nI S.ca), .int (nI us), .int (fq_b S.cl), .int (fq_b S.fl), .ref aS, .int (nI X.length), .ref aL, .ref aX, .int (nI md), .int (nI gi), .int (nI su), .int (nI S.ps), .int (nI S.cs)])), (aK, .inl (cI, 5, .inl fK)), (aN, .inl (cI, 25, .inl fN)), (aB, .inl (cI, 120, .inl fB)), (aS, .inl (cI, 120, .inl fS)), (aL, .inl (cI, 2300, .inl fL)), (aX, .inl (cI, 2300, .inl fX))]) (wr := v1) (fq_rV K hK hZ hS hcw (ct_Mo_interrupt l D cI cO tE q2 aK aN aB aS aL aX S.rm sd S.sts.length S.iw S.ow S.ih S.oh S.ca us S.cl S.fl X.length md gi su S.ps S.cs fK fN fB fS fL fX false hI.1.1 hI.1.2.1 _) yk_Mo_interrupt wd_977 wd_978 wd_976 0 rfl rfl rfl ⟨⟨rfl, rfl⟩, ⟨Nat.le_of_ble_eq_true rfl, Nat.le_of_ble_eq_true rfl⟩, ⟨show cN + 0 + 0 ≤ 600000 by omega, show sN + 0 + 0 ≤ 7302249 by omega⟩⟩ hl.1 rfl (Nat.le_of_ble_eq_true rfl) dc_La_law_586) hP hD hS hcw List.perm_append_comm (fun r2 v2 H locs hw2 hP hD hS => ?_)
        have hP := fq_permP List.perm_append_comm hP
        have hD := fq_permD List.perm_append_comm hD
        obtain ⟨hrr, T, hT1, hT2⟩ := la_interrupt eh er ek hfp hsd hI hR hw1 hw2
        have hP : va_P D fq_cl (v1 ++ v2) _ := hP
        have hD : va_D A (v1 ++ v2) := hD
        refine lv_icmp_eq (tgt := 677) K.1 K.2.1 dc_La_law_589 rfl (fun b589 => ?_) (fun b589 => absurd hrr b589)
        refine lv_iinc (v := nI (1 + 6 * (k + 1))) K.1 K.2.1 dc_La_law_677 hl (k := 3) rfl (by rw [show 1 + 6 * (k + 1) = (1 + 6 * k) + 6 by omega]; exact nI_add (1 + 6 * k) 6) (by decide) rfl (fun ls hl => ?_)
        have hl : lv_has ls 4 [(3, .int (nI (1 + 6 * (k + 1)))), (0, .ref b), (1, .ref q1), (2, .ref q2)] := hl
        refine lv_goto (tgt := 28) K.1 K.2.1 dc_La_law_680 rfl ?_
        exact ih28 (k + 1, T, v1, v2, cN + 0 + 0, sN + 0 + 0) _ _ _ (by show L - 6 * (k + 1) < L - 6 * k; omega) ⟨⟨by show 6 * (k + 1) ≤ 3078; omega, hT1, hT2, by show cN + 0 + 0 ≤ 24 + 5 * (k + 1); omega, by show sN + 0 + 0 ≤ 8088 + 32 * (k + 1); omega⟩, lv_sub hl [1, 2, 3, 0] rfl, hP, hD, hS⟩
      · skip
        refine lv_iconst (v := 1) K.1 K.2.1 dc_La_law_564 (by decide) ?_
        refine fq_asi (y := fq_b true) rfl ?_
        refine lv_goto (tgt := 569) K.1 K.2.1 dc_La_law_565 rfl ?_
        obtain ⟨aK, aN, aB, aS, aL, aX, us, md, gi, su, sd, fK, fN, fB, fS, fL, fX, X, rfl, hsd, hI, hR⟩ := hX2
        obtain ⟨Lh0, Lr0, Lk0, eh, er, ek, hfp⟩ := hX1
        obtain ⟨fs0, hfs0⟩ := fp_rv hfp
        have hcw := fq_cutR (wc := u1) (wr := [(q2, .inr (12, [.int (nI S.rm), .int (fq_b sd), .int (nI S.sts.length), .ref aK, .ref aN, .int (nI S.iw), .int (nI S.ow), .int (fq_b S.ih), .int (fq_b S.oh), .ref aB, .int (nI S.ca), .int (nI us), .int (fq_b S.cl), .int (fq_b S.fl), .ref aS, .int (nI X.length), .ref aL, .ref aX, .int (nI md), .int (nI gi), .int (nI su), .int (nI S.ps), .int (nI S.cs)])), (aK, .inl (cI, 5, .inl fK)), (aN, .inl (cI, 25, .inl fN)), (aB, .inl (cI, 120, .inl fB)), (aS, .inl (cI, 120, .inl fS)), (aL, .inl (cI, 2300, .inl fL)), (aX, .inl (cI, 2300, .inl fX))]) (List.Perm.refl _) hP hD hS hA
        refine fq_ciR (wc := u1) (wr := [(q2, .inr (12, [.int (nI S.rm), .int (fq_b sd), .int (nI S.sts.length), .ref aK, .ref aN, .int (nI S.iw), .int (nI S.ow), .int (fq_b S.ih), .int (fq_b S.oh), .ref aB, .int (nI S.ca), .int (nI us), .int (fq_b S.cl), .int (fq_b S.fl), .ref aS, .int (nI X.length), .ref aL, .ref aX, .int (nI md), .int (nI gi), .int (nI su), .int (nI S.ps), .int (nI S.cs)])), (aK, .inl (cI, 5, .inl fK)), (aN, .inl (cI, 25, .inl fN)), (aB, .inl (cI, 120, .inl fB)), (aS, .inl (cI, 120, .inl fS)), (aL, .inl (cI, 2300, .inl fL)), (aX, .inl (cI, 2300, .inl fX))]) (fq_rV K hK hZ hS hcw (ct_FP_interrupt l D cI cO tE q1 S.sts S.rs S.fl S.ps S.cs S.ca S.cl S.iw S.ih S.Lb Lh0 Lr0 S.rm S.ow S.oh Lk0 u1 hfp true _) yk_FP_interrupt wd_716 wd_717 wd_715 0 hfs0 rfl rfl ⟨⟨rfl, rfl⟩, ⟨Nat.le_of_ble_eq_true rfl, Nat.le_of_ble_eq_true rfl⟩, ⟨show cN + 0 ≤ 600000 by omega, show sN + 0 ≤ 7302249 by omega⟩⟩ hl.1 rfl (Nat.le_of_ble_eq_true rfl) dc_La_law_569) hP hD hS hcw (List.Perm.refl _) (fun r1 v1 H locs hw1 hP hD hS => ?_)
        have hP : va_P D fq_cl (v1 ++ [(q2, .inr (12, [.int (nI S.rm), .int (fq_b sd), .int (nI S.sts.length), .ref aK, .ref aN, .int (nI S.iw), .int (nI S.ow), .int (fq_b S.ih), .int (fq_b S.oh), .ref aB, .int (nI S.ca), .int (nI us), .int (fq_b S.cl), .int (fq_b S.fl), .ref aS, .int (nI X.length), .ref aL, .ref aX, .int (nI md), .int (nI gi), .int (nI su), .int (nI S.ps), .int (nI S.cs)])), (aK, .inl (cI, 5, .inl fK)), (aN, .inl (cI, 25, .inl fN)), (aB, .inl (cI, 120, .inl fB)), (aS, .inl (cI, 120, .inl fS)), (aL, .inl (cI, 2300, .inl fL)), (aX, .inl (cI, 2300, .inl fX))]) _ := hP
        have hD : va_D A (v1 ++ [(q2, .inr (12, [.int (nI S.rm), .int (fq_b sd), .int (nI S.sts.length), .ref aK, .ref aN, .int (nI S.iw), .int (nI S.ow), .int (fq_b S.ih), .int (fq_b S.oh), .ref aB, .int (nI S.ca), .int (nI us), .int (fq_b S.cl), .int (fq_b S.fl), .ref aS, .int (nI X.length), .ref aL, .ref aX, .int (nI md), .int (nI gi), .int (nI su), .int (nI S.ps), .int (nI S.cs)])), (aK, .inl (cI, 5, .inl fK)), (aN, .inl (cI, 25, .inl fN)), (aB, .inl (cI, 120, .inl fB)), (aS, .inl (cI, 120, .inl fS)), (aL, .inl (cI, 2300, .inl fL)), (aX, .inl (cI, 2300, .inl fX))]) := hD
        refine lv_aload_n K.1 K.2.1 dc_La_law_572 rfl (lv_at hl 2 rfl) ?_
        refine lv_aload_n K.1 K.2.1 dc_La_law_573 rfl (lv_at hl 0 rfl) ?_
        refine lv_iload_n K.1 K.2.1 dc_La_law_574 rfl (lv_at hl 3 rfl) ?_
        refine lv_iconst (v := 1) K.1 K.2.1 dc_La_law_575 (by decide) ?_
        refine lv_iadd K.1 K.2.1 dc_La_law_576 ?_
        refine fq_asi (y := nI (1 + 6 * k + 1)) (nI_add (1 + 6 * k) 1) ?_
        refine va_sld K.1 K.2.1 hX hbl hbA hS (vp_in_nI (show 1 + 6 * k + 1 < L by omega) hL31) dc_La_law_577 ?_
        refine fq_asi (y := xs (1 + 6 * k + 1)) (by rw [nI_clamp (show 1 + 6 * k + 1 < 2 ^ 31 by omega)]) ?_
        refine lv_if_eq (tgt := 585) K.1 K.2.1 dc_La_law_578 rfl (fun b578 => absurd b578 b561) (fun b578 => ?_)
        refine lv_iconst (v := 1) K.1 K.2.1 dc_La_law_581 (by decide) ?_
        refine fq_asi (y := fq_b true) rfl ?_
        refine lv_goto (tgt := 586) K.1 K.2.1 dc_La_law_582 rfl ?_
        have hcw := fq_cutR (wc := [(q2, .inr (12, [.int (nI S.rm), .int (fq_b sd), .int (nI S.sts.length), .ref aK, .ref aN, .int (nI S.iw), .int (nI S.ow), .int (fq_b S.ih), .int (fq_b S.oh), .ref aB, .int (nI S.ca), .int (nI us), .int (fq_b S.cl), .int (fq_b S.fl), .ref aS, .int (nI X.length), .ref aL, .ref aX, .int (nI md), .int (nI gi), .int (nI su), .int (nI S.ps), .int (nI S.cs)])), (aK, .inl (cI, 5, .inl fK)), (aN, .inl (cI, 25, .inl fN)), (aB, .inl (cI, 120, .inl fB)), (aS, .inl (cI, 120, .inl fS)), (aL, .inl (cI, 2300, .inl fL)), (aX, .inl (cI, 2300, .inl fX))]) (wr := v1) List.perm_append_comm hP hD hS hA
        refine fq_ciR (wc := [(q2, .inr (12, [.int (nI S.rm), .int (fq_b sd), .int (nI S.sts.length), .ref aK, .ref aN, .int (nI S.iw), .int (nI S.ow), .int (fq_b S.ih), .int (fq_b S.oh), .ref aB, .int (nI S.ca), .int (nI us), .int (fq_b S.cl), .int (fq_b S.fl), .ref aS, .int (nI X.length), .ref aL, .ref aX, .int (nI md), .int (nI gi), .int (nI su), .int (nI S.ps), .int (nI S.cs)])), (aK, .inl (cI, 5, .inl fK)), (aN, .inl (cI, 25, .inl fN)), (aB, .inl (cI, 120, .inl fB)), (aS, .inl (cI, 120, .inl fS)), (aL, .inl (cI, 2300, .inl fL)), (aX, .inl (cI, 2300, .inl fX))]) (wr := v1) (fq_rV K hK hZ hS hcw (ct_Mo_interrupt l D cI cO tE q2 aK aN aB aS aL aX S.rm sd S.sts.length S.iw S.ow S.ih S.oh S.ca us S.cl S.fl X.length md gi su S.ps S.cs fK fN fB fS fL fX true hI.1.1 hI.1.2.1 _) yk_Mo_interrupt wd_977 wd_978 wd_976 0 rfl rfl rfl ⟨⟨rfl, rfl⟩, ⟨Nat.le_of_ble_eq_true rfl, Nat.le_of_ble_eq_true rfl⟩, ⟨show cN + 0 + 0 ≤ 600000 by omega, show sN + 0 + 0 ≤ 7302249 by omega⟩⟩ hl.1 rfl (Nat.le_of_ble_eq_true rfl) dc_La_law_586) hP hD hS hcw List.perm_append_comm (fun r2 v2 H locs hw2 hP hD hS => ?_)
        have hP := fq_permP List.perm_append_comm hP
        have hD := fq_permD List.perm_append_comm hD
        obtain ⟨hrr, T, hT1, hT2⟩ := la_interrupt eh er ek hfp hsd hI hR hw1 hw2
        have hP : va_P D fq_cl (v1 ++ v2) _ := hP
        have hD : va_D A (v1 ++ v2) := hD
        refine lv_icmp_eq (tgt := 677) K.1 K.2.1 dc_La_law_589 rfl (fun b589 => ?_) (fun b589 => absurd hrr b589)
        refine lv_iinc (v := nI (1 + 6 * (k + 1))) K.1 K.2.1 dc_La_law_677 hl (k := 3) rfl (by rw [show 1 + 6 * (k + 1) = (1 + 6 * k) + 6 by omega]; exact nI_add (1 + 6 * k) 6) (by decide) rfl (fun ls hl => ?_)
        have hl : lv_has ls 4 [(3, .int (nI (1 + 6 * (k + 1)))), (0, .ref b), (1, .ref q1), (2, .ref q2)] := hl
        refine lv_goto (tgt := 28) K.1 K.2.1 dc_La_law_680 rfl ?_
        exact ih28 (k + 1, T, v1, v2, cN + 0 + 0, sN + 0 + 0) _ _ _ (by show L - 6 * (k + 1) < L - 6 * k; omega) ⟨⟨by show 6 * (k + 1) ≤ 3078; omega, hT1, hT2, by show cN + 0 + 0 ≤ 24 + 5 * (k + 1); omega, by show sN + 0 + 0 ≤ 8088 + 32 * (k + 1); omega⟩, lv_sub hl [1, 2, 3, 0] rfl, hP, hD, hS⟩
    by_cases c43_14 : v1 = 14
    · skip
      refine lv_tableIn (off := 551) (tgt := 594) K.1 K.2.1 dc_La_law_43 (by rw [c43_14]; decide) (by rw [c43_14]; decide) (by rw [c43_14]; decide) rfl ?_
      refine lv_aload_n K.1 K.2.1 dc_La_law_594 rfl (lv_at hl 1 rfl) ?_
      obtain ⟨aK, aN, aB, aS, aL, aX, us, md, gi, su, sd, fK, fN, fB, fS, fL, fX, X, rfl, hsd, hI, hR⟩ := hX2
      obtain ⟨Lh0, Lr0, Lk0, eh, er, ek, hfp⟩ := hX1
      obtain ⟨fs0, hfs0⟩ := fp_rv hfp
      have hcw := fq_cutR (wc := u1) (wr := [(q2, .inr (12, [.int (nI S.rm), .int (fq_b sd), .int (nI S.sts.length), .ref aK, .ref aN, .int (nI S.iw), .int (nI S.ow), .int (fq_b S.ih), .int (fq_b S.oh), .ref aB, .int (nI S.ca), .int (nI us), .int (fq_b S.cl), .int (fq_b S.fl), .ref aS, .int (nI X.length), .ref aL, .ref aX, .int (nI md), .int (nI gi), .int (nI su), .int (nI S.ps), .int (nI S.cs)])), (aK, .inl (cI, 5, .inl fK)), (aN, .inl (cI, 25, .inl fN)), (aB, .inl (cI, 120, .inl fB)), (aS, .inl (cI, 120, .inl fS)), (aL, .inl (cI, 2300, .inl fL)), (aX, .inl (cI, 2300, .inl fX))]) (List.Perm.refl _) hP hD hS hA
      refine fq_ciR (wc := u1) (wr := [(q2, .inr (12, [.int (nI S.rm), .int (fq_b sd), .int (nI S.sts.length), .ref aK, .ref aN, .int (nI S.iw), .int (nI S.ow), .int (fq_b S.ih), .int (fq_b S.oh), .ref aB, .int (nI S.ca), .int (nI us), .int (fq_b S.cl), .int (fq_b S.fl), .ref aS, .int (nI X.length), .ref aL, .ref aX, .int (nI md), .int (nI gi), .int (nI su), .int (nI S.ps), .int (nI S.cs)])), (aK, .inl (cI, 5, .inl fK)), (aN, .inl (cI, 25, .inl fN)), (aB, .inl (cI, 120, .inl fB)), (aS, .inl (cI, 120, .inl fS)), (aL, .inl (cI, 2300, .inl fL)), (aX, .inl (cI, 2300, .inl fX))]) (fq_rV K hK hZ hS hcw (ct_FP_state l D cI cO tE q1 S.sts S.rs S.fl S.ps S.cs S.ca S.cl S.iw S.ih S.Lb Lh0 Lr0 S.rm S.ow S.oh Lk0 u1 hfp  _) yk_FP_state wd_720 wd_721 wd_719 0 hfs0 rfl rfl ⟨⟨rfl, rfl⟩, ⟨Nat.le_of_ble_eq_true rfl, Nat.le_of_ble_eq_true rfl⟩, ⟨show cN + 0 ≤ 600000 by omega, show sN + 0 ≤ 7302249 by omega⟩⟩ hl.1 rfl (Nat.le_of_ble_eq_true rfl) dc_La_law_595) hP hD hS hcw (List.Perm.refl _) (fun r1 v1 H locs hw1 hP hD hS => ?_)
      have hP : va_P D fq_cl (v1 ++ [(q2, .inr (12, [.int (nI S.rm), .int (fq_b sd), .int (nI S.sts.length), .ref aK, .ref aN, .int (nI S.iw), .int (nI S.ow), .int (fq_b S.ih), .int (fq_b S.oh), .ref aB, .int (nI S.ca), .int (nI us), .int (fq_b S.cl), .int (fq_b S.fl), .ref aS, .int (nI X.length), .ref aL, .ref aX, .int (nI md), .int (nI gi), .int (nI su), .int (nI S.ps), .int (nI S.cs)])), (aK, .inl (cI, 5, .inl fK)), (aN, .inl (cI, 25, .inl fN)), (aB, .inl (cI, 120, .inl fB)), (aS, .inl (cI, 120, .inl fS)), (aL, .inl (cI, 2300, .inl fL)), (aX, .inl (cI, 2300, .inl fX))]) _ := hP
      have hD : va_D A (v1 ++ [(q2, .inr (12, [.int (nI S.rm), .int (fq_b sd), .int (nI S.sts.length), .ref aK, .ref aN, .int (nI S.iw), .int (nI S.ow), .int (fq_b S.ih), .int (fq_b S.oh), .ref aB, .int (nI S.ca), .int (nI us), .int (fq_b S.cl), .int (fq_b S.fl), .ref aS, .int (nI X.length), .ref aL, .ref aX, .int (nI md), .int (nI gi), .int (nI su), .int (nI S.ps), .int (nI S.cs)])), (aK, .inl (cI, 5, .inl fK)), (aN, .inl (cI, 25, .inl fN)), (aB, .inl (cI, 120, .inl fB)), (aS, .inl (cI, 120, .inl fS)), (aL, .inl (cI, 2300, .inl fL)), (aX, .inl (cI, 2300, .inl fX))]) := hD
      refine lv_aload_n K.1 K.2.1 dc_La_law_598 rfl (lv_at hl 2 rfl) ?_
      have hcw := fq_cutR (wc := [(q2, .inr (12, [.int (nI S.rm), .int (fq_b sd), .int (nI S.sts.length), .ref aK, .ref aN, .int (nI S.iw), .int (nI S.ow), .int (fq_b S.ih), .int (fq_b S.oh), .ref aB, .int (nI S.ca), .int (nI us), .int (fq_b S.cl), .int (fq_b S.fl), .ref aS, .int (nI X.length), .ref aL, .ref aX, .int (nI md), .int (nI gi), .int (nI su), .int (nI S.ps), .int (nI S.cs)])), (aK, .inl (cI, 5, .inl fK)), (aN, .inl (cI, 25, .inl fN)), (aB, .inl (cI, 120, .inl fB)), (aS, .inl (cI, 120, .inl fS)), (aL, .inl (cI, 2300, .inl fL)), (aX, .inl (cI, 2300, .inl fX))]) (wr := v1) List.perm_append_comm hP hD hS hA
      refine fq_ciR (wc := [(q2, .inr (12, [.int (nI S.rm), .int (fq_b sd), .int (nI S.sts.length), .ref aK, .ref aN, .int (nI S.iw), .int (nI S.ow), .int (fq_b S.ih), .int (fq_b S.oh), .ref aB, .int (nI S.ca), .int (nI us), .int (fq_b S.cl), .int (fq_b S.fl), .ref aS, .int (nI X.length), .ref aL, .ref aX, .int (nI md), .int (nI gi), .int (nI su), .int (nI S.ps), .int (nI S.cs)])), (aK, .inl (cI, 5, .inl fK)), (aN, .inl (cI, 25, .inl fN)), (aB, .inl (cI, 120, .inl fB)), (aS, .inl (cI, 120, .inl fS)), (aL, .inl (cI, 2300, .inl fL)), (aX, .inl (cI, 2300, .inl fX))]) (wr := v1) (fq_rV K hK hZ hS hcw (ct_Mo_state l D cI cO tE q2 aK aN aB aS aL aX S.rm sd S.sts.length S.iw S.ow S.ih S.oh S.ca us S.cl S.fl X.length md gi su S.ps S.cs fK fN fB fS fL fX  _) yk_Mo_state wd_981 wd_982 wd_980 0 rfl rfl rfl ⟨⟨rfl, rfl⟩, ⟨Nat.le_of_ble_eq_true rfl, Nat.le_of_ble_eq_true rfl⟩, ⟨show cN + 0 + 0 ≤ 600000 by omega, show sN + 0 + 0 ≤ 7302249 by omega⟩⟩ hl.1 rfl (Nat.le_of_ble_eq_true rfl) dc_La_law_599) hP hD hS hcw List.perm_append_comm (fun r2 v2 H locs hw2 hP hD hS => ?_)
      have hP := fq_permP List.perm_append_comm hP
      have hD := fq_permD List.perm_append_comm hD
      obtain ⟨hrr, T, hT1, hT2⟩ := la_state eh er ek hfp hsd hI hR hw1 hw2
      have hP : va_P D fq_cl (v1 ++ v2) _ := hP
      have hD : va_D A (v1 ++ v2) := hD
      refine lv_icmp_eq (tgt := 677) K.1 K.2.1 dc_La_law_602 rfl (fun b602 => ?_) (fun b602 => absurd hrr b602)
      refine lv_iinc (v := nI (1 + 6 * (k + 1))) K.1 K.2.1 dc_La_law_677 hl (k := 3) rfl (by rw [show 1 + 6 * (k + 1) = (1 + 6 * k) + 6 by omega]; exact nI_add (1 + 6 * k) 6) (by decide) rfl (fun ls hl => ?_)
      have hl : lv_has ls 4 [(3, .int (nI (1 + 6 * (k + 1)))), (0, .ref b), (1, .ref q1), (2, .ref q2)] := hl
      refine lv_goto (tgt := 28) K.1 K.2.1 dc_La_law_680 rfl ?_
      exact ih28 (k + 1, T, v1, v2, cN + 0 + 0, sN + 0 + 0) _ _ _ (by show L - 6 * (k + 1) < L - 6 * k; omega) ⟨⟨by show 6 * (k + 1) ≤ 3078; omega, hT1, hT2, by show cN + 0 + 0 ≤ 24 + 5 * (k + 1); omega, by show sN + 0 + 0 ≤ 8088 + 32 * (k + 1); omega⟩, lv_sub hl [1, 2, 3, 0] rfl, hP, hD, hS⟩
    by_cases c43_15 : v1 = 15
    · skip
      refine lv_tableIn (off := 564) (tgt := 607) K.1 K.2.1 dc_La_law_43 (by rw [c43_15]; decide) (by rw [c43_15]; decide) (by rw [c43_15]; decide) rfl ?_
      refine lv_aload_n K.1 K.2.1 dc_La_law_607 rfl (lv_at hl 1 rfl) ?_
      refine lv_aload_n K.1 K.2.1 dc_La_law_608 rfl (lv_at hl 0 rfl) ?_
      refine lv_iload_n K.1 K.2.1 dc_La_law_609 rfl (lv_at hl 3 rfl) ?_
      refine lv_iconst (v := 1) K.1 K.2.1 dc_La_law_610 (by decide) ?_
      refine lv_iadd K.1 K.2.1 dc_La_law_611 ?_
      refine fq_asi (y := nI (1 + 6 * k + 1)) (nI_add (1 + 6 * k) 1) ?_
      refine va_sld K.1 K.2.1 hX hbl hbA hS (vp_in_nI (show 1 + 6 * k + 1 < L by omega) hL31) dc_La_law_612 ?_
      refine fq_asi (y := xs (1 + 6 * k + 1)) (by rw [nI_clamp (show 1 + 6 * k + 1 < 2 ^ 31 by omega)]) ?_
      obtain ⟨aK, aN, aB, aS, aL, aX, us, md, gi, su, sd, fK, fN, fB, fS, fL, fX, X, rfl, hsd, hI, hR⟩ := hX2
      obtain ⟨Lh0, Lr0, Lk0, eh, er, ek, hfp⟩ := hX1
      obtain ⟨fs0, hfs0⟩ := fp_rv hfp
      have hcw := fq_cutR (wc := u1) (wr := [(q2, .inr (12, [.int (nI S.rm), .int (fq_b sd), .int (nI S.sts.length), .ref aK, .ref aN, .int (nI S.iw), .int (nI S.ow), .int (fq_b S.ih), .int (fq_b S.oh), .ref aB, .int (nI S.ca), .int (nI us), .int (fq_b S.cl), .int (fq_b S.fl), .ref aS, .int (nI X.length), .ref aL, .ref aX, .int (nI md), .int (nI gi), .int (nI su), .int (nI S.ps), .int (nI S.cs)])), (aK, .inl (cI, 5, .inl fK)), (aN, .inl (cI, 25, .inl fN)), (aB, .inl (cI, 120, .inl fB)), (aS, .inl (cI, 120, .inl fS)), (aL, .inl (cI, 2300, .inl fL)), (aX, .inl (cI, 2300, .inl fX))]) (List.Perm.refl _) hP hD hS hA
      refine fq_ciR (wc := u1) (wr := [(q2, .inr (12, [.int (nI S.rm), .int (fq_b sd), .int (nI S.sts.length), .ref aK, .ref aN, .int (nI S.iw), .int (nI S.ow), .int (fq_b S.ih), .int (fq_b S.oh), .ref aB, .int (nI S.ca), .int (nI us), .int (fq_b S.cl), .int (fq_b S.fl), .ref aS, .int (nI X.length), .ref aL, .ref aX, .int (nI md), .int (nI gi), .int (nI su), .int (nI S.ps), .int (nI S.cs)])), (aK, .inl (cI, 5, .inl fK)), (aN, .inl (cI, 25, .inl fN)), (aB, .inl (cI, 120, .inl fB)), (aS, .inl (cI, 120, .inl fS)), (aL, .inl (cI, 2300, .inl fL)), (aX, .inl (cI, 2300, .inl fX))]) (fq_rV K hK hZ hS hcw (ct_FP_waiting l D cI cO tE q1 S.sts S.rs S.fl S.ps S.cs S.ca S.cl S.iw S.ih S.Lb Lh0 Lr0 S.rm S.ow S.oh Lk0 u1 hfp (xs (1 + 6 * k + 1)) _) yk_FP_waiting wd_724 wd_725 wd_723 0 hfs0 rfl rfl ⟨⟨rfl, rfl⟩, ⟨Nat.le_of_ble_eq_true rfl, Nat.le_of_ble_eq_true rfl⟩, ⟨show cN + 0 ≤ 600000 by omega, show sN + 0 ≤ 7302249 by omega⟩⟩ hl.1 rfl (Nat.le_of_ble_eq_true rfl) dc_La_law_613) hP hD hS hcw (List.Perm.refl _) (fun r1 v1 H locs hw1 hP hD hS => ?_)
      have hP : va_P D fq_cl (v1 ++ [(q2, .inr (12, [.int (nI S.rm), .int (fq_b sd), .int (nI S.sts.length), .ref aK, .ref aN, .int (nI S.iw), .int (nI S.ow), .int (fq_b S.ih), .int (fq_b S.oh), .ref aB, .int (nI S.ca), .int (nI us), .int (fq_b S.cl), .int (fq_b S.fl), .ref aS, .int (nI X.length), .ref aL, .ref aX, .int (nI md), .int (nI gi), .int (nI su), .int (nI S.ps), .int (nI S.cs)])), (aK, .inl (cI, 5, .inl fK)), (aN, .inl (cI, 25, .inl fN)), (aB, .inl (cI, 120, .inl fB)), (aS, .inl (cI, 120, .inl fS)), (aL, .inl (cI, 2300, .inl fL)), (aX, .inl (cI, 2300, .inl fX))]) _ := hP
      have hD : va_D A (v1 ++ [(q2, .inr (12, [.int (nI S.rm), .int (fq_b sd), .int (nI S.sts.length), .ref aK, .ref aN, .int (nI S.iw), .int (nI S.ow), .int (fq_b S.ih), .int (fq_b S.oh), .ref aB, .int (nI S.ca), .int (nI us), .int (fq_b S.cl), .int (fq_b S.fl), .ref aS, .int (nI X.length), .ref aL, .ref aX, .int (nI md), .int (nI gi), .int (nI su), .int (nI S.ps), .int (nI S.cs)])), (aK, .inl (cI, 5, .inl fK)), (aN, .inl (cI, 25, .inl fN)), (aB, .inl (cI, 120, .inl fB)), (aS, .inl (cI, 120, .inl fS)), (aL, .inl (cI, 2300, .inl fL)), (aX, .inl (cI, 2300, .inl fX))]) := hD
      refine lv_aload_n K.1 K.2.1 dc_La_law_616 rfl (lv_at hl 2 rfl) ?_
      refine lv_aload_n K.1 K.2.1 dc_La_law_617 rfl (lv_at hl 0 rfl) ?_
      refine lv_iload_n K.1 K.2.1 dc_La_law_618 rfl (lv_at hl 3 rfl) ?_
      refine lv_iconst (v := 1) K.1 K.2.1 dc_La_law_619 (by decide) ?_
      refine lv_iadd K.1 K.2.1 dc_La_law_620 ?_
      refine fq_asi (y := nI (1 + 6 * k + 1)) (nI_add (1 + 6 * k) 1) ?_
      refine va_sld K.1 K.2.1 hX hbl hbA hS (vp_in_nI (show 1 + 6 * k + 1 < L by omega) hL31) dc_La_law_621 ?_
      refine fq_asi (y := xs (1 + 6 * k + 1)) (by rw [nI_clamp (show 1 + 6 * k + 1 < 2 ^ 31 by omega)]) ?_
      have hcw := fq_cutR (wc := [(q2, .inr (12, [.int (nI S.rm), .int (fq_b sd), .int (nI S.sts.length), .ref aK, .ref aN, .int (nI S.iw), .int (nI S.ow), .int (fq_b S.ih), .int (fq_b S.oh), .ref aB, .int (nI S.ca), .int (nI us), .int (fq_b S.cl), .int (fq_b S.fl), .ref aS, .int (nI X.length), .ref aL, .ref aX, .int (nI md), .int (nI gi), .int (nI su), .int (nI S.ps), .int (nI S.cs)])), (aK, .inl (cI, 5, .inl fK)), (aN, .inl (cI, 25, .inl fN)), (aB, .inl (cI, 120, .inl fB)), (aS, .inl (cI, 120, .inl fS)), (aL, .inl (cI, 2300, .inl fL)), (aX, .inl (cI, 2300, .inl fX))]) (wr := v1) List.perm_append_comm hP hD hS hA
      refine fq_ciR (wc := [(q2, .inr (12, [.int (nI S.rm), .int (fq_b sd), .int (nI S.sts.length), .ref aK, .ref aN, .int (nI S.iw), .int (nI S.ow), .int (fq_b S.ih), .int (fq_b S.oh), .ref aB, .int (nI S.ca), .int (nI us), .int (fq_b S.cl), .int (fq_b S.fl), .ref aS, .int (nI X.length), .ref aL, .ref aX, .int (nI md), .int (nI gi), .int (nI su), .int (nI S.ps), .int (nI S.cs)])), (aK, .inl (cI, 5, .inl fK)), (aN, .inl (cI, 25, .inl fN)), (aB, .inl (cI, 120, .inl fB)), (aS, .inl (cI, 120, .inl fS)), (aL, .inl (cI, 2300, .inl fL)), (aX, .inl (cI, 2300, .inl fX))]) (wr := v1) (fq_rV K hK hZ hS hcw (ct_Mo_waiting l D cI cO tE q2 aK aN aB aS aL aX S.rm sd S.sts.length S.iw S.ow S.ih S.oh S.ca us S.cl S.fl X.length md gi su S.ps S.cs fK fN fB fS fL fX (xs (1 + 6 * k + 1)) hI.2.2.2.1.1 hI.2.2.2.2.2.1.2.1 hI.2.2.2.2.2.1.1 _) yk_Mo_waiting wd_985 wd_986 wd_984 0 rfl rfl rfl ⟨⟨rfl, rfl⟩, ⟨Nat.le_of_ble_eq_true rfl, Nat.le_of_ble_eq_true rfl⟩, ⟨show cN + 0 + 0 ≤ 600000 by omega, show sN + 0 + 0 ≤ 7302249 by omega⟩⟩ hl.1 rfl (Nat.le_of_ble_eq_true rfl) dc_La_law_622) hP hD hS hcw List.perm_append_comm (fun r2 v2 H locs hw2 hP hD hS => ?_)
      have hP := fq_permP List.perm_append_comm hP
      have hD := fq_permD List.perm_append_comm hD
      obtain ⟨hrr, T, hT1, hT2⟩ := la_waiting eh er ek hfp hsd hI hR hw1 hw2
      have hP : va_P D fq_cl (v1 ++ v2) _ := hP
      have hD : va_D A (v1 ++ v2) := hD
      refine lv_icmp_eq (tgt := 677) K.1 K.2.1 dc_La_law_625 rfl (fun b625 => ?_) (fun b625 => absurd hrr b625)
      refine lv_iinc (v := nI (1 + 6 * (k + 1))) K.1 K.2.1 dc_La_law_677 hl (k := 3) rfl (by rw [show 1 + 6 * (k + 1) = (1 + 6 * k) + 6 by omega]; exact nI_add (1 + 6 * k) 6) (by decide) rfl (fun ls hl => ?_)
      have hl : lv_has ls 4 [(3, .int (nI (1 + 6 * (k + 1)))), (0, .ref b), (1, .ref q1), (2, .ref q2)] := hl
      refine lv_goto (tgt := 28) K.1 K.2.1 dc_La_law_680 rfl ?_
      exact ih28 (k + 1, T, v1, v2, cN + 0 + 0, sN + 0 + 0) _ _ _ (by show L - 6 * (k + 1) < L - 6 * k; omega) ⟨⟨by show 6 * (k + 1) ≤ 3078; omega, hT1, hT2, by show cN + 0 + 0 ≤ 24 + 5 * (k + 1); omega, by show sN + 0 + 0 ≤ 8088 + 32 * (k + 1); omega⟩, lv_sub hl [1, 2, 3, 0] rfl, hP, hD, hS⟩
    by_cases c43_16 : v1 = 16
    · skip
      refine lv_tableIn (off := 587) (tgt := 630) K.1 K.2.1 dc_La_law_43 (by rw [c43_16]; decide) (by rw [c43_16]; decide) (by rw [c43_16]; decide) rfl ?_
      refine lv_aload_n K.1 K.2.1 dc_La_law_630 rfl (lv_at hl 1 rfl) ?_
      refine lv_aload_n K.1 K.2.1 dc_La_law_631 rfl (lv_at hl 0 rfl) ?_
      refine lv_iload_n K.1 K.2.1 dc_La_law_632 rfl (lv_at hl 3 rfl) ?_
      refine lv_iconst (v := 1) K.1 K.2.1 dc_La_law_633 (by decide) ?_
      refine lv_iadd K.1 K.2.1 dc_La_law_634 ?_
      refine fq_asi (y := nI (1 + 6 * k + 1)) (nI_add (1 + 6 * k) 1) ?_
      refine va_sld K.1 K.2.1 hX hbl hbA hS (vp_in_nI (show 1 + 6 * k + 1 < L by omega) hL31) dc_La_law_635 ?_
      refine fq_asi (y := xs (1 + 6 * k + 1)) (by rw [nI_clamp (show 1 + 6 * k + 1 < 2 ^ 31 by omega)]) ?_
      obtain ⟨aK, aN, aB, aS, aL, aX, us, md, gi, su, sd, fK, fN, fB, fS, fL, fX, X, rfl, hsd, hI, hR⟩ := hX2
      obtain ⟨Lh0, Lr0, Lk0, eh, er, ek, hfp⟩ := hX1
      obtain ⟨fs0, hfs0⟩ := fp_rv hfp
      have hcw := fq_cutR (wc := u1) (wr := [(q2, .inr (12, [.int (nI S.rm), .int (fq_b sd), .int (nI S.sts.length), .ref aK, .ref aN, .int (nI S.iw), .int (nI S.ow), .int (fq_b S.ih), .int (fq_b S.oh), .ref aB, .int (nI S.ca), .int (nI us), .int (fq_b S.cl), .int (fq_b S.fl), .ref aS, .int (nI X.length), .ref aL, .ref aX, .int (nI md), .int (nI gi), .int (nI su), .int (nI S.ps), .int (nI S.cs)])), (aK, .inl (cI, 5, .inl fK)), (aN, .inl (cI, 25, .inl fN)), (aB, .inl (cI, 120, .inl fB)), (aS, .inl (cI, 120, .inl fS)), (aL, .inl (cI, 2300, .inl fL)), (aX, .inl (cI, 2300, .inl fX))]) (List.Perm.refl _) hP hD hS hA
      refine fq_ciR (wc := u1) (wr := [(q2, .inr (12, [.int (nI S.rm), .int (fq_b sd), .int (nI S.sts.length), .ref aK, .ref aN, .int (nI S.iw), .int (nI S.ow), .int (fq_b S.ih), .int (fq_b S.oh), .ref aB, .int (nI S.ca), .int (nI us), .int (fq_b S.cl), .int (fq_b S.fl), .ref aS, .int (nI X.length), .ref aL, .ref aX, .int (nI md), .int (nI gi), .int (nI su), .int (nI S.ps), .int (nI S.cs)])), (aK, .inl (cI, 5, .inl fK)), (aN, .inl (cI, 25, .inl fN)), (aB, .inl (cI, 120, .inl fB)), (aS, .inl (cI, 120, .inl fS)), (aL, .inl (cI, 2300, .inl fL)), (aX, .inl (cI, 2300, .inl fX))]) (fq_rV K hK hZ hS hcw (ct_FP_sinkByte l D cI cO tE q1 S.sts S.rs S.fl S.ps S.cs S.ca S.cl S.iw S.ih S.Lb Lh0 Lr0 S.rm S.ow S.oh Lk0 u1 hfp (xs (1 + 6 * k + 1)) (la_in hI ek) _) yk_FP_sinkByte wd_728 wd_729 wd_727 0 hfs0 rfl rfl ⟨⟨rfl, rfl⟩, ⟨Nat.le_of_ble_eq_true rfl, Nat.le_of_ble_eq_true rfl⟩, ⟨show cN + 0 ≤ 600000 by omega, show sN + 0 ≤ 7302249 by omega⟩⟩ hl.1 rfl (Nat.le_of_ble_eq_true rfl) dc_La_law_636) hP hD hS hcw (List.Perm.refl _) (fun r1 v1 H locs hw1 hP hD hS => ?_)
      have hP : va_P D fq_cl (v1 ++ [(q2, .inr (12, [.int (nI S.rm), .int (fq_b sd), .int (nI S.sts.length), .ref aK, .ref aN, .int (nI S.iw), .int (nI S.ow), .int (fq_b S.ih), .int (fq_b S.oh), .ref aB, .int (nI S.ca), .int (nI us), .int (fq_b S.cl), .int (fq_b S.fl), .ref aS, .int (nI X.length), .ref aL, .ref aX, .int (nI md), .int (nI gi), .int (nI su), .int (nI S.ps), .int (nI S.cs)])), (aK, .inl (cI, 5, .inl fK)), (aN, .inl (cI, 25, .inl fN)), (aB, .inl (cI, 120, .inl fB)), (aS, .inl (cI, 120, .inl fS)), (aL, .inl (cI, 2300, .inl fL)), (aX, .inl (cI, 2300, .inl fX))]) _ := hP
      have hD : va_D A (v1 ++ [(q2, .inr (12, [.int (nI S.rm), .int (fq_b sd), .int (nI S.sts.length), .ref aK, .ref aN, .int (nI S.iw), .int (nI S.ow), .int (fq_b S.ih), .int (fq_b S.oh), .ref aB, .int (nI S.ca), .int (nI us), .int (fq_b S.cl), .int (fq_b S.fl), .ref aS, .int (nI X.length), .ref aL, .ref aX, .int (nI md), .int (nI gi), .int (nI su), .int (nI S.ps), .int (nI S.cs)])), (aK, .inl (cI, 5, .inl fK)), (aN, .inl (cI, 25, .inl fN)), (aB, .inl (cI, 120, .inl fB)), (aS, .inl (cI, 120, .inl fS)), (aL, .inl (cI, 2300, .inl fL)), (aX, .inl (cI, 2300, .inl fX))]) := hD
      refine lv_aload_n K.1 K.2.1 dc_La_law_639 rfl (lv_at hl 2 rfl) ?_
      refine lv_aload_n K.1 K.2.1 dc_La_law_640 rfl (lv_at hl 0 rfl) ?_
      refine lv_iload_n K.1 K.2.1 dc_La_law_641 rfl (lv_at hl 3 rfl) ?_
      refine lv_iconst (v := 1) K.1 K.2.1 dc_La_law_642 (by decide) ?_
      refine lv_iadd K.1 K.2.1 dc_La_law_643 ?_
      refine fq_asi (y := nI (1 + 6 * k + 1)) (nI_add (1 + 6 * k) 1) ?_
      refine va_sld K.1 K.2.1 hX hbl hbA hS (vp_in_nI (show 1 + 6 * k + 1 < L by omega) hL31) dc_La_law_644 ?_
      refine fq_asi (y := xs (1 + 6 * k + 1)) (by rw [nI_clamp (show 1 + 6 * k + 1 < 2 ^ 31 by omega)]) ?_
      have hcw := fq_cutR (wc := [(q2, .inr (12, [.int (nI S.rm), .int (fq_b sd), .int (nI S.sts.length), .ref aK, .ref aN, .int (nI S.iw), .int (nI S.ow), .int (fq_b S.ih), .int (fq_b S.oh), .ref aB, .int (nI S.ca), .int (nI us), .int (fq_b S.cl), .int (fq_b S.fl), .ref aS, .int (nI X.length), .ref aL, .ref aX, .int (nI md), .int (nI gi), .int (nI su), .int (nI S.ps), .int (nI S.cs)])), (aK, .inl (cI, 5, .inl fK)), (aN, .inl (cI, 25, .inl fN)), (aB, .inl (cI, 120, .inl fB)), (aS, .inl (cI, 120, .inl fS)), (aL, .inl (cI, 2300, .inl fL)), (aX, .inl (cI, 2300, .inl fX))]) (wr := v1) List.perm_append_comm hP hD hS hA
      refine fq_ciR (wc := [(q2, .inr (12, [.int (nI S.rm), .int (fq_b sd), .int (nI S.sts.length), .ref aK, .ref aN, .int (nI S.iw), .int (nI S.ow), .int (fq_b S.ih), .int (fq_b S.oh), .ref aB, .int (nI S.ca), .int (nI us), .int (fq_b S.cl), .int (fq_b S.fl), .ref aS, .int (nI X.length), .ref aL, .ref aX, .int (nI md), .int (nI gi), .int (nI su), .int (nI S.ps), .int (nI S.cs)])), (aK, .inl (cI, 5, .inl fK)), (aN, .inl (cI, 25, .inl fN)), (aB, .inl (cI, 120, .inl fB)), (aS, .inl (cI, 120, .inl fS)), (aL, .inl (cI, 2300, .inl fL)), (aX, .inl (cI, 2300, .inl fX))]) (wr := v1) (fq_rV K hK hZ hS hcw (ct_Mo_sinkByte l D cI cO tE q2 aK aN aB aS aL aX S.rm sd S.sts.length S.iw S.ow S.ih S.oh S.ca us S.cl S.fl X.length md gi su S.ps S.cs fK fN fB fS fL fX (xs (1 + 6 * k + 1)) (la_su hI) hI.1.2.2.2.2.1 (la_im hI hR) _) yk_Mo_sinkByte wd_989 wd_990 wd_988 0 rfl rfl rfl ⟨⟨rfl, rfl⟩, ⟨Nat.le_of_ble_eq_true rfl, Nat.le_of_ble_eq_true rfl⟩, ⟨show cN + 0 + 0 ≤ 600000 by omega, show sN + 0 + 0 ≤ 7302249 by omega⟩⟩ hl.1 rfl (Nat.le_of_ble_eq_true rfl) dc_La_law_645) hP hD hS hcw List.perm_append_comm (fun r2 v2 H locs hw2 hP hD hS => ?_)
      have hP := fq_permP List.perm_append_comm hP
      have hD := fq_permD List.perm_append_comm hD
      obtain ⟨hrr, T, hT1, hT2⟩ := la_sinkByte eh er ek hfp hsd hI hR hw1 hw2
      have hP : va_P D fq_cl (v1 ++ v2) _ := hP
      have hD : va_D A (v1 ++ v2) := hD
      refine lv_icmp_eq (tgt := 677) K.1 K.2.1 dc_La_law_648 rfl (fun b648 => ?_) (fun b648 => absurd hrr b648)
      refine lv_iinc (v := nI (1 + 6 * (k + 1))) K.1 K.2.1 dc_La_law_677 hl (k := 3) rfl (by rw [show 1 + 6 * (k + 1) = (1 + 6 * k) + 6 by omega]; exact nI_add (1 + 6 * k) 6) (by decide) rfl (fun ls hl => ?_)
      have hl : lv_has ls 4 [(3, .int (nI (1 + 6 * (k + 1)))), (0, .ref b), (1, .ref q1), (2, .ref q2)] := hl
      refine lv_goto (tgt := 28) K.1 K.2.1 dc_La_law_680 rfl ?_
      exact ih28 (k + 1, T, v1, v2, cN + 0 + 0, sN + 0 + 0) _ _ _ (by show L - 6 * (k + 1) < L - 6 * k; omega) ⟨⟨by show 6 * (k + 1) ≤ 3078; omega, hT1, hT2, by show cN + 0 + 0 ≤ 24 + 5 * (k + 1); omega, by show sN + 0 + 0 ≤ 8088 + 32 * (k + 1); omega⟩, lv_sub hl [1, 2, 3, 0] rfl, hP, hD, hS⟩
    by_cases c43_17 : v1 = 17
    · skip
      refine lv_tableIn (off := 610) (tgt := 653) K.1 K.2.1 dc_La_law_43 (by rw [c43_17]; decide) (by rw [c43_17]; decide) (by rw [c43_17]; decide) rfl ?_
      refine lv_aload_n K.1 K.2.1 dc_La_law_653 rfl (lv_at hl 1 rfl) ?_
      refine lv_aload_n K.1 K.2.1 dc_La_law_654 rfl (lv_at hl 0 rfl) ?_
      refine lv_iload_n K.1 K.2.1 dc_La_law_655 rfl (lv_at hl 3 rfl) ?_
      refine lv_iconst (v := 1) K.1 K.2.1 dc_La_law_656 (by decide) ?_
      refine lv_iadd K.1 K.2.1 dc_La_law_657 ?_
      refine fq_asi (y := nI (1 + 6 * k + 1)) (nI_add (1 + 6 * k) 1) ?_
      refine va_sld K.1 K.2.1 hX hbl hbA hS (vp_in_nI (show 1 + 6 * k + 1 < L by omega) hL31) dc_La_law_658 ?_
      refine fq_asi (y := xs (1 + 6 * k + 1)) (by rw [nI_clamp (show 1 + 6 * k + 1 < 2 ^ 31 by omega)]) ?_
      obtain ⟨aK, aN, aB, aS, aL, aX, us, md, gi, su, sd, fK, fN, fB, fS, fL, fX, X, rfl, hsd, hI, hR⟩ := hX2
      obtain ⟨Lh0, Lr0, Lk0, eh, er, ek, hfp⟩ := hX1
      obtain ⟨fs0, hfs0⟩ := fp_rv hfp
      have hcw := fq_cutR (wc := u1) (wr := [(q2, .inr (12, [.int (nI S.rm), .int (fq_b sd), .int (nI S.sts.length), .ref aK, .ref aN, .int (nI S.iw), .int (nI S.ow), .int (fq_b S.ih), .int (fq_b S.oh), .ref aB, .int (nI S.ca), .int (nI us), .int (fq_b S.cl), .int (fq_b S.fl), .ref aS, .int (nI X.length), .ref aL, .ref aX, .int (nI md), .int (nI gi), .int (nI su), .int (nI S.ps), .int (nI S.cs)])), (aK, .inl (cI, 5, .inl fK)), (aN, .inl (cI, 25, .inl fN)), (aB, .inl (cI, 120, .inl fB)), (aS, .inl (cI, 120, .inl fS)), (aL, .inl (cI, 2300, .inl fL)), (aX, .inl (cI, 2300, .inl fX))]) (List.Perm.refl _) hP hD hS hA
      refine fq_clR (wc := u1) (wr := [(q2, .inr (12, [.int (nI S.rm), .int (fq_b sd), .int (nI S.sts.length), .ref aK, .ref aN, .int (nI S.iw), .int (nI S.ow), .int (fq_b S.ih), .int (fq_b S.oh), .ref aB, .int (nI S.ca), .int (nI us), .int (fq_b S.cl), .int (fq_b S.fl), .ref aS, .int (nI X.length), .ref aL, .ref aX, .int (nI md), .int (nI gi), .int (nI su), .int (nI S.ps), .int (nI S.cs)])), (aK, .inl (cI, 5, .inl fK)), (aN, .inl (cI, 25, .inl fN)), (aB, .inl (cI, 120, .inl fB)), (aS, .inl (cI, 120, .inl fS)), (aL, .inl (cI, 2300, .inl fL)), (aX, .inl (cI, 2300, .inl fX))]) (fq_rV K hK hZ hS hcw (ct_FP_power l D cI cO tE q1 S.sts S.rs S.fl S.ps S.cs S.ca S.cl S.iw S.ih S.Lb Lh0 Lr0 S.rm S.ow S.oh Lk0 u1 hfp (xs (1 + 6 * k + 1)) _) yk_FP_power wd_752 wd_753 wd_751 0 hfs0 rfl rfl ⟨⟨rfl, rfl⟩, ⟨Nat.le_of_ble_eq_true rfl, Nat.le_of_ble_eq_true rfl⟩, ⟨show cN + 0 ≤ 600000 by omega, show sN + 0 ≤ 7302249 by omega⟩⟩ hl.1 rfl (Nat.le_of_ble_eq_true rfl) dc_La_law_659) hP hD hS hcw (List.Perm.refl _) (fun r1 v1 H locs hw1 hP hD hS => ?_)
      have hP : va_P D fq_cl (v1 ++ [(q2, .inr (12, [.int (nI S.rm), .int (fq_b sd), .int (nI S.sts.length), .ref aK, .ref aN, .int (nI S.iw), .int (nI S.ow), .int (fq_b S.ih), .int (fq_b S.oh), .ref aB, .int (nI S.ca), .int (nI us), .int (fq_b S.cl), .int (fq_b S.fl), .ref aS, .int (nI X.length), .ref aL, .ref aX, .int (nI md), .int (nI gi), .int (nI su), .int (nI S.ps), .int (nI S.cs)])), (aK, .inl (cI, 5, .inl fK)), (aN, .inl (cI, 25, .inl fN)), (aB, .inl (cI, 120, .inl fB)), (aS, .inl (cI, 120, .inl fS)), (aL, .inl (cI, 2300, .inl fL)), (aX, .inl (cI, 2300, .inl fX))]) _ := hP
      have hD : va_D A (v1 ++ [(q2, .inr (12, [.int (nI S.rm), .int (fq_b sd), .int (nI S.sts.length), .ref aK, .ref aN, .int (nI S.iw), .int (nI S.ow), .int (fq_b S.ih), .int (fq_b S.oh), .ref aB, .int (nI S.ca), .int (nI us), .int (fq_b S.cl), .int (fq_b S.fl), .ref aS, .int (nI X.length), .ref aL, .ref aX, .int (nI md), .int (nI gi), .int (nI su), .int (nI S.ps), .int (nI S.cs)])), (aK, .inl (cI, 5, .inl fK)), (aN, .inl (cI, 25, .inl fN)), (aB, .inl (cI, 120, .inl fB)), (aS, .inl (cI, 120, .inl fS)), (aL, .inl (cI, 2300, .inl fL)), (aX, .inl (cI, 2300, .inl fX))]) := hD
      refine lv_aload_n K.1 K.2.1 dc_La_law_662 rfl (lv_at hl 2 rfl) ?_
      refine lv_aload_n K.1 K.2.1 dc_La_law_663 rfl (lv_at hl 0 rfl) ?_
      refine lv_iload_n K.1 K.2.1 dc_La_law_664 rfl (lv_at hl 3 rfl) ?_
      refine lv_iconst (v := 1) K.1 K.2.1 dc_La_law_665 (by decide) ?_
      refine lv_iadd K.1 K.2.1 dc_La_law_666 ?_
      refine fq_asi (y := nI (1 + 6 * k + 1)) (nI_add (1 + 6 * k) 1) ?_
      refine va_sld K.1 K.2.1 hX hbl hbA hS (vp_in_nI (show 1 + 6 * k + 1 < L by omega) hL31) dc_La_law_667 ?_
      refine fq_asi (y := xs (1 + 6 * k + 1)) (by rw [nI_clamp (show 1 + 6 * k + 1 < 2 ^ 31 by omega)]) ?_
      have hcw := fq_cutR (wc := [(q2, .inr (12, [.int (nI S.rm), .int (fq_b sd), .int (nI S.sts.length), .ref aK, .ref aN, .int (nI S.iw), .int (nI S.ow), .int (fq_b S.ih), .int (fq_b S.oh), .ref aB, .int (nI S.ca), .int (nI us), .int (fq_b S.cl), .int (fq_b S.fl), .ref aS, .int (nI X.length), .ref aL, .ref aX, .int (nI md), .int (nI gi), .int (nI su), .int (nI S.ps), .int (nI S.cs)])), (aK, .inl (cI, 5, .inl fK)), (aN, .inl (cI, 25, .inl fN)), (aB, .inl (cI, 120, .inl fB)), (aS, .inl (cI, 120, .inl fS)), (aL, .inl (cI, 2300, .inl fL)), (aX, .inl (cI, 2300, .inl fX))]) (wr := v1) List.perm_append_comm hP hD hS hA
      refine fq_clR (wc := [(q2, .inr (12, [.int (nI S.rm), .int (fq_b sd), .int (nI S.sts.length), .ref aK, .ref aN, .int (nI S.iw), .int (nI S.ow), .int (fq_b S.ih), .int (fq_b S.oh), .ref aB, .int (nI S.ca), .int (nI us), .int (fq_b S.cl), .int (fq_b S.fl), .ref aS, .int (nI X.length), .ref aL, .ref aX, .int (nI md), .int (nI gi), .int (nI su), .int (nI S.ps), .int (nI S.cs)])), (aK, .inl (cI, 5, .inl fK)), (aN, .inl (cI, 25, .inl fN)), (aB, .inl (cI, 120, .inl fB)), (aS, .inl (cI, 120, .inl fS)), (aL, .inl (cI, 2300, .inl fL)), (aX, .inl (cI, 2300, .inl fX))]) (wr := v1) (fq_rV K hK hZ hS hcw (ct_Mo_power l D cI cO tE q2 aK aN aB aS aL aX S.rm sd S.sts.length S.iw S.ow S.ih S.oh S.ca us S.cl S.fl X.length md gi su S.ps S.cs fK fN fB fS fL fX (xs (1 + 6 * k + 1)) (la_su hI) _) yk_Mo_power wd_997 wd_998 wd_996 0 rfl rfl rfl ⟨⟨rfl, rfl⟩, ⟨Nat.le_of_ble_eq_true rfl, Nat.le_of_ble_eq_true rfl⟩, ⟨show cN + 0 + 0 ≤ 600000 by omega, show sN + 0 + 0 ≤ 7302249 by omega⟩⟩ hl.1 rfl (Nat.le_of_ble_eq_true rfl) dc_La_law_668) hP hD hS hcw List.perm_append_comm (fun r2 v2 H locs hw2 hP hD hS => ?_)
      have hP := fq_permP List.perm_append_comm hP
      have hD := fq_permD List.perm_append_comm hD
      obtain ⟨hrr, T, hT1, hT2⟩ := la_power eh er ek hfp hsd hI hR hw1 hw2
      have hP : va_P D fq_cl (v1 ++ v2) _ := hP
      have hD : va_D A (v1 ++ v2) := hD
      refine W.lcmp K.1 K.2.1 dc_La_law_671 ?_
      refine lv_if_eq (tgt := 677) K.1 K.2.1 dc_La_law_672 rfl (fun b672 => ?_) (fun b672 => absurd (by rw [lg_cmp_eq]; exact hrr) b672)
      refine lv_iinc (v := nI (1 + 6 * (k + 1))) K.1 K.2.1 dc_La_law_677 hl (k := 3) rfl (by rw [show 1 + 6 * (k + 1) = (1 + 6 * k) + 6 by omega]; exact nI_add (1 + 6 * k) 6) (by decide) rfl (fun ls hl => ?_)
      have hl : lv_has ls 4 [(3, .int (nI (1 + 6 * (k + 1)))), (0, .ref b), (1, .ref q1), (2, .ref q2)] := hl
      refine lv_goto (tgt := 28) K.1 K.2.1 dc_La_law_680 rfl ?_
      exact ih28 (k + 1, T, v1, v2, cN + 0 + 0, sN + 0 + 0) _ _ _ (by show L - 6 * (k + 1) < L - 6 * k; omega) ⟨⟨by show 6 * (k + 1) ≤ 3078; omega, hT1, hT2, by show cN + 0 + 0 ≤ 24 + 5 * (k + 1); omega, by show sN + 0 + 0 ≤ 8088 + 32 * (k + 1); omega⟩, lv_sub hl [1, 2, 3, 0] rfl, hP, hD, hS⟩
    refine lv_tableOut (tgt := 677) K.1 K.2.1 dc_La_law_43 (la_out c43_0 c43_1 c43_2 c43_3 c43_4 c43_5 c43_6 c43_7 c43_8 c43_9 c43_10 c43_11 c43_12 c43_13 c43_14 c43_15 c43_16 c43_17) rfl ?_
    refine lv_iinc (v := nI (1 + 6 * (k + 1))) K.1 K.2.1 dc_La_law_677 hl (k := 3) rfl (by rw [show 1 + 6 * (k + 1) = (1 + 6 * k) + 6 by omega]; exact nI_add (1 + 6 * k) 6) (by decide) rfl (fun ls hl => ?_)
    have hl : lv_has ls 4 [(3, .int (nI (1 + 6 * (k + 1)))), (0, .ref b), (1, .ref q1), (2, .ref q2)] := hl
    refine lv_goto (tgt := 28) K.1 K.2.1 dc_La_law_680 rfl ?_
    exact ih28 (k + 1, S, u1, u2, cN, sN) _ _ _ (by show L - 6 * (k + 1) < L - 6 * k; omega) ⟨⟨by show 6 * (k + 1) ≤ 3078; omega, hX1, hX2, by show cN ≤ 24 + 5 * (k + 1); omega, by show sN ≤ 8088 + 32 * (k + 1); omega⟩, lv_sub hl [1, 2, 3, 0] rfl, hP, hD, hS⟩
