theorem wd_37 : Cond.initialized cn_Stage ∈ fq_TB := fq_in 37 (by decide +kernel) rfl
theorem wd_38 : Cond.initialized cn_Section ∈ fq_TB := fq_in 38 (by decide +kernel) rfl
theorem wd_42 : Cond.initialized cn_Gain ∈ fq_TB := fq_in 42 (by decide +kernel) rfl
theorem wd_235 : Cond.instanceMethod my_Section_init ∈ fq_TB := fq_in 235 (by decide +kernel) rfl
theorem wd_236 : Cond.code my_Section_init cb_Section_init 6 none ∈ fq_TB := fq_in 236 (by decide +kernel) rfl
theorem wn_237 : Cond.methodLinkNest cn_Section 3 my_Stage_init cn_FP ∈ lw_tbl := List.mem_of_getElem? (i := 237) (by decide +kernel)
theorem wd_238 : Cond.instanceMethod my_Stage_init ∈ fq_TB := fq_in 238 (by decide +kernel) rfl
theorem wd_239 : Cond.code my_Stage_init cb_Stage_init 1 none ∈ fq_TB := fq_in 239 (by decide +kernel) rfl
theorem wd_240 : Cond.methodLink cn_Stage 1 my_Oj_init ∈ fq_TB := fq_in 240 (by decide +kernel) rfl
theorem wd_241 : Cond.fieldLink cn_Section 9 cn_Section "b0" "I" ∈ fq_TB := fq_in 241 (by decide +kernel) rfl
theorem wd_242 : Cond.fieldLink cn_Section 15 cn_Section "b1" "I" ∈ fq_TB := fq_in 242 (by decide +kernel) rfl
theorem wd_243 : Cond.fieldLink cn_Section 18 cn_Section "b2" "I" ∈ fq_TB := fq_in 243 (by decide +kernel) rfl
theorem wd_244 : Cond.fieldLink cn_Section 21 cn_Section "a1" "I" ∈ fq_TB := fq_in 244 (by decide +kernel) rfl
theorem wd_245 : Cond.fieldLink cn_Section 24 cn_Section "a2" "I" ∈ fq_TB := fq_in 245 (by decide +kernel) rfl
theorem wd_246 : Cond.fieldLink cn_Section 33 cn_Section "x0" "I" ∈ fq_TB := fq_in 246 (by decide +kernel) rfl
theorem wd_247 : Cond.fieldLink cn_Section 27 cn_Section "x1" "I" ∈ fq_TB := fq_in 247 (by decide +kernel) rfl
theorem wd_248 : Cond.fieldLink cn_Section 30 cn_Section "x2" "I" ∈ fq_TB := fq_in 248 (by decide +kernel) rfl
theorem wd_249 : Cond.fieldLink cn_Section 36 cn_Section "y1" "I" ∈ fq_TB := fq_in 249 (by decide +kernel) rfl
theorem wd_250 : Cond.fieldLink cn_Section 39 cn_Section "y2" "I" ∈ fq_TB := fq_in 250 (by decide +kernel) rfl
theorem wd_357 : Cond.instanceMethod my_Gain_init ∈ fq_TB := fq_in 357 (by decide +kernel) rfl
theorem wd_358 : Cond.code my_Gain_init cb_Gain_init 2 none ∈ fq_TB := fq_in 358 (by decide +kernel) rfl
theorem wn_359 : Cond.methodLinkNest cn_Gain 3 my_Stage_init cn_FP ∈ lw_tbl := List.mem_of_getElem? (i := 359) (by decide +kernel)
theorem wd_360 : Cond.fieldLink cn_Gain 9 cn_Gain "factor" "I" ∈ fq_TB := fq_in 360 (by decide +kernel) rfl
theorem wd_361 : Cond.fieldLink cn_Gain 15 cn_Gain "latest" "I" ∈ fq_TB := fq_in 361 (by decide +kernel) rfl
theorem wd_490 : Cond.constantLong cn_Section 42 16384 ∈ fq_TB := fq_in 490 (by decide +kernel) rfl
theorem wd_521 : Cond.instanceMethod my_Gain_clear ∈ fq_TB := fq_in 521 (by decide +kernel) rfl
theorem wd_522 : Cond.code my_Gain_clear cb_Gain_clear 1 none ∈ fq_TB := fq_in 522 (by decide +kernel) rfl
theorem wd_531 : Cond.instanceMethod my_Section_clear ∈ fq_TB := fq_in 531 (by decide +kernel) rfl
theorem wd_532 : Cond.code my_Section_clear cb_Section_clear 1 none ∈ fq_TB := fq_in 532 (by decide +kernel) rfl
theorem wd_617 : Cond.instanceMethod my_Gain_take ∈ fq_TB := fq_in 617 (by decide +kernel) rfl
theorem wd_618 : Cond.code my_Gain_take cb_Gain_take 2 (some .int) ∈ fq_TB := fq_in 618 (by decide +kernel) rfl
theorem wd_635 : Cond.instanceMethod my_Section_take ∈ fq_TB := fq_in 635 (by decide +kernel) rfl
theorem wd_636 : Cond.code my_Section_take cb_Section_take 2 (some .int) ∈ fq_TB := fq_in 636 (by decide +kernel) rfl
theorem wd_649 : Cond.instanceMethod my_Gain_make ∈ fq_TB := fq_in 649 (by decide +kernel) rfl
theorem wd_650 : Cond.code my_Gain_make cb_Gain_make 1 (some .int) ∈ fq_TB := fq_in 650 (by decide +kernel) rfl
theorem wd_651 : Cond.constantLong cn_Gain 18 256 ∈ fq_TB := fq_in 651 (by decide +kernel) rfl
theorem wd_652 : Cond.methodLink cn_Gain 20 my_Ma_floorDiv ∈ fq_TB := fq_in 652 (by decide +kernel) rfl
theorem wn_653 : Cond.methodLinkNest cn_Gain 26 my_FP_clipped cn_FP ∈ lw_tbl := List.mem_of_getElem? (i := 653) (by decide +kernel)
theorem wd_677 : Cond.instanceMethod my_Section_make ∈ fq_TB := fq_in 677 (by decide +kernel) rfl
theorem wd_678 : Cond.code my_Section_make cb_Section_make 3 (some .int) ∈ fq_TB := fq_in 678 (by decide +kernel) rfl
theorem wd_679 : Cond.methodLink cn_Section 44 my_Ma_floorDiv ∈ fq_TB := fq_in 679 (by decide +kernel) rfl
theorem wn_680 : Cond.methodLinkNest cn_Section 50 my_FP_clipped cn_FP ∈ lw_tbl := List.mem_of_getElem? (i := 680) (by decide +kernel)
theorem wd_695 : Cond.instanceMethod my_Gain_finish ∈ fq_TB := fq_in 695 (by decide +kernel) rfl
theorem wd_696 : Cond.code my_Gain_finish cb_Gain_finish 1 (some .int) ∈ fq_TB := fq_in 696 (by decide +kernel) rfl
theorem wd_701 : Cond.instanceMethod my_Section_finish ∈ fq_TB := fq_in 701 (by decide +kernel) rfl
theorem wd_702 : Cond.code my_Section_finish cb_Section_finish 1 (some .int) ∈ fq_TB := fq_in 702 (by decide +kernel) rfl

theorem fn_bd {a b : Int} {A B : Nat} (h1 : a.natAbs ≤ A) (h2 : b.natAbs ≤ B) : (a * b).natAbs ≤ A * B := by
  rw [Int.natAbs_mul]; exact Nat.mul_le_mul h1 h2
/-- a product of two ints, the first at most 2^16, the second a sample -/
theorem fn_pr {b x : Int32} (hb : -65536 ≤ b.toInt ∧ b.toInt ≤ 65536) (hx : fm_in x.toInt) : (b.toInt64 * x.toInt64).toInt = b.toInt * x.toInt ∧ (b.toInt * x.toInt).natAbs ≤ 549755813888 := by
  unfold fm_in at hx
  have h := fn_bd (a := b.toInt) (b := x.toInt) (A := 65536) (B := 8388608) (by omega) (by omega)
  refine ⟨?_, h⟩
  rw [Kit.i64_mul (by rw [Kit.i64_of_i32, Kit.i64_of_i32]; omega) (by rw [Kit.i64_of_i32, Kit.i64_of_i32]; omega), Kit.i64_of_i32, Kit.i64_of_i32]
def sc_ok (b0 b1 b2 a1 a2 x0 x1 x2 y1 y2 : Int32) (sp : fm_S) (xs : List Int) (m : Nat) : Prop :=
  sp = (0, b0.toInt, b1.toInt, b2.toInt, a1.toInt, a2.toInt) ∧ fm_ok sp ∧ (∀ v ∈ xs, fm_in v) ∧ m ≤ xs.length ∧ x0.toInt = fm_x xs ((xs.length : Int) - 1) ∧ x1.toInt = fm_x xs ((xs.length : Int) - 2) ∧ x2.toInt = fm_x xs ((xs.length : Int) - 3)
  ∧ (y1.toInt, y2.toInt) = fm_sec b0.toInt b1.toInt b2.toInt a1.toInt a2.toInt xs m
def sg_sec (h : Nat) (sp : fm_S) (xs : List Int) (m : Nat) (ws : va_W) : Prop :=
  ∃ b0 b1 b2 a1 a2 x0 x1 x2 y1 y2 : Int32, ws = [(h, .inr (2, [.int b0, .int b1, .int b2, .int a1, .int a2, .int x0, .int x1, .int x2, .int y1, .int y2]))] ∧ sc_ok b0 b1 b2 a1 a2 x0 x1 x2 y1 y2 sp xs m
theorem fm_in_app {xs : List Int} {x : Int} (h : ∀ v ∈ xs, fm_in v) (hx : fm_in x) : ∀ v ∈ xs ++ [x], fm_in v := fun v hv => (List.mem_append.mp hv).elim (h v) (fun z => by rw [List.mem_singleton.mp z]; exact hx)
theorem fm_x_last (xs : List Int) (x : Int) : fm_x (xs ++ [x]) (xs.length : Int) = x := by
  rw [fm_x_nat]; simp [List.getD_eq_getElem?_getD]
theorem sc_nil {b0 b1 b2 a1 a2 : Int32} {sp : fm_S} (h : sp = (0, b0.toInt, b1.toInt, b2.toInt, a1.toInt, a2.toInt)) (hk : fm_ok sp) : sc_ok b0 b1 b2 a1 a2 0 0 0 0 0 sp [] 0 :=
  ⟨h, hk, fun _ z => absurd z List.not_mem_nil, Nat.le_refl 0, (fm_x_neg (by decide)).symm, (fm_x_neg (by decide)).symm, (fm_x_neg (by decide)).symm, rfl⟩
theorem sc_take {b0 b1 b2 a1 a2 x0 x1 x2 y1 y2 x : Int32} {sp : fm_S} {xs : List Int} {m : Nat} (h : sc_ok b0 b1 b2 a1 a2 x0 x1 x2 y1 y2 sp xs m) (hx : fm_in x.toInt) : sc_ok b0 b1 b2 a1 a2 x x0 x1 y1 y2 sp (xs ++ [x.toInt]) m := by
  obtain ⟨h1, h2, h3, h4, h5, h6, h7, h8⟩ := h
  have e : ((xs ++ [x.toInt]).length : Int) = (xs.length : Int) + 1 := by simp
  refine ⟨h1, h2, fm_in_app h3 hx, by simp; omega, ?_, ?_, ?_, ?_⟩
  · rw [e, show (xs.length : Int) + 1 - 1 = xs.length by omega, fm_x_last]
  · rw [e, fm_x_app (by omega), h5, show (xs.length : Int) + 1 - 2 = xs.length - 1 by omega]
  · rw [e, fm_x_app (by omega), h6, show (xs.length : Int) + 1 - 3 = xs.length - 2 by omega]
  · rw [h8, fm_sec_app h4]
theorem fm_sec_in (b0 b1 b2 a1 a2 : Int) (xs : List Int) : ∀ i, fm_in (fm_sec b0 b1 b2 a1 a2 xs i).1 ∧ fm_in (fm_sec b0 b1 b2 a1 a2 xs i).2
  | 0 => ⟨by show fm_in 0; unfold fm_in; omega, by show fm_in 0; unfold fm_in; omega⟩
  | i + 1 => ⟨fm_clip_in _, (fm_sec_in b0 b1 b2 a1 a2 xs i).1⟩
theorem sc_make {b0 b1 b2 a1 a2 x0 x1 x2 y1 y2 r : Int32} {v q : Int64} {sp : fm_S} {xs : List Int} {m : Nat} (h : sc_ok b0 b1 b2 a1 a2 x0 x1 x2 y1 y2 sp xs m) (hm : m + 1 = xs.length)
    (hv : v = b0.toInt64 * x0.toInt64 + b1.toInt64 * x1.toInt64 + b2.toInt64 * x2.toInt64 - a1.toInt64 * y1.toInt64 - a2.toInt64 * y2.toInt64) (hq : q.toInt = v.toInt / (16384 : Int64).toInt) (hr : r.toInt = fm_clip q.toInt) :
    r.toInt = fm_y sp xs m ∧ sc_ok b0 b1 b2 a1 a2 x0 x1 x2 r y1 sp xs (m + 1) := by
  obtain ⟨h1, h2, h3, h4, h5, h6, h7, h8⟩ := id h
  obtain ⟨g0, g1, g2, g3, g4⟩ := h2.2.1 (by rw [h1])
  rw [h1] at g0 g1 g2 g3 g4
  have k8 := congrArg Prod.fst h8
  have k9 := congrArg Prod.snd h8
  have i8 := fm_sec_in b0.toInt b1.toInt b2.toInt a1.toInt a2.toInt xs m
  rw [← k8, ← k9] at i8
  obtain ⟨p0, q0⟩ := fn_pr g0 (show fm_in x0.toInt by rw [h5]; exact fm_x_in h3 _)
  obtain ⟨p1, q1⟩ := fn_pr g1 (show fm_in x1.toInt by rw [h6]; exact fm_x_in h3 _)
  obtain ⟨p2, q2⟩ := fn_pr g2 (show fm_in x2.toInt by rw [h7]; exact fm_x_in h3 _)
  obtain ⟨p3, q3⟩ := fn_pr g3 i8.1
  obtain ⟨p4, q4⟩ := fn_pr g4 i8.2
  have s1 : (b0.toInt64 * x0.toInt64 + b1.toInt64 * x1.toInt64).toInt = b0.toInt * x0.toInt + b1.toInt * x1.toInt := by rw [Kit.i64_add (by rw [p0, p1]; omega) (by rw [p0, p1]; omega), p0, p1]
  have s2 : (b0.toInt64 * x0.toInt64 + b1.toInt64 * x1.toInt64 + b2.toInt64 * x2.toInt64).toInt = b0.toInt * x0.toInt + b1.toInt * x1.toInt + b2.toInt * x2.toInt := by rw [Kit.i64_add (by rw [s1, p2]; omega) (by rw [s1, p2]; omega), s1, p2]
  have s3 : (b0.toInt64 * x0.toInt64 + b1.toInt64 * x1.toInt64 + b2.toInt64 * x2.toInt64 - a1.toInt64 * y1.toInt64).toInt = b0.toInt * x0.toInt + b1.toInt * x1.toInt + b2.toInt * x2.toInt - a1.toInt * y1.toInt := by rw [Kit.i64_sub (by rw [s2, p3]; omega) (by rw [s2, p3]; omega), s2, p3]
  have s4 : v.toInt = b0.toInt * x0.toInt + b1.toInt * x1.toInt + b2.toInt * x2.toInt - a1.toInt * y1.toInt - a2.toInt * y2.toInt := by rw [hv, Kit.i64_sub (by rw [s3, p4]; omega) (by rw [s3, p4]; omega), s3, p4]
  have e3 : (16384 : Int64).toInt = 16384 := by decide
  have hy : (fm_sec b0.toInt b1.toInt b2.toInt a1.toInt a2.toInt xs (m + 1)) = (r.toInt, y1.toInt) := by
    show (_, _) = (_, _)
    rw [← k8, ← k9, hr, hq, s4, e3, h5, h6, h7]
    rw [show (xs.length : Int) - 1 = (m : Int) by omega, show (xs.length : Int) - 2 = (m : Int) - 1 by omega, show (xs.length : Int) - 3 = (m : Int) - 2 by omega]
  refine ⟨?_, h1, h2, h3, by omega, h5, h6, h7, hy.symm⟩
  rw [h1]
  show _ = (fm_sec b0.toInt b1.toInt b2.toInt a1.toInt a2.toInt xs (m + 1)).1
  rw [hy]
def gn_ok (fa la : Int32) (sp : fm_S) (xs : List Int) (m : Nat) : Prop :=
  sp = (1, fa.toInt, 0, 0, 0, 0) ∧ fm_ok sp ∧ (∀ v ∈ xs, fm_in v) ∧ m ≤ xs.length ∧ la.toInt = fm_x xs ((xs.length : Int) - 1)
def sg_gain (h : Nat) (sp : fm_S) (xs : List Int) (m : Nat) (ws : va_W) : Prop := ∃ fa la : Int32, ws = [(h, .inr (3, [.int fa, .int la]))] ∧ gn_ok fa la sp xs m
theorem gn_nil {fa : Int32} {sp : fm_S} (h : sp = (1, fa.toInt, 0, 0, 0, 0)) (hk : fm_ok sp) : gn_ok fa 0 sp [] 0 := ⟨h, hk, fun _ z => absurd z List.not_mem_nil, Nat.le_refl 0, (fm_x_neg (by decide)).symm⟩
theorem gn_take {fa la x : Int32} {sp : fm_S} {xs : List Int} {m : Nat} (h : gn_ok fa la sp xs m) (hx : fm_in x.toInt) : gn_ok fa x sp (xs ++ [x.toInt]) m := by
  obtain ⟨h1, h2, h3, h4, h5⟩ := h
  refine ⟨h1, h2, fm_in_app h3 hx, by simp; omega, ?_⟩
  rw [show (((xs ++ [x.toInt]).length : Nat) : Int) - 1 = xs.length by simp, fm_x_last]
theorem gn_make {fa la r : Int32} {q : Int64} {sp : fm_S} {xs : List Int} {m : Nat} (h : gn_ok fa la sp xs m) (hm : m + 1 = xs.length) (hq : q.toInt = (fa.toInt64 * la.toInt64).toInt / (256 : Int64).toInt) (hr : r.toInt = fm_clip q.toInt) :
    r.toInt = fm_y sp xs m ∧ gn_ok fa la sp xs (m + 1) := by
  obtain ⟨h1, h2, h3, h4, h5⟩ := id h
  have g := h2.2.2.1 (by rw [h1])
  rw [h1] at g
  have g : -1024 ≤ fa.toInt ∧ fa.toInt ≤ 1024 := g
  obtain ⟨p0, q0⟩ := fn_pr (b := fa) ⟨by omega, by omega⟩ (show fm_in la.toInt by rw [h5]; exact fm_x_in h3 _)
  refine ⟨?_, h1, h2, h3, by omega, h5⟩
  rw [h1]
  show _ = fm_clip (fa.toInt * fm_x xs (m : Int) / 256)
  rw [hr, hq, p0, h5, show (xs.length : Int) - 1 = (m : Int) by omega, show (256 : Int64).toInt = 256 by decide]

theorem dc_Stage_init_0 : decode cb_Stage_init 0 = .ok (.aload_n 0, 1) := by decide +kernel
theorem dc_Stage_init_1 : decode cb_Stage_init 1 = .ok (.invokespecial 1, 3) := by decide +kernel
theorem dc_Stage_init_4 : decode cb_Stage_init 4 = .ok (.return_, 1) := by decide +kernel
theorem yk_Stage_init : fq_Y my_Stage_init cb_Stage_init 1 none 0 := ⟨wd_239, wd_37, by decide +kernel⟩
theorem dc_Section_init_0 : decode cb_Section_init 0 = .ok (.aload_n 0, 1) := by decide +kernel
theorem dc_Section_init_1 : decode cb_Section_init 1 = .ok (.invokespecial 3, 3) := by decide +kernel
theorem dc_Section_init_4 : decode cb_Section_init 4 = .ok (.aload_n 0, 1) := by decide +kernel
theorem dc_Section_init_5 : decode cb_Section_init 5 = .ok (.iload_n 1, 1) := by decide +kernel
theorem dc_Section_init_6 : decode cb_Section_init 6 = .ok (.putfield 9, 3) := by decide +kernel
theorem dc_Section_init_9 : decode cb_Section_init 9 = .ok (.aload_n 0, 1) := by decide +kernel
theorem dc_Section_init_10 : decode cb_Section_init 10 = .ok (.iload_n 2, 1) := by decide +kernel
theorem dc_Section_init_11 : decode cb_Section_init 11 = .ok (.putfield 15, 3) := by decide +kernel
theorem dc_Section_init_14 : decode cb_Section_init 14 = .ok (.aload_n 0, 1) := by decide +kernel
theorem dc_Section_init_15 : decode cb_Section_init 15 = .ok (.iload_n 3, 1) := by decide +kernel
theorem dc_Section_init_16 : decode cb_Section_init 16 = .ok (.putfield 18, 3) := by decide +kernel
theorem dc_Section_init_19 : decode cb_Section_init 19 = .ok (.aload_n 0, 1) := by decide +kernel
theorem dc_Section_init_20 : decode cb_Section_init 20 = .ok (.iload 4, 2) := by decide +kernel
theorem dc_Section_init_22 : decode cb_Section_init 22 = .ok (.putfield 21, 3) := by decide +kernel
theorem dc_Section_init_25 : decode cb_Section_init 25 = .ok (.aload_n 0, 1) := by decide +kernel
theorem dc_Section_init_26 : decode cb_Section_init 26 = .ok (.iload 5, 2) := by decide +kernel
theorem dc_Section_init_28 : decode cb_Section_init 28 = .ok (.putfield 24, 3) := by decide +kernel
theorem dc_Section_init_31 : decode cb_Section_init 31 = .ok (.return_, 1) := by decide +kernel
theorem yk_Section_init : fq_Y my_Section_init cb_Section_init 6 none 5 := ⟨wd_236, wd_38, by decide +kernel⟩
theorem dc_Section_take_0 : decode cb_Section_take 0 = .ok (.aload_n 0, 1) := by decide +kernel
theorem dc_Section_take_1 : decode cb_Section_take 1 = .ok (.aload_n 0, 1) := by decide +kernel
theorem dc_Section_take_2 : decode cb_Section_take 2 = .ok (.getfield 27, 3) := by decide +kernel
theorem dc_Section_take_5 : decode cb_Section_take 5 = .ok (.putfield 30, 3) := by decide +kernel
theorem dc_Section_take_8 : decode cb_Section_take 8 = .ok (.aload_n 0, 1) := by decide +kernel
theorem dc_Section_take_9 : decode cb_Section_take 9 = .ok (.aload_n 0, 1) := by decide +kernel
theorem dc_Section_take_10 : decode cb_Section_take 10 = .ok (.getfield 33, 3) := by decide +kernel
theorem dc_Section_take_13 : decode cb_Section_take 13 = .ok (.putfield 27, 3) := by decide +kernel
theorem dc_Section_take_16 : decode cb_Section_take 16 = .ok (.aload_n 0, 1) := by decide +kernel
theorem dc_Section_take_17 : decode cb_Section_take 17 = .ok (.iload_n 1, 1) := by decide +kernel
theorem dc_Section_take_18 : decode cb_Section_take 18 = .ok (.putfield 33, 3) := by decide +kernel
theorem dc_Section_take_21 : decode cb_Section_take 21 = .ok (.iconst 1, 1) := by decide +kernel
theorem dc_Section_take_22 : decode cb_Section_take 22 = .ok (.ireturn, 1) := by decide +kernel
theorem yk_Section_take : fq_Y my_Section_take cb_Section_take 2 (some .int) 1 := ⟨wd_636, wd_38, by decide +kernel⟩
theorem dc_Section_finish_0 : decode cb_Section_finish 0 = .ok (.iconst 0, 1) := by decide +kernel
theorem dc_Section_finish_1 : decode cb_Section_finish 1 = .ok (.ireturn, 1) := by decide +kernel
theorem yk_Section_finish : fq_Y my_Section_finish cb_Section_finish 1 (some .int) 0 := ⟨wd_702, wd_38, by decide +kernel⟩
theorem dc_Section_make_0 : decode cb_Section_make 0 = .ok (.aload_n 0, 1) := by decide +kernel
theorem dc_Section_make_1 : decode cb_Section_make 1 = .ok (.getfield 9, 3) := by decide +kernel
theorem dc_Section_make_4 : decode cb_Section_make 4 = .ok (.i2l, 1) := by decide +kernel
theorem dc_Section_make_5 : decode cb_Section_make 5 = .ok (.aload_n 0, 1) := by decide +kernel
theorem dc_Section_make_6 : decode cb_Section_make 6 = .ok (.getfield 33, 3) := by decide +kernel
theorem dc_Section_make_9 : decode cb_Section_make 9 = .ok (.i2l, 1) := by decide +kernel
theorem dc_Section_make_10 : decode cb_Section_make 10 = .ok (.lmul, 1) := by decide +kernel
theorem dc_Section_make_11 : decode cb_Section_make 11 = .ok (.aload_n 0, 1) := by decide +kernel
theorem dc_Section_make_12 : decode cb_Section_make 12 = .ok (.getfield 15, 3) := by decide +kernel
theorem dc_Section_make_15 : decode cb_Section_make 15 = .ok (.i2l, 1) := by decide +kernel
theorem dc_Section_make_16 : decode cb_Section_make 16 = .ok (.aload_n 0, 1) := by decide +kernel
theorem dc_Section_make_17 : decode cb_Section_make 17 = .ok (.getfield 27, 3) := by decide +kernel
theorem dc_Section_make_20 : decode cb_Section_make 20 = .ok (.i2l, 1) := by decide +kernel
theorem dc_Section_make_21 : decode cb_Section_make 21 = .ok (.lmul, 1) := by decide +kernel
theorem dc_Section_make_22 : decode cb_Section_make 22 = .ok (.ladd, 1) := by decide +kernel
theorem dc_Section_make_23 : decode cb_Section_make 23 = .ok (.aload_n 0, 1) := by decide +kernel
theorem dc_Section_make_24 : decode cb_Section_make 24 = .ok (.getfield 18, 3) := by decide +kernel
theorem dc_Section_make_27 : decode cb_Section_make 27 = .ok (.i2l, 1) := by decide +kernel
theorem dc_Section_make_28 : decode cb_Section_make 28 = .ok (.aload_n 0, 1) := by decide +kernel
theorem dc_Section_make_29 : decode cb_Section_make 29 = .ok (.getfield 30, 3) := by decide +kernel
theorem dc_Section_make_32 : decode cb_Section_make 32 = .ok (.i2l, 1) := by decide +kernel
theorem dc_Section_make_33 : decode cb_Section_make 33 = .ok (.lmul, 1) := by decide +kernel
theorem dc_Section_make_34 : decode cb_Section_make 34 = .ok (.ladd, 1) := by decide +kernel
theorem dc_Section_make_35 : decode cb_Section_make 35 = .ok (.aload_n 0, 1) := by decide +kernel
theorem dc_Section_make_36 : decode cb_Section_make 36 = .ok (.getfield 21, 3) := by decide +kernel
theorem dc_Section_make_39 : decode cb_Section_make 39 = .ok (.i2l, 1) := by decide +kernel
theorem dc_Section_make_40 : decode cb_Section_make 40 = .ok (.aload_n 0, 1) := by decide +kernel
theorem dc_Section_make_41 : decode cb_Section_make 41 = .ok (.getfield 36, 3) := by decide +kernel
theorem dc_Section_make_44 : decode cb_Section_make 44 = .ok (.i2l, 1) := by decide +kernel
theorem dc_Section_make_45 : decode cb_Section_make 45 = .ok (.lmul, 1) := by decide +kernel
theorem dc_Section_make_46 : decode cb_Section_make 46 = .ok (.lsub, 1) := by decide +kernel
theorem dc_Section_make_47 : decode cb_Section_make 47 = .ok (.aload_n 0, 1) := by decide +kernel
theorem dc_Section_make_48 : decode cb_Section_make 48 = .ok (.getfield 24, 3) := by decide +kernel
theorem dc_Section_make_51 : decode cb_Section_make 51 = .ok (.i2l, 1) := by decide +kernel
theorem dc_Section_make_52 : decode cb_Section_make 52 = .ok (.aload_n 0, 1) := by decide +kernel
theorem dc_Section_make_53 : decode cb_Section_make 53 = .ok (.getfield 39, 3) := by decide +kernel
theorem dc_Section_make_56 : decode cb_Section_make 56 = .ok (.i2l, 1) := by decide +kernel
theorem dc_Section_make_57 : decode cb_Section_make 57 = .ok (.lmul, 1) := by decide +kernel
theorem dc_Section_make_58 : decode cb_Section_make 58 = .ok (.lsub, 1) := by decide +kernel
theorem dc_Section_make_59 : decode cb_Section_make 59 = .ok (.lstore_n 1, 1) := by decide +kernel
theorem dc_Section_make_60 : decode cb_Section_make 60 = .ok (.aload_n 0, 1) := by decide +kernel
theorem dc_Section_make_61 : decode cb_Section_make 61 = .ok (.aload_n 0, 1) := by decide +kernel
theorem dc_Section_make_62 : decode cb_Section_make 62 = .ok (.getfield 36, 3) := by decide +kernel
theorem dc_Section_make_65 : decode cb_Section_make 65 = .ok (.putfield 39, 3) := by decide +kernel
theorem dc_Section_make_68 : decode cb_Section_make 68 = .ok (.aload_n 0, 1) := by decide +kernel
theorem dc_Section_make_69 : decode cb_Section_make 69 = .ok (.lload_n 1, 1) := by decide +kernel
theorem dc_Section_make_70 : decode cb_Section_make 70 = .ok (.ldc2_w 42, 3) := by decide +kernel
theorem dc_Section_make_73 : decode cb_Section_make 73 = .ok (.invokestatic 44, 3) := by decide +kernel
theorem dc_Section_make_76 : decode cb_Section_make 76 = .ok (.invokestatic 50, 3) := by decide +kernel
theorem dc_Section_make_79 : decode cb_Section_make 79 = .ok (.putfield 36, 3) := by decide +kernel
theorem dc_Section_make_82 : decode cb_Section_make 82 = .ok (.aload_n 0, 1) := by decide +kernel
theorem dc_Section_make_83 : decode cb_Section_make 83 = .ok (.getfield 36, 3) := by decide +kernel
theorem dc_Section_make_86 : decode cb_Section_make 86 = .ok (.ireturn, 1) := by decide +kernel
theorem yk_Section_make : fq_Y my_Section_make cb_Section_make 3 (some .int) 0 := ⟨wd_678, wd_38, by decide +kernel⟩
theorem dc_Section_clear_0 : decode cb_Section_clear 0 = .ok (.aload_n 0, 1) := by decide +kernel
theorem dc_Section_clear_1 : decode cb_Section_clear 1 = .ok (.iconst 0, 1) := by decide +kernel
theorem dc_Section_clear_2 : decode cb_Section_clear 2 = .ok (.putfield 33, 3) := by decide +kernel
theorem dc_Section_clear_5 : decode cb_Section_clear 5 = .ok (.aload_n 0, 1) := by decide +kernel
theorem dc_Section_clear_6 : decode cb_Section_clear 6 = .ok (.iconst 0, 1) := by decide +kernel
theorem dc_Section_clear_7 : decode cb_Section_clear 7 = .ok (.putfield 27, 3) := by decide +kernel
theorem dc_Section_clear_10 : decode cb_Section_clear 10 = .ok (.aload_n 0, 1) := by decide +kernel
theorem dc_Section_clear_11 : decode cb_Section_clear 11 = .ok (.iconst 0, 1) := by decide +kernel
theorem dc_Section_clear_12 : decode cb_Section_clear 12 = .ok (.putfield 30, 3) := by decide +kernel
theorem dc_Section_clear_15 : decode cb_Section_clear 15 = .ok (.aload_n 0, 1) := by decide +kernel
theorem dc_Section_clear_16 : decode cb_Section_clear 16 = .ok (.iconst 0, 1) := by decide +kernel
theorem dc_Section_clear_17 : decode cb_Section_clear 17 = .ok (.putfield 36, 3) := by decide +kernel
theorem dc_Section_clear_20 : decode cb_Section_clear 20 = .ok (.aload_n 0, 1) := by decide +kernel
theorem dc_Section_clear_21 : decode cb_Section_clear 21 = .ok (.iconst 0, 1) := by decide +kernel
theorem dc_Section_clear_22 : decode cb_Section_clear 22 = .ok (.putfield 39, 3) := by decide +kernel
theorem dc_Section_clear_25 : decode cb_Section_clear 25 = .ok (.return_, 1) := by decide +kernel
theorem yk_Section_clear : fq_Y my_Section_clear cb_Section_clear 1 none 0 := ⟨wd_532, wd_38, by decide +kernel⟩
theorem dc_Gain_init_0 : decode cb_Gain_init 0 = .ok (.aload_n 0, 1) := by decide +kernel
theorem dc_Gain_init_1 : decode cb_Gain_init 1 = .ok (.invokespecial 3, 3) := by decide +kernel
theorem dc_Gain_init_4 : decode cb_Gain_init 4 = .ok (.aload_n 0, 1) := by decide +kernel
theorem dc_Gain_init_5 : decode cb_Gain_init 5 = .ok (.iload_n 1, 1) := by decide +kernel
theorem dc_Gain_init_6 : decode cb_Gain_init 6 = .ok (.putfield 9, 3) := by decide +kernel
theorem dc_Gain_init_9 : decode cb_Gain_init 9 = .ok (.return_, 1) := by decide +kernel
theorem yk_Gain_init : fq_Y my_Gain_init cb_Gain_init 2 none 1 := ⟨wd_358, wd_42, by decide +kernel⟩
theorem dc_Gain_take_0 : decode cb_Gain_take 0 = .ok (.aload_n 0, 1) := by decide +kernel
theorem dc_Gain_take_1 : decode cb_Gain_take 1 = .ok (.iload_n 1, 1) := by decide +kernel
theorem dc_Gain_take_2 : decode cb_Gain_take 2 = .ok (.putfield 15, 3) := by decide +kernel
theorem dc_Gain_take_5 : decode cb_Gain_take 5 = .ok (.iconst 1, 1) := by decide +kernel
theorem dc_Gain_take_6 : decode cb_Gain_take 6 = .ok (.ireturn, 1) := by decide +kernel
theorem yk_Gain_take : fq_Y my_Gain_take cb_Gain_take 2 (some .int) 1 := ⟨wd_618, wd_42, by decide +kernel⟩
theorem dc_Gain_finish_0 : decode cb_Gain_finish 0 = .ok (.iconst 0, 1) := by decide +kernel
theorem dc_Gain_finish_1 : decode cb_Gain_finish 1 = .ok (.ireturn, 1) := by decide +kernel
theorem yk_Gain_finish : fq_Y my_Gain_finish cb_Gain_finish 1 (some .int) 0 := ⟨wd_696, wd_42, by decide +kernel⟩
theorem dc_Gain_make_0 : decode cb_Gain_make 0 = .ok (.aload_n 0, 1) := by decide +kernel
theorem dc_Gain_make_1 : decode cb_Gain_make 1 = .ok (.getfield 9, 3) := by decide +kernel
theorem dc_Gain_make_4 : decode cb_Gain_make 4 = .ok (.i2l, 1) := by decide +kernel
theorem dc_Gain_make_5 : decode cb_Gain_make 5 = .ok (.aload_n 0, 1) := by decide +kernel
theorem dc_Gain_make_6 : decode cb_Gain_make 6 = .ok (.getfield 15, 3) := by decide +kernel
theorem dc_Gain_make_9 : decode cb_Gain_make 9 = .ok (.i2l, 1) := by decide +kernel
theorem dc_Gain_make_10 : decode cb_Gain_make 10 = .ok (.lmul, 1) := by decide +kernel
theorem dc_Gain_make_11 : decode cb_Gain_make 11 = .ok (.ldc2_w 18, 3) := by decide +kernel
theorem dc_Gain_make_14 : decode cb_Gain_make 14 = .ok (.invokestatic 20, 3) := by decide +kernel
theorem dc_Gain_make_17 : decode cb_Gain_make 17 = .ok (.invokestatic 26, 3) := by decide +kernel
theorem dc_Gain_make_20 : decode cb_Gain_make 20 = .ok (.ireturn, 1) := by decide +kernel
theorem yk_Gain_make : fq_Y my_Gain_make cb_Gain_make 1 (some .int) 0 := ⟨wd_650, wd_42, by decide +kernel⟩
theorem dc_Gain_clear_0 : decode cb_Gain_clear 0 = .ok (.aload_n 0, 1) := by decide +kernel
theorem dc_Gain_clear_1 : decode cb_Gain_clear 1 = .ok (.iconst 0, 1) := by decide +kernel
theorem dc_Gain_clear_2 : decode cb_Gain_clear 2 = .ok (.putfield 15, 3) := by decide +kernel
theorem dc_Gain_clear_5 : decode cb_Gain_clear 5 = .ok (.return_, 1) := by decide +kernel
theorem yk_Gain_clear : fq_Y my_Gain_clear cb_Gain_clear 1 none 0 := ⟨wd_522, wd_42, by decide +kernel⟩
set_option maxHeartbeats 4000000 in
set_option maxRecDepth 100000 in
theorem ct_Stage_init (l : Launch) (D : va_G) (cI cO : ClassId) (tE : Nat) (h : Nat) (sz : Nat) : Met l my_Stage_init (fq_w my_Stage_init cb_Stage_init 1 none) ({ frames := 1, cells := 0, slots := 0, locals := 12 }) (va_Pc ([.ref h]) (fq_Pre D cI cO tE sz ([]))) (va_Qv (S := va_W) (fun w => w = []) (fq_Bw D (va_A ([]) sz)) (va_A ([]) sz)) (0) (0) (va_A ([]) sz) := by
  refine fq_open (by decide +kernel) (Nat.le_of_ble_eq_true rfl) ?_
  intro pg ev s mt below meth cd ls K hret hlk hin hK hZ hP hD hA hS hl
  generalize va_A ([]) sz = A at hZ hD hA hS ⊢
  have K : fq_Ctx pg mt cd cb_Stage_init 1 s _ cn_Stage := K
  have hin : meth.name = "<init>" := hin
  have hl : lv_has ls 1 [(0, .ref h)] := hl
  refine lv_aload_n K.1 K.2.1 dc_Stage_init_0 rfl (lv_at hl 0 rfl) ?_
  refine W.objInit K.1 K.2.1 K.2.2.2.1 (K.2.2.2.2 _ wd_240) (K.2.2.2.2 _ wd_54) (K.2.2.2.2 _ wd_55) rfl (by rw [K.2.2.1]; exact hl.1) rfl dc_Stage_init_1 (Nat.le_of_ble_eq_true rfl) (Nat.le_of_ble_eq_true rfl) ?_
  refine W.eq (g2 := F0 mt 4 ls []) rfl ?_
  exact fq_retv K hret hlk hS hP hD rfl dc_Stage_init_4 (Nat.le_of_ble_eq_true rfl) (Nat.le_of_ble_eq_true rfl)
set_option maxHeartbeats 4000000 in
set_option maxRecDepth 100000 in
theorem ct_Section_init (l : Launch) (D : va_G) (cI cO : ClassId) (tE : Nat) (h : Nat) (b0 b1 b2 a1 a2 : Int32) (sz : Nat) : Met l my_Section_init (fq_w my_Section_init cb_Section_init 6 none) ({ frames := 2, cells := 0, slots := 0, locals := 32 }) (va_Pc ([.ref h, .int b0, .int b1, .int b2, .int a1, .int a2]) (fq_Pre D cI cO tE sz ([(h, .inr (2, [.int 0, .int 0, .int 0, .int 0, .int 0, .int 0, .int 0, .int 0, .int 0, .int 0]))]))) (va_Qv (S := va_W) (fun w => w = [(h, .inr (2, [.int b0, .int b1, .int b2, .int a1, .int a2, .int 0, .int 0, .int 0, .int 0, .int 0]))]) (fq_Bw D (va_A ([(h, .inr (2, [.int 0, .int 0, .int 0, .int 0, .int 0, .int 0, .int 0, .int 0, .int 0, .int 0]))]) sz)) (va_A ([(h, .inr (2, [.int 0, .int 0, .int 0, .int 0, .int 0, .int 0, .int 0, .int 0, .int 0, .int 0]))]) sz)) (0) (0) (va_A ([(h, .inr (2, [.int 0, .int 0, .int 0, .int 0, .int 0, .int 0, .int 0, .int 0, .int 0, .int 0]))]) sz) := by
  refine fq_open (by decide +kernel) (Nat.le_of_ble_eq_true rfl) ?_
  intro pg ev s mt below meth cd ls K hret hlk hin hK hZ hP hD hA hS hl
  generalize va_A ([(h, .inr (2, [.int 0, .int 0, .int 0, .int 0, .int 0, .int 0, .int 0, .int 0, .int 0, .int 0]))]) sz = A at hZ hD hA hS ⊢
  have K : fq_Ctx pg mt cd cb_Section_init 6 s _ cn_Section := K
  have hin : meth.name = "<init>" := hin
  have hl : lv_has ls 6 [(0, .ref h), (1, .int b0), (2, .int b1), (3, .int b2), (4, .int a1), (5, .int a2)] := hl
  refine lv_aload_n K.1 K.2.1 dc_Section_init_0 rfl (lv_at hl 0 rfl) ?_
  have hc := fq_cut.of (wc := []) hP hD hS hA [] (by decide) rfl
  refine fq_cv (wr := [(h, .inr (2, [.int 0, .int 0, .int 0, .int 0, .int 0, .int 0, .int 0, .int 0, .int 0, .int 0]))]) (fq_rIN K hK hZ hS hc (ct_Stage_init l D cI cO tE h _) yk_Stage_init wd_238 rfl wn_237 ⟨⟨rfl, rfl⟩, ⟨Nat.le_of_ble_eq_true rfl, Nat.le_of_ble_eq_true rfl⟩, ⟨Nat.le_of_ble_eq_true rfl, Nat.le_of_ble_eq_true rfl⟩⟩ hl.1 rfl (Nat.le_of_ble_eq_true rfl) dc_Section_init_1) hP hD hS hc [] [0] rfl rfl (by decide) (by decide) (fun  w H locs hw1 hP hD hS => ?_)
  subst hw1
  have hP : va_P D fq_cl ([(h, .inr (2, [.int 0, .int 0, .int 0, .int 0, .int 0, .int 0, .int 0, .int 0, .int 0, .int 0]))]) _ := hP
  have hD : va_D A ([(h, .inr (2, [.int 0, .int 0, .int 0, .int 0, .int 0, .int 0, .int 0, .int 0, .int 0, .int 0]))]) := hD
  refine lv_aload_n K.1 K.2.1 dc_Section_init_4 rfl (lv_at hl 0 rfl) ?_
  refine lv_iload_n K.1 K.2.1 dc_Section_init_5 rfl (lv_at hl 1 rfl) ?_
  refine fq_putF K hK cl_Section hP hD hS hin 0 0 rfl (by decide) wd_241 rfl rfl rfl rfl (Nat.le_of_ble_eq_true rfl) dc_Section_init_6 (fun H locs hP hD hS => ?_)
  have hP : va_P D fq_cl ([(h, .inr (2, [.int b0, .int 0, .int 0, .int 0, .int 0, .int 0, .int 0, .int 0, .int 0, .int 0]))]) _ := hP
  have hD : va_D A ([(h, .inr (2, [.int b0, .int 0, .int 0, .int 0, .int 0, .int 0, .int 0, .int 0, .int 0, .int 0]))]) := hD
  refine lv_aload_n K.1 K.2.1 dc_Section_init_9 rfl (lv_at hl 0 rfl) ?_
  refine lv_iload_n K.1 K.2.1 dc_Section_init_10 rfl (lv_at hl 2 rfl) ?_
  refine fq_putF K hK cl_Section hP hD hS hin 0 1 rfl (by decide) wd_242 rfl rfl rfl rfl (Nat.le_of_ble_eq_true rfl) dc_Section_init_11 (fun H locs hP hD hS => ?_)
  have hP : va_P D fq_cl ([(h, .inr (2, [.int b0, .int b1, .int 0, .int 0, .int 0, .int 0, .int 0, .int 0, .int 0, .int 0]))]) _ := hP
  have hD : va_D A ([(h, .inr (2, [.int b0, .int b1, .int 0, .int 0, .int 0, .int 0, .int 0, .int 0, .int 0, .int 0]))]) := hD
  refine lv_aload_n K.1 K.2.1 dc_Section_init_14 rfl (lv_at hl 0 rfl) ?_
  refine lv_iload_n K.1 K.2.1 dc_Section_init_15 rfl (lv_at hl 3 rfl) ?_
  refine fq_putF K hK cl_Section hP hD hS hin 0 2 rfl (by decide) wd_243 rfl rfl rfl rfl (Nat.le_of_ble_eq_true rfl) dc_Section_init_16 (fun H locs hP hD hS => ?_)
  have hP : va_P D fq_cl ([(h, .inr (2, [.int b0, .int b1, .int b2, .int 0, .int 0, .int 0, .int 0, .int 0, .int 0, .int 0]))]) _ := hP
  have hD : va_D A ([(h, .inr (2, [.int b0, .int b1, .int b2, .int 0, .int 0, .int 0, .int 0, .int 0, .int 0, .int 0]))]) := hD
  refine lv_aload_n K.1 K.2.1 dc_Section_init_19 rfl (lv_at hl 0 rfl) ?_
  refine lv_iload K.1 K.2.1 dc_Section_init_20 (lv_at hl 4 rfl) ?_
  refine fq_putF K hK cl_Section hP hD hS hin 0 3 rfl (by decide) wd_244 rfl rfl rfl rfl (Nat.le_of_ble_eq_true rfl) dc_Section_init_22 (fun H locs hP hD hS => ?_)
  have hP : va_P D fq_cl ([(h, .inr (2, [.int b0, .int b1, .int b2, .int a1, .int 0, .int 0, .int 0, .int 0, .int 0, .int 0]))]) _ := hP
  have hD : va_D A ([(h, .inr (2, [.int b0, .int b1, .int b2, .int a1, .int 0, .int 0, .int 0, .int 0, .int 0, .int 0]))]) := hD
  refine lv_aload_n K.1 K.2.1 dc_Section_init_25 rfl (lv_at hl 0 rfl) ?_
  refine lv_iload K.1 K.2.1 dc_Section_init_26 (lv_at hl 5 rfl) ?_
  refine fq_putF K hK cl_Section hP hD hS hin 0 4 rfl (by decide) wd_245 rfl rfl rfl rfl (Nat.le_of_ble_eq_true rfl) dc_Section_init_28 (fun H locs hP hD hS => ?_)
  have hP : va_P D fq_cl ([(h, .inr (2, [.int b0, .int b1, .int b2, .int a1, .int a2, .int 0, .int 0, .int 0, .int 0, .int 0]))]) _ := hP
  have hD : va_D A ([(h, .inr (2, [.int b0, .int b1, .int b2, .int a1, .int a2, .int 0, .int 0, .int 0, .int 0, .int 0]))]) := hD
  exact fq_retv K hret hlk hS hP hD rfl dc_Section_init_31 (Nat.le_of_ble_eq_true rfl) (Nat.le_of_ble_eq_true rfl)
set_option maxHeartbeats 4000000 in
set_option maxRecDepth 100000 in
theorem ct_Section_take (l : Launch) (D : va_G) (cI cO : ClassId) (tE : Nat) (h : Nat) (b0 b1 b2 a1 a2 x0 x1 x2 y1 y2 : Int32) (sp : fm_S) (xs : List Int) (m : Nat) (x : Int32) (hsc : sc_ok b0 b1 b2 a1 a2 x0 x1 x2 y1 y2 sp xs m) (hx : fm_in x.toInt) (sz : Nat) : Met l my_Section_take (fq_w my_Section_take cb_Section_take 2 (some .int)) ({ frames := 0, cells := 0, slots := 0, locals := 0 }) (va_Pc ([.ref h, .int x]) (fq_Pre D cI cO tE sz ([(h, .inr (2, [.int b0, .int b1, .int b2, .int a1, .int a2, .int x0, .int x1, .int x2, .int y1, .int y2]))]))) (va_Qi (S := va_W) (fun r w => r = 1 ∧ sg_sec h sp (xs ++ [x.toInt]) m w) (fq_Bw D (va_A ([(h, .inr (2, [.int b0, .int b1, .int b2, .int a1, .int a2, .int x0, .int x1, .int x2, .int y1, .int y2]))]) sz)) (va_A ([(h, .inr (2, [.int b0, .int b1, .int b2, .int a1, .int a2, .int x0, .int x1, .int x2, .int y1, .int y2]))]) sz)) (0) (0) (va_A ([(h, .inr (2, [.int b0, .int b1, .int b2, .int a1, .int a2, .int x0, .int x1, .int x2, .int y1, .int y2]))]) sz) := by
  refine fq_open (by decide +kernel) (Nat.le_of_ble_eq_true rfl) ?_
  intro pg ev s mt below meth cd ls K hret hlk hin hK hZ hP hD hA hS hl
  generalize va_A ([(h, .inr (2, [.int b0, .int b1, .int b2, .int a1, .int a2, .int x0, .int x1, .int x2, .int y1, .int y2]))]) sz = A at hZ hD hA hS ⊢
  have K : fq_Ctx pg mt cd cb_Section_take 2 s _ cn_Section := K
  have hl : lv_has ls 2 [(0, .ref h), (1, .int x)] := hl
  refine lv_aload_n K.1 K.2.1 dc_Section_take_0 rfl (lv_at hl 0 rfl) ?_
  refine lv_aload_n K.1 K.2.1 dc_Section_take_1 rfl (lv_at hl 0 rfl) ?_
  refine fq_get K hK cl_Section hP 0 6 rfl (by decide) wd_247 rfl dc_Section_take_2 ?_
  refine fq_put K hK cl_Section hP hD hS 0 7 rfl (by decide) wd_248 rfl rfl rfl (Nat.le_of_ble_eq_true rfl) dc_Section_take_5 (fun H locs hP hD hS => ?_)
  have hP : va_P D fq_cl ([(h, .inr (2, [.int b0, .int b1, .int b2, .int a1, .int a2, .int x0, .int x1, .int x1, .int y1, .int y2]))]) _ := hP
  have hD : va_D A ([(h, .inr (2, [.int b0, .int b1, .int b2, .int a1, .int a2, .int x0, .int x1, .int x1, .int y1, .int y2]))]) := hD
  refine lv_aload_n K.1 K.2.1 dc_Section_take_8 rfl (lv_at hl 0 rfl) ?_
  refine lv_aload_n K.1 K.2.1 dc_Section_take_9 rfl (lv_at hl 0 rfl) ?_
  refine fq_get K hK cl_Section hP 0 5 rfl (by decide) wd_246 rfl dc_Section_take_10 ?_
  refine fq_put K hK cl_Section hP hD hS 0 6 rfl (by decide) wd_247 rfl rfl rfl (Nat.le_of_ble_eq_true rfl) dc_Section_take_13 (fun H locs hP hD hS => ?_)
  have hP : va_P D fq_cl ([(h, .inr (2, [.int b0, .int b1, .int b2, .int a1, .int a2, .int x0, .int x0, .int x1, .int y1, .int y2]))]) _ := hP
  have hD : va_D A ([(h, .inr (2, [.int b0, .int b1, .int b2, .int a1, .int a2, .int x0, .int x0, .int x1, .int y1, .int y2]))]) := hD
  refine lv_aload_n K.1 K.2.1 dc_Section_take_16 rfl (lv_at hl 0 rfl) ?_
  refine lv_iload_n K.1 K.2.1 dc_Section_take_17 rfl (lv_at hl 1 rfl) ?_
  refine fq_put K hK cl_Section hP hD hS 0 5 rfl (by decide) wd_246 rfl rfl rfl (Nat.le_of_ble_eq_true rfl) dc_Section_take_18 (fun H locs hP hD hS => ?_)
  have hP : va_P D fq_cl ([(h, .inr (2, [.int b0, .int b1, .int b2, .int a1, .int a2, .int x, .int x0, .int x1, .int y1, .int y2]))]) _ := hP
  have hD : va_D A ([(h, .inr (2, [.int b0, .int b1, .int b2, .int a1, .int a2, .int x, .int x0, .int x1, .int y1, .int y2]))]) := hD
  refine lv_iconst (v := 1) K.1 K.2.1 dc_Section_take_21 (by decide) ?_
  exact fq_reti K hret hlk hS hP hD ⟨rfl, _, _, _, _, _, _, _, _, _, _, rfl, sc_take hsc hx⟩ dc_Section_take_22 (Nat.le_of_ble_eq_true rfl) (Nat.le_of_ble_eq_true rfl)
set_option maxHeartbeats 4000000 in
set_option maxRecDepth 100000 in
theorem ct_Section_finish (l : Launch) (D : va_G) (cI cO : ClassId) (tE : Nat) (h : Nat) (b0 b1 b2 a1 a2 x0 x1 x2 y1 y2 : Int32) (sp : fm_S) (xs : List Int) (m : Nat) (hsc : sc_ok b0 b1 b2 a1 a2 x0 x1 x2 y1 y2 sp xs m) (sz : Nat) : Met l my_Section_finish (fq_w my_Section_finish cb_Section_finish 1 (some .int)) ({ frames := 0, cells := 0, slots := 0, locals := 0 }) (va_Pc ([.ref h]) (fq_Pre D cI cO tE sz ([(h, .inr (2, [.int b0, .int b1, .int b2, .int a1, .int a2, .int x0, .int x1, .int x2, .int y1, .int y2]))]))) (va_Qi (S := va_W) (fun r w => r = 0 ∧ sg_sec h sp xs m w) (fq_Bw D (va_A ([(h, .inr (2, [.int b0, .int b1, .int b2, .int a1, .int a2, .int x0, .int x1, .int x2, .int y1, .int y2]))]) sz)) (va_A ([(h, .inr (2, [.int b0, .int b1, .int b2, .int a1, .int a2, .int x0, .int x1, .int x2, .int y1, .int y2]))]) sz)) (0) (0) (va_A ([(h, .inr (2, [.int b0, .int b1, .int b2, .int a1, .int a2, .int x0, .int x1, .int x2, .int y1, .int y2]))]) sz) := by
  refine fq_open (by decide +kernel) (Nat.le_of_ble_eq_true rfl) ?_
  intro pg ev s mt below meth cd ls K hret hlk hin hK hZ hP hD hA hS hl
  generalize va_A ([(h, .inr (2, [.int b0, .int b1, .int b2, .int a1, .int a2, .int x0, .int x1, .int x2, .int y1, .int y2]))]) sz = A at hZ hD hA hS ⊢
  have K : fq_Ctx pg mt cd cb_Section_finish 1 s _ cn_Section := K
  have hl : lv_has ls 1 [(0, .ref h)] := hl
  refine lv_iconst (v := 0) K.1 K.2.1 dc_Section_finish_0 (by decide) ?_
  exact fq_reti K hret hlk hS hP hD ⟨rfl, _, _, _, _, _, _, _, _, _, _, rfl, hsc⟩ dc_Section_finish_1 (Nat.le_of_ble_eq_true rfl) (Nat.le_of_ble_eq_true rfl)
set_option maxHeartbeats 4000000 in
set_option maxRecDepth 100000 in
theorem ct_Section_make (l : Launch) (D : va_G) (cI cO : ClassId) (tE : Nat) (h : Nat) (b0 b1 b2 a1 a2 x0 x1 x2 y1 y2 : Int32) (sp : fm_S) (xs : List Int) (m : Nat) (hsc : sc_ok b0 b1 b2 a1 a2 x0 x1 x2 y1 y2 sp xs m) (hm : m + 1 = xs.length) (sz : Nat) : Met l my_Section_make (fq_w my_Section_make cb_Section_make 3 (some .int)) ({ frames := 2, cells := 0, slots := 0, locals := 38 }) (va_Pc ([.ref h]) (fq_Pre D cI cO tE sz ([(h, .inr (2, [.int b0, .int b1, .int b2, .int a1, .int a2, .int x0, .int x1, .int x2, .int y1, .int y2]))]))) (va_Qi (S := va_W) (fun r w => r.toInt = fm_y sp xs m ∧ sg_sec h sp xs (m + 1) w) (fq_Bw D (va_A ([(h, .inr (2, [.int b0, .int b1, .int b2, .int a1, .int a2, .int x0, .int x1, .int x2, .int y1, .int y2]))]) sz)) (va_A ([(h, .inr (2, [.int b0, .int b1, .int b2, .int a1, .int a2, .int x0, .int x1, .int x2, .int y1, .int y2]))]) sz)) (0) (0) (va_A ([(h, .inr (2, [.int b0, .int b1, .int b2, .int a1, .int a2, .int x0, .int x1, .int x2, .int y1, .int y2]))]) sz) := by
  refine fq_open (by decide +kernel) (Nat.le_of_ble_eq_true rfl) ?_
  intro pg ev s mt below meth cd ls K hret hlk hin hK hZ hP hD hA hS hl
  generalize va_A ([(h, .inr (2, [.int b0, .int b1, .int b2, .int a1, .int a2, .int x0, .int x1, .int x2, .int y1, .int y2]))]) sz = A at hZ hD hA hS ⊢
  have K : fq_Ctx pg mt cd cb_Section_make 3 s _ cn_Section := K
  have hl : lv_has ls 3 [(0, .ref h)] := hl
  refine lv_aload_n K.1 K.2.1 dc_Section_make_0 rfl (lv_at hl 0 rfl) ?_
  refine fq_get K hK cl_Section hP 0 0 rfl (by decide) wd_241 rfl dc_Section_make_1 ?_
  refine lv_i2l K.1 K.2.1 dc_Section_make_4 rfl ?_
  refine lv_aload_n K.1 K.2.1 dc_Section_make_5 rfl (lv_at hl 0 rfl) ?_
  refine fq_get K hK cl_Section hP 0 5 rfl (by decide) wd_246 rfl dc_Section_make_6 ?_
  refine lv_i2l K.1 K.2.1 dc_Section_make_9 rfl ?_
  refine lv_lmul K.1 K.2.1 dc_Section_make_10 ?_
  refine lv_aload_n K.1 K.2.1 dc_Section_make_11 rfl (lv_at hl 0 rfl) ?_
  refine fq_get K hK cl_Section hP 0 1 rfl (by decide) wd_242 rfl dc_Section_make_12 ?_
  refine lv_i2l K.1 K.2.1 dc_Section_make_15 rfl ?_
  refine lv_aload_n K.1 K.2.1 dc_Section_make_16 rfl (lv_at hl 0 rfl) ?_
  refine fq_get K hK cl_Section hP 0 6 rfl (by decide) wd_247 rfl dc_Section_make_17 ?_
  refine lv_i2l K.1 K.2.1 dc_Section_make_20 rfl ?_
  refine lv_lmul K.1 K.2.1 dc_Section_make_21 ?_
  refine lv_ladd K.1 K.2.1 dc_Section_make_22 ?_
  refine lv_aload_n K.1 K.2.1 dc_Section_make_23 rfl (lv_at hl 0 rfl) ?_
  refine fq_get K hK cl_Section hP 0 2 rfl (by decide) wd_243 rfl dc_Section_make_24 ?_
  refine lv_i2l K.1 K.2.1 dc_Section_make_27 rfl ?_
  refine lv_aload_n K.1 K.2.1 dc_Section_make_28 rfl (lv_at hl 0 rfl) ?_
  refine fq_get K hK cl_Section hP 0 7 rfl (by decide) wd_248 rfl dc_Section_make_29 ?_
  refine lv_i2l K.1 K.2.1 dc_Section_make_32 rfl ?_
  refine lv_lmul K.1 K.2.1 dc_Section_make_33 ?_
  refine lv_ladd K.1 K.2.1 dc_Section_make_34 ?_
  refine lv_aload_n K.1 K.2.1 dc_Section_make_35 rfl (lv_at hl 0 rfl) ?_
  refine fq_get K hK cl_Section hP 0 3 rfl (by decide) wd_244 rfl dc_Section_make_36 ?_
  refine lv_i2l K.1 K.2.1 dc_Section_make_39 rfl ?_
  refine lv_aload_n K.1 K.2.1 dc_Section_make_40 rfl (lv_at hl 0 rfl) ?_
  refine fq_get K hK cl_Section hP 0 8 rfl (by decide) wd_249 rfl dc_Section_make_41 ?_
  refine lv_i2l K.1 K.2.1 dc_Section_make_44 rfl ?_
  refine lv_lmul K.1 K.2.1 dc_Section_make_45 ?_
  refine lv_lsub K.1 K.2.1 dc_Section_make_46 ?_
  refine lv_aload_n K.1 K.2.1 dc_Section_make_47 rfl (lv_at hl 0 rfl) ?_
  refine fq_get K hK cl_Section hP 0 4 rfl (by decide) wd_245 rfl dc_Section_make_48 ?_
  refine lv_i2l K.1 K.2.1 dc_Section_make_51 rfl ?_
  refine lv_aload_n K.1 K.2.1 dc_Section_make_52 rfl (lv_at hl 0 rfl) ?_
  refine fq_get K hK cl_Section hP 0 9 rfl (by decide) wd_250 rfl dc_Section_make_53 ?_
  refine lv_i2l K.1 K.2.1 dc_Section_make_56 rfl ?_
  refine lv_lmul K.1 K.2.1 dc_Section_make_57 ?_
  refine lv_lsub K.1 K.2.1 dc_Section_make_58 ?_
  refine lv_topl (fun v1 e_v1 => ?_)
  refine lv_lstore_n K.1 K.2.1 dc_Section_make_59 rfl hl (by decide) rfl (fun ls hl => ?_)
  have hl : lv_has ls 3 [(1, .long v1), (0, .ref h)] := hl
  refine lv_aload_n K.1 K.2.1 dc_Section_make_60 rfl (lv_at hl 1 rfl) ?_
  refine lv_aload_n K.1 K.2.1 dc_Section_make_61 rfl (lv_at hl 1 rfl) ?_
  refine fq_get K hK cl_Section hP 0 8 rfl (by decide) wd_249 rfl dc_Section_make_62 ?_
  refine fq_put K hK cl_Section hP hD hS 0 9 rfl (by decide) wd_250 rfl rfl rfl (Nat.le_of_ble_eq_true rfl) dc_Section_make_65 (fun H locs hP hD hS => ?_)
  have hP : va_P D fq_cl ([(h, .inr (2, [.int b0, .int b1, .int b2, .int a1, .int a2, .int x0, .int x1, .int x2, .int y1, .int y1]))]) _ := hP
  have hD : va_D A ([(h, .inr (2, [.int b0, .int b1, .int b2, .int a1, .int a2, .int x0, .int x1, .int x2, .int y1, .int y1]))]) := hD
  refine lv_aload_n K.1 K.2.1 dc_Section_make_68 rfl (lv_at hl 1 rfl) ?_
  refine lv_lload_n K.1 K.2.1 dc_Section_make_69 rfl (lv_at hl 0 rfl) ?_
  refine lv_ldc2 (v := 16384) K.1 K.2.1 K.2.2.2.1 (K.2.2.2.2 _ wd_490) dc_Section_make_70 ?_
  have hc := fq_cut.of (wc := []) hP hD hS hA [] (by decide) rfl
  refine fq_cl_ (wr := [(h, .inr (2, [.int b0, .int b1, .int b2, .int a1, .int a2, .int x0, .int x1, .int x2, .int y1, .int y1]))]) (fq_rS K hK hZ hS hc (ct_Ma_floorDiv l D cI cO tE v1 16384 (by decide) _) yk_Ma_floorDiv wd_345 wd_679 ⟨⟨rfl, rfl⟩, ⟨Nat.le_of_ble_eq_true rfl, Nat.le_of_ble_eq_true rfl⟩, ⟨Nat.le_of_ble_eq_true rfl, Nat.le_of_ble_eq_true rfl⟩⟩ hl.1 rfl (Nat.le_of_ble_eq_true rfl) dc_Section_make_73) hP hD hS hc [] [0] rfl rfl (by decide) (by decide) (fun r1 w H locs hw1 hP hD hS => ?_)
  obtain ⟨rfl, hd1⟩ := hw1
  have hP : va_P D fq_cl ([(h, .inr (2, [.int b0, .int b1, .int b2, .int a1, .int a2, .int x0, .int x1, .int x2, .int y1, .int y1]))]) _ := hP
  have hD : va_D A ([(h, .inr (2, [.int b0, .int b1, .int b2, .int a1, .int a2, .int x0, .int x1, .int x2, .int y1, .int y1]))]) := hD
  have hc := fq_cut.of (wc := []) hP hD hS hA [] (by decide) rfl
  refine fq_ci (wr := [(h, .inr (2, [.int b0, .int b1, .int b2, .int a1, .int a2, .int x0, .int x1, .int x2, .int y1, .int y1]))]) (fq_rSN K hK hZ hS hc (ct_FP_clipped l D cI cO tE r1 _) yk_FP_clipped wd_654 wn_680 ⟨⟨rfl, rfl⟩, ⟨Nat.le_of_ble_eq_true rfl, Nat.le_of_ble_eq_true rfl⟩, ⟨Nat.le_of_ble_eq_true rfl, Nat.le_of_ble_eq_true rfl⟩⟩ hl.1 rfl (Nat.le_of_ble_eq_true rfl) dc_Section_make_76) hP hD hS hc [] [0] rfl rfl (by decide) (by decide) (fun r2 w H locs hw2 hP hD hS => ?_)
  obtain ⟨rfl, hd2⟩ := hw2
  have hP : va_P D fq_cl ([(h, .inr (2, [.int b0, .int b1, .int b2, .int a1, .int a2, .int x0, .int x1, .int x2, .int y1, .int y1]))]) _ := hP
  have hD : va_D A ([(h, .inr (2, [.int b0, .int b1, .int b2, .int a1, .int a2, .int x0, .int x1, .int x2, .int y1, .int y1]))]) := hD
  refine fq_put K hK cl_Section hP hD hS 0 8 rfl (by decide) wd_249 rfl rfl rfl (Nat.le_of_ble_eq_true rfl) dc_Section_make_79 (fun H locs hP hD hS => ?_)
  have hP : va_P D fq_cl ([(h, .inr (2, [.int b0, .int b1, .int b2, .int a1, .int a2, .int x0, .int x1, .int x2, .int r2, .int y1]))]) _ := hP
  have hD : va_D A ([(h, .inr (2, [.int b0, .int b1, .int b2, .int a1, .int a2, .int x0, .int x1, .int x2, .int r2, .int y1]))]) := hD
  refine lv_aload_n K.1 K.2.1 dc_Section_make_82 rfl (lv_at hl 1 rfl) ?_
  refine fq_get K hK cl_Section hP 0 8 rfl (by decide) wd_249 rfl dc_Section_make_83 ?_
  exact fq_reti K hret hlk hS hP hD ⟨(sc_make hsc hm e_v1 hd1 hd2).1, _, _, _, _, _, _, _, _, _, _, rfl, (sc_make hsc hm e_v1 hd1 hd2).2⟩ dc_Section_make_86 (Nat.le_of_ble_eq_true rfl) (Nat.le_of_ble_eq_true rfl)
set_option maxHeartbeats 4000000 in
set_option maxRecDepth 100000 in
theorem ct_Section_clear (l : Launch) (D : va_G) (cI cO : ClassId) (tE : Nat) (h : Nat) (b0 b1 b2 a1 a2 x0 x1 x2 y1 y2 : Int32) (sp : fm_S) (xs : List Int) (m : Nat) (hsc : sc_ok b0 b1 b2 a1 a2 x0 x1 x2 y1 y2 sp xs m) (sz : Nat) : Met l my_Section_clear (fq_w my_Section_clear cb_Section_clear 1 none) ({ frames := 0, cells := 0, slots := 0, locals := 0 }) (va_Pc ([.ref h]) (fq_Pre D cI cO tE sz ([(h, .inr (2, [.int b0, .int b1, .int b2, .int a1, .int a2, .int x0, .int x1, .int x2, .int y1, .int y2]))]))) (va_Qv (S := va_W) (fun w => sg_sec h sp [] 0 w) (fq_Bw D (va_A ([(h, .inr (2, [.int b0, .int b1, .int b2, .int a1, .int a2, .int x0, .int x1, .int x2, .int y1, .int y2]))]) sz)) (va_A ([(h, .inr (2, [.int b0, .int b1, .int b2, .int a1, .int a2, .int x0, .int x1, .int x2, .int y1, .int y2]))]) sz)) (0) (0) (va_A ([(h, .inr (2, [.int b0, .int b1, .int b2, .int a1, .int a2, .int x0, .int x1, .int x2, .int y1, .int y2]))]) sz) := by
  refine fq_open (by decide +kernel) (Nat.le_of_ble_eq_true rfl) ?_
  intro pg ev s mt below meth cd ls K hret hlk hin hK hZ hP hD hA hS hl
  generalize va_A ([(h, .inr (2, [.int b0, .int b1, .int b2, .int a1, .int a2, .int x0, .int x1, .int x2, .int y1, .int y2]))]) sz = A at hZ hD hA hS ⊢
  have K : fq_Ctx pg mt cd cb_Section_clear 1 s _ cn_Section := K
  have hl : lv_has ls 1 [(0, .ref h)] := hl
  refine lv_aload_n K.1 K.2.1 dc_Section_clear_0 rfl (lv_at hl 0 rfl) ?_
  refine lv_iconst (v := 0) K.1 K.2.1 dc_Section_clear_1 (by decide) ?_
  refine fq_put K hK cl_Section hP hD hS 0 5 rfl (by decide) wd_246 rfl rfl rfl (Nat.le_of_ble_eq_true rfl) dc_Section_clear_2 (fun H locs hP hD hS => ?_)
  have hP : va_P D fq_cl ([(h, .inr (2, [.int b0, .int b1, .int b2, .int a1, .int a2, .int 0, .int x1, .int x2, .int y1, .int y2]))]) _ := hP
  have hD : va_D A ([(h, .inr (2, [.int b0, .int b1, .int b2, .int a1, .int a2, .int 0, .int x1, .int x2, .int y1, .int y2]))]) := hD
  refine lv_aload_n K.1 K.2.1 dc_Section_clear_5 rfl (lv_at hl 0 rfl) ?_
  refine lv_iconst (v := 0) K.1 K.2.1 dc_Section_clear_6 (by decide) ?_
  refine fq_put K hK cl_Section hP hD hS 0 6 rfl (by decide) wd_247 rfl rfl rfl (Nat.le_of_ble_eq_true rfl) dc_Section_clear_7 (fun H locs hP hD hS => ?_)
  have hP : va_P D fq_cl ([(h, .inr (2, [.int b0, .int b1, .int b2, .int a1, .int a2, .int 0, .int 0, .int x2, .int y1, .int y2]))]) _ := hP
  have hD : va_D A ([(h, .inr (2, [.int b0, .int b1, .int b2, .int a1, .int a2, .int 0, .int 0, .int x2, .int y1, .int y2]))]) := hD
  refine lv_aload_n K.1 K.2.1 dc_Section_clear_10 rfl (lv_at hl 0 rfl) ?_
  refine lv_iconst (v := 0) K.1 K.2.1 dc_Section_clear_11 (by decide) ?_
  refine fq_put K hK cl_Section hP hD hS 0 7 rfl (by decide) wd_248 rfl rfl rfl (Nat.le_of_ble_eq_true rfl) dc_Section_clear_12 (fun H locs hP hD hS => ?_)
  have hP : va_P D fq_cl ([(h, .inr (2, [.int b0, .int b1, .int b2, .int a1, .int a2, .int 0, .int 0, .int 0, .int y1, .int y2]))]) _ := hP
  have hD : va_D A ([(h, .inr (2, [.int b0, .int b1, .int b2, .int a1, .int a2, .int 0, .int 0, .int 0, .int y1, .int y2]))]) := hD
  refine lv_aload_n K.1 K.2.1 dc_Section_clear_15 rfl (lv_at hl 0 rfl) ?_
  refine lv_iconst (v := 0) K.1 K.2.1 dc_Section_clear_16 (by decide) ?_
  refine fq_put K hK cl_Section hP hD hS 0 8 rfl (by decide) wd_249 rfl rfl rfl (Nat.le_of_ble_eq_true rfl) dc_Section_clear_17 (fun H locs hP hD hS => ?_)
  have hP : va_P D fq_cl ([(h, .inr (2, [.int b0, .int b1, .int b2, .int a1, .int a2, .int 0, .int 0, .int 0, .int 0, .int y2]))]) _ := hP
  have hD : va_D A ([(h, .inr (2, [.int b0, .int b1, .int b2, .int a1, .int a2, .int 0, .int 0, .int 0, .int 0, .int y2]))]) := hD
  refine lv_aload_n K.1 K.2.1 dc_Section_clear_20 rfl (lv_at hl 0 rfl) ?_
  refine lv_iconst (v := 0) K.1 K.2.1 dc_Section_clear_21 (by decide) ?_
  refine fq_put K hK cl_Section hP hD hS 0 9 rfl (by decide) wd_250 rfl rfl rfl (Nat.le_of_ble_eq_true rfl) dc_Section_clear_22 (fun H locs hP hD hS => ?_)
  have hP : va_P D fq_cl ([(h, .inr (2, [.int b0, .int b1, .int b2, .int a1, .int a2, .int 0, .int 0, .int 0, .int 0, .int 0]))]) _ := hP
  have hD : va_D A ([(h, .inr (2, [.int b0, .int b1, .int b2, .int a1, .int a2, .int 0, .int 0, .int 0, .int 0, .int 0]))]) := hD
  exact fq_retv K hret hlk hS hP hD ⟨_, _, _, _, _, _, _, _, _, _, rfl, sc_nil hsc.1 hsc.2.1⟩ dc_Section_clear_25 (Nat.le_of_ble_eq_true rfl) (Nat.le_of_ble_eq_true rfl)
set_option maxHeartbeats 4000000 in
set_option maxRecDepth 100000 in
theorem ct_Gain_init (l : Launch) (D : va_G) (cI cO : ClassId) (tE : Nat) (h : Nat) (fa : Int32) (sz : Nat) : Met l my_Gain_init (fq_w my_Gain_init cb_Gain_init 2 none) ({ frames := 2, cells := 0, slots := 0, locals := 32 }) (va_Pc ([.ref h, .int fa]) (fq_Pre D cI cO tE sz ([(h, .inr (3, [.int 0, .int 0]))]))) (va_Qv (S := va_W) (fun w => w = [(h, .inr (3, [.int fa, .int 0]))]) (fq_Bw D (va_A ([(h, .inr (3, [.int 0, .int 0]))]) sz)) (va_A ([(h, .inr (3, [.int 0, .int 0]))]) sz)) (0) (0) (va_A ([(h, .inr (3, [.int 0, .int 0]))]) sz) := by
  refine fq_open (by decide +kernel) (Nat.le_of_ble_eq_true rfl) ?_
  intro pg ev s mt below meth cd ls K hret hlk hin hK hZ hP hD hA hS hl
  generalize va_A ([(h, .inr (3, [.int 0, .int 0]))]) sz = A at hZ hD hA hS ⊢
  have K : fq_Ctx pg mt cd cb_Gain_init 2 s _ cn_Gain := K
  have hin : meth.name = "<init>" := hin
  have hl : lv_has ls 2 [(0, .ref h), (1, .int fa)] := hl
  refine lv_aload_n K.1 K.2.1 dc_Gain_init_0 rfl (lv_at hl 0 rfl) ?_
  have hc := fq_cut.of (wc := []) hP hD hS hA [] (by decide) rfl
  refine fq_cv (wr := [(h, .inr (3, [.int 0, .int 0]))]) (fq_rIN K hK hZ hS hc (ct_Stage_init l D cI cO tE h _) yk_Stage_init wd_238 rfl wn_359 ⟨⟨rfl, rfl⟩, ⟨Nat.le_of_ble_eq_true rfl, Nat.le_of_ble_eq_true rfl⟩, ⟨Nat.le_of_ble_eq_true rfl, Nat.le_of_ble_eq_true rfl⟩⟩ hl.1 rfl (Nat.le_of_ble_eq_true rfl) dc_Gain_init_1) hP hD hS hc [] [0] rfl rfl (by decide) (by decide) (fun  w H locs hw1 hP hD hS => ?_)
  subst hw1
  have hP : va_P D fq_cl ([(h, .inr (3, [.int 0, .int 0]))]) _ := hP
  have hD : va_D A ([(h, .inr (3, [.int 0, .int 0]))]) := hD
  refine lv_aload_n K.1 K.2.1 dc_Gain_init_4 rfl (lv_at hl 0 rfl) ?_
  refine lv_iload_n K.1 K.2.1 dc_Gain_init_5 rfl (lv_at hl 1 rfl) ?_
  refine fq_putF K hK cl_Gain hP hD hS hin 0 0 rfl (by decide) wd_360 rfl rfl rfl rfl (Nat.le_of_ble_eq_true rfl) dc_Gain_init_6 (fun H locs hP hD hS => ?_)
  have hP : va_P D fq_cl ([(h, .inr (3, [.int fa, .int 0]))]) _ := hP
  have hD : va_D A ([(h, .inr (3, [.int fa, .int 0]))]) := hD
  exact fq_retv K hret hlk hS hP hD rfl dc_Gain_init_9 (Nat.le_of_ble_eq_true rfl) (Nat.le_of_ble_eq_true rfl)
set_option maxHeartbeats 4000000 in
set_option maxRecDepth 100000 in
theorem ct_Gain_take (l : Launch) (D : va_G) (cI cO : ClassId) (tE : Nat) (h : Nat) (fa la : Int32) (sp : fm_S) (xs : List Int) (m : Nat) (x : Int32) (hgn : gn_ok fa la sp xs m) (hx : fm_in x.toInt) (sz : Nat) : Met l my_Gain_take (fq_w my_Gain_take cb_Gain_take 2 (some .int)) ({ frames := 0, cells := 0, slots := 0, locals := 0 }) (va_Pc ([.ref h, .int x]) (fq_Pre D cI cO tE sz ([(h, .inr (3, [.int fa, .int la]))]))) (va_Qi (S := va_W) (fun r w => r = 1 ∧ sg_gain h sp (xs ++ [x.toInt]) m w) (fq_Bw D (va_A ([(h, .inr (3, [.int fa, .int la]))]) sz)) (va_A ([(h, .inr (3, [.int fa, .int la]))]) sz)) (0) (0) (va_A ([(h, .inr (3, [.int fa, .int la]))]) sz) := by
  refine fq_open (by decide +kernel) (Nat.le_of_ble_eq_true rfl) ?_
  intro pg ev s mt below meth cd ls K hret hlk hin hK hZ hP hD hA hS hl
  generalize va_A ([(h, .inr (3, [.int fa, .int la]))]) sz = A at hZ hD hA hS ⊢
  have K : fq_Ctx pg mt cd cb_Gain_take 2 s _ cn_Gain := K
  have hl : lv_has ls 2 [(0, .ref h), (1, .int x)] := hl
  refine lv_aload_n K.1 K.2.1 dc_Gain_take_0 rfl (lv_at hl 0 rfl) ?_
  refine lv_iload_n K.1 K.2.1 dc_Gain_take_1 rfl (lv_at hl 1 rfl) ?_
  refine fq_put K hK cl_Gain hP hD hS 0 1 rfl (by decide) wd_361 rfl rfl rfl (Nat.le_of_ble_eq_true rfl) dc_Gain_take_2 (fun H locs hP hD hS => ?_)
  have hP : va_P D fq_cl ([(h, .inr (3, [.int fa, .int x]))]) _ := hP
  have hD : va_D A ([(h, .inr (3, [.int fa, .int x]))]) := hD
  refine lv_iconst (v := 1) K.1 K.2.1 dc_Gain_take_5 (by decide) ?_
  exact fq_reti K hret hlk hS hP hD ⟨rfl, _, _, rfl, gn_take hgn hx⟩ dc_Gain_take_6 (Nat.le_of_ble_eq_true rfl) (Nat.le_of_ble_eq_true rfl)
set_option maxHeartbeats 4000000 in
set_option maxRecDepth 100000 in
theorem ct_Gain_finish (l : Launch) (D : va_G) (cI cO : ClassId) (tE : Nat) (h : Nat) (fa la : Int32) (sp : fm_S) (xs : List Int) (m : Nat) (hgn : gn_ok fa la sp xs m) (sz : Nat) : Met l my_Gain_finish (fq_w my_Gain_finish cb_Gain_finish 1 (some .int)) ({ frames := 0, cells := 0, slots := 0, locals := 0 }) (va_Pc ([.ref h]) (fq_Pre D cI cO tE sz ([(h, .inr (3, [.int fa, .int la]))]))) (va_Qi (S := va_W) (fun r w => r = 0 ∧ sg_gain h sp xs m w) (fq_Bw D (va_A ([(h, .inr (3, [.int fa, .int la]))]) sz)) (va_A ([(h, .inr (3, [.int fa, .int la]))]) sz)) (0) (0) (va_A ([(h, .inr (3, [.int fa, .int la]))]) sz) := by
  refine fq_open (by decide +kernel) (Nat.le_of_ble_eq_true rfl) ?_
  intro pg ev s mt below meth cd ls K hret hlk hin hK hZ hP hD hA hS hl
  generalize va_A ([(h, .inr (3, [.int fa, .int la]))]) sz = A at hZ hD hA hS ⊢
  have K : fq_Ctx pg mt cd cb_Gain_finish 1 s _ cn_Gain := K
  have hl : lv_has ls 1 [(0, .ref h)] := hl
  refine lv_iconst (v := 0) K.1 K.2.1 dc_Gain_finish_0 (by decide) ?_
  exact fq_reti K hret hlk hS hP hD ⟨rfl, _, _, rfl, hgn⟩ dc_Gain_finish_1 (Nat.le_of_ble_eq_true rfl) (Nat.le_of_ble_eq_true rfl)
set_option maxHeartbeats 4000000 in
set_option maxRecDepth 100000 in
theorem ct_Gain_make (l : Launch) (D : va_G) (cI cO : ClassId) (tE : Nat) (h : Nat) (fa la : Int32) (sp : fm_S) (xs : List Int) (m : Nat) (hgn : gn_ok fa la sp xs m) (hm : m + 1 = xs.length) (sz : Nat) : Met l my_Gain_make (fq_w my_Gain_make cb_Gain_make 1 (some .int)) ({ frames := 2, cells := 0, slots := 0, locals := 38 }) (va_Pc ([.ref h]) (fq_Pre D cI cO tE sz ([(h, .inr (3, [.int fa, .int la]))]))) (va_Qi (S := va_W) (fun r w => r.toInt = fm_y sp xs m ∧ sg_gain h sp xs (m + 1) w) (fq_Bw D (va_A ([(h, .inr (3, [.int fa, .int la]))]) sz)) (va_A ([(h, .inr (3, [.int fa, .int la]))]) sz)) (0) (0) (va_A ([(h, .inr (3, [.int fa, .int la]))]) sz) := by
  refine fq_open (by decide +kernel) (Nat.le_of_ble_eq_true rfl) ?_
  intro pg ev s mt below meth cd ls K hret hlk hin hK hZ hP hD hA hS hl
  generalize va_A ([(h, .inr (3, [.int fa, .int la]))]) sz = A at hZ hD hA hS ⊢
  have K : fq_Ctx pg mt cd cb_Gain_make 1 s _ cn_Gain := K
  have hl : lv_has ls 1 [(0, .ref h)] := hl
  refine lv_aload_n K.1 K.2.1 dc_Gain_make_0 rfl (lv_at hl 0 rfl) ?_
  refine fq_get K hK cl_Gain hP 0 0 rfl (by decide) wd_360 rfl dc_Gain_make_1 ?_
  refine lv_i2l K.1 K.2.1 dc_Gain_make_4 rfl ?_
  refine lv_aload_n K.1 K.2.1 dc_Gain_make_5 rfl (lv_at hl 0 rfl) ?_
  refine fq_get K hK cl_Gain hP 0 1 rfl (by decide) wd_361 rfl dc_Gain_make_6 ?_
  refine lv_i2l K.1 K.2.1 dc_Gain_make_9 rfl ?_
  refine lv_lmul K.1 K.2.1 dc_Gain_make_10 ?_
  refine lv_ldc2 (v := 256) K.1 K.2.1 K.2.2.2.1 (K.2.2.2.2 _ wd_651) dc_Gain_make_11 ?_
  have hc := fq_cut.of (wc := []) hP hD hS hA [] (by decide) rfl
  refine fq_cl_ (wr := [(h, .inr (3, [.int fa, .int la]))]) (fq_rS K hK hZ hS hc (ct_Ma_floorDiv l D cI cO tE (fa.toInt64 * la.toInt64) 256 (by decide) _) yk_Ma_floorDiv wd_345 wd_652 ⟨⟨rfl, rfl⟩, ⟨Nat.le_of_ble_eq_true rfl, Nat.le_of_ble_eq_true rfl⟩, ⟨Nat.le_of_ble_eq_true rfl, Nat.le_of_ble_eq_true rfl⟩⟩ hl.1 rfl (Nat.le_of_ble_eq_true rfl) dc_Gain_make_14) hP hD hS hc [] [0] rfl rfl (by decide) (by decide) (fun r1 w H locs hw1 hP hD hS => ?_)
  obtain ⟨rfl, hd1⟩ := hw1
  have hP : va_P D fq_cl ([(h, .inr (3, [.int fa, .int la]))]) _ := hP
  have hD : va_D A ([(h, .inr (3, [.int fa, .int la]))]) := hD
  have hc := fq_cut.of (wc := []) hP hD hS hA [] (by decide) rfl
  refine fq_ci (wr := [(h, .inr (3, [.int fa, .int la]))]) (fq_rSN K hK hZ hS hc (ct_FP_clipped l D cI cO tE r1 _) yk_FP_clipped wd_654 wn_653 ⟨⟨rfl, rfl⟩, ⟨Nat.le_of_ble_eq_true rfl, Nat.le_of_ble_eq_true rfl⟩, ⟨Nat.le_of_ble_eq_true rfl, Nat.le_of_ble_eq_true rfl⟩⟩ hl.1 rfl (Nat.le_of_ble_eq_true rfl) dc_Gain_make_17) hP hD hS hc [] [0] rfl rfl (by decide) (by decide) (fun r2 w H locs hw2 hP hD hS => ?_)
  obtain ⟨rfl, hd2⟩ := hw2
  have hP : va_P D fq_cl ([(h, .inr (3, [.int fa, .int la]))]) _ := hP
  have hD : va_D A ([(h, .inr (3, [.int fa, .int la]))]) := hD
  exact fq_reti K hret hlk hS hP hD ⟨(gn_make hgn hm hd1 hd2).1, _, _, rfl, (gn_make hgn hm hd1 hd2).2⟩ dc_Gain_make_20 (Nat.le_of_ble_eq_true rfl) (Nat.le_of_ble_eq_true rfl)
set_option maxHeartbeats 4000000 in
set_option maxRecDepth 100000 in
theorem ct_Gain_clear (l : Launch) (D : va_G) (cI cO : ClassId) (tE : Nat) (h : Nat) (fa la : Int32) (sp : fm_S) (xs : List Int) (m : Nat) (hgn : gn_ok fa la sp xs m) (sz : Nat) : Met l my_Gain_clear (fq_w my_Gain_clear cb_Gain_clear 1 none) ({ frames := 0, cells := 0, slots := 0, locals := 0 }) (va_Pc ([.ref h]) (fq_Pre D cI cO tE sz ([(h, .inr (3, [.int fa, .int la]))]))) (va_Qv (S := va_W) (fun w => sg_gain h sp [] 0 w) (fq_Bw D (va_A ([(h, .inr (3, [.int fa, .int la]))]) sz)) (va_A ([(h, .inr (3, [.int fa, .int la]))]) sz)) (0) (0) (va_A ([(h, .inr (3, [.int fa, .int la]))]) sz) := by
  refine fq_open (by decide +kernel) (Nat.le_of_ble_eq_true rfl) ?_
  intro pg ev s mt below meth cd ls K hret hlk hin hK hZ hP hD hA hS hl
  generalize va_A ([(h, .inr (3, [.int fa, .int la]))]) sz = A at hZ hD hA hS ⊢
  have K : fq_Ctx pg mt cd cb_Gain_clear 1 s _ cn_Gain := K
  have hl : lv_has ls 1 [(0, .ref h)] := hl
  refine lv_aload_n K.1 K.2.1 dc_Gain_clear_0 rfl (lv_at hl 0 rfl) ?_
  refine lv_iconst (v := 0) K.1 K.2.1 dc_Gain_clear_1 (by decide) ?_
  refine fq_put K hK cl_Gain hP hD hS 0 1 rfl (by decide) wd_361 rfl rfl rfl (Nat.le_of_ble_eq_true rfl) dc_Gain_clear_2 (fun H locs hP hD hS => ?_)
  have hP : va_P D fq_cl ([(h, .inr (3, [.int fa, .int 0]))]) _ := hP
  have hD : va_D A ([(h, .inr (3, [.int fa, .int 0]))]) := hD
  exact fq_retv K hret hlk hS hP hD ⟨_, _, rfl, gn_nil hgn.1 hgn.2.1⟩ dc_Gain_clear_5 (Nat.le_of_ble_eq_true rfl) (Nat.le_of_ble_eq_true rfl)
