theorem wd_43 : Cond.initialized cn_Window ∈ fq_TB := fq_in 43 (by decide +kernel) rfl
theorem wd_176 : Cond.static my_Ma_min ∈ fq_TB := fq_in 176 (by decide +kernel) rfl
theorem wd_177 : Cond.code my_Ma_min cb_Ma_min 2 (some .int) ∈ fq_TB := fq_in 177 (by decide +kernel) rfl
theorem wd_374 : Cond.instanceMethod my_Window_init ∈ fq_TB := fq_in 374 (by decide +kernel) rfl
theorem wd_375 : Cond.code my_Window_init cb_Window_init 5 none ∈ fq_TB := fq_in 375 (by decide +kernel) rfl
theorem wn_376 : Cond.methodLinkNest cn_Window 1 my_Stage_init cn_FP ∈ lw_tbl := List.mem_of_getElem? (i := 376) (by decide +kernel)
theorem wd_377 : Cond.classLink cn_Window 7 cn_Recent ∈ fq_TB := fq_in 377 (by decide +kernel) rfl
theorem wd_378 : Cond.instantiable cn_Recent 2 ∈ fq_TB := fq_in 378 (by decide +kernel) rfl
theorem wn_379 : Cond.methodLinkNest cn_Window 9 my_Recent_init cn_FP ∈ lw_tbl := List.mem_of_getElem? (i := 379) (by decide +kernel)
theorem wd_390 : Cond.methodLink cn_Window 20 my_Window_weight ∈ fq_TB := fq_in 390 (by decide +kernel) rfl
theorem wd_391 : Cond.static my_Window_weight ∈ fq_TB := fq_in 391 (by decide +kernel) rfl
theorem wd_392 : Cond.code my_Window_weight cb_Window_weight 3 (some .int) ∈ fq_TB := fq_in 392 (by decide +kernel) rfl
theorem wd_393 : Cond.methodLink cn_Window 28 my_Ma_min ∈ fq_TB := fq_in 393 (by decide +kernel) rfl
theorem wd_394 : Cond.fieldLink cn_Window 16 cn_Window "weights" "[I" ∈ fq_TB := fq_in 394 (by decide +kernel) rfl
theorem wd_395 : Cond.fieldLink cn_Window 24 cn_Window "total" "I" ∈ fq_TB := fq_in 395 (by decide +kernel) rfl
theorem wd_396 : Cond.fieldLink cn_Window 10 cn_Window "recent" "LFilterPipe$Recent;" ∈ fq_TB := fq_in 396 (by decide +kernel) rfl
theorem wd_397 : Cond.fieldLink cn_Window 42 cn_Window "next" "I" ∈ fq_TB := fq_in 397 (by decide +kernel) rfl
theorem wd_534 : Cond.instanceMethod my_Window_clear ∈ fq_TB := fq_in 534 (by decide +kernel) rfl
theorem wd_535 : Cond.code my_Window_clear cb_Window_clear 1 none ∈ fq_TB := fq_in 535 (by decide +kernel) rfl
theorem wd_536 : Cond.methodLink cn_Window 59 my_Recent_forget ∈ fq_TB := fq_in 536 (by decide +kernel) rfl
theorem wd_638 : Cond.instanceMethod my_Window_take ∈ fq_TB := fq_in 638 (by decide +kernel) rfl
theorem wd_639 : Cond.code my_Window_take cb_Window_take 2 (some .int) ∈ fq_TB := fq_in 639 (by decide +kernel) rfl
theorem wd_640 : Cond.methodLink cn_Window 34 my_Recent_put ∈ fq_TB := fq_in 640 (by decide +kernel) rfl
theorem wd_682 : Cond.instanceMethod my_Window_make ∈ fq_TB := fq_in 682 (by decide +kernel) rfl
theorem wd_683 : Cond.code my_Window_make cb_Window_make 4 (some .int) ∈ fq_TB := fq_in 683 (by decide +kernel) rfl
theorem wd_684 : Cond.methodLink cn_Window 45 my_Recent_at ∈ fq_TB := fq_in 684 (by decide +kernel) rfl
theorem wd_685 : Cond.methodLink cn_Window 49 my_Ma_floorDiv ∈ fq_TB := fq_in 685 (by decide +kernel) rfl
theorem wn_686 : Cond.methodLinkNest cn_Window 53 my_FP_clipped cn_FP ∈ lw_tbl := List.mem_of_getElem? (i := 686) (by decide +kernel)
theorem wd_704 : Cond.instanceMethod my_Window_finish ∈ fq_TB := fq_in 704 (by decide +kernel) rfl
theorem wd_705 : Cond.code my_Window_finish cb_Window_finish 1 (some .int) ∈ fq_TB := fq_in 705 (by decide +kernel) rfl
theorem wd_706 : Cond.methodLink cn_Window 38 my_Recent_count ∈ fq_TB := fq_in 706 (by decide +kernel) rfl

def wn_ok (len : Nat) (tt : Int32) (f g : Nat → Int32) (sp : fm_S) (xs : List Int) (m : Nat) : Prop :=
  sp = (2, sp.2.1, (len : Int), 0, 0, 0) ∧ fm_ok sp ∧ (∀ v ∈ xs, fm_in v) ∧ rc_ok f xs ∧ m < 300000 ∧ tt.toInt = fm_sum (fm_wt sp.2.1 len) len ∧ ∀ j, j < len → (g j).toInt = fm_wt sp.2.1 len j
def sg_win (cI : ClassId) (h : Nat) (sp : fm_S) (xs : List Int) (m : Nat) (ws : va_W) : Prop :=
  ∃ (hw hr ha len : Nat) (tt : Int32) (f g : Nat → Int32), ws = [(h, .inr (4, [.ref hw, .int tt, .ref hr, .int (nI m)])), (hr, .inr (1, [.ref ha, .int (nI xs.length)])), (ha, .inl (cI, 8, .inl f)), (hw, .inl (cI, len, .inl g))] ∧ wn_ok len tt f g sp xs m
theorem wn_len {len : Nat} {tt : Int32} {f g : Nat → Int32} {sp : fm_S} {xs : List Int} {m : Nat} (h : wn_ok len tt f g sp xs m) : (sp.2.1 = 0 ∨ sp.2.1 = 1 ∨ sp.2.1 = 2) ∧ 1 ≤ len ∧ len ≤ 8 := by
  have e := h.1
  have k := h.2.1.2.2.2.1 (by rw [e])
  have e2 : sp.2.2.1 = (len : Int) := by rw [e]
  omega
theorem wn_w0 {sh : Int32} {k len : Nat} (h : sh = 0) : (1 : Int32).toInt = fm_wt sh.toInt len k := by
  rw [h]; rfl
theorem wn_w1 {sh : Int32} {k len : Nat} (h : sh = 1) (hk : k < len) (hl : len ≤ 8) : (if nI (len - k) < nI (k + 1) then nI (len - k) else nI (k + 1)).toInt = fm_wt sh.toInt len k := by
  have e : fm_wt sh.toInt len k = if (k : Int) + 1 < (len : Int) - k then (k : Int) + 1 else (len : Int) - k := by rw [h]; rfl
  rw [e]
  by_cases c : len - k < k + 1
  · rw [if_pos (nI_lt c (by omega)), nI_toInt (by omega), if_neg (by omega)]; omega
  · rw [if_neg (nI_nlt (by omega) (by omega)), nI_toInt (by omega)]
    split <;> omega
theorem wn_w2 {sh : Int32} {k len : Nat} (h : sh = 2) (hk : k < len) (hl : len ≤ 8) : (nI (k + 1) * nI (len - k)).toInt = fm_wt sh.toInt len k := by
  have hb : (k + 1) * (len - k) ≤ 8 * 8 := Nat.mul_le_mul (by omega) (by omega)
  have e : fm_wt sh.toInt len k = ((k : Int) + 1) * ((len : Int) - k) := by rw [h]; rfl
  rw [e, pk_mul, nI_toInt (by omega), Int.natCast_mul, show ((len - k : Nat) : Int) = (len : Int) - k by omega]
  rfl
theorem wn_wb {sh : Int} {k len : Nat} (h : sh = 0 ∨ sh = 1 ∨ sh = 2) (hk : k < len) (hl : len ≤ 8) : 1 ≤ fm_wt sh len k ∧ fm_wt sh len k ≤ 64 := by
  unfold fm_wt
  split
  · omega
  · split
    · have hb : (k + 1) * (len - k) ≤ 8 * 8 := Nat.mul_le_mul (by omega) (by omega)
      have hb1 : 1 ≤ (k + 1) * (len - k) := Nat.mul_pos (by omega) (by omega)
      have e : ((k : Int) + 1) * ((len : Int) - k) = (((k + 1) * (len - k) : Nat) : Int) := by rw [Int.natCast_mul, show ((len - k : Nat) : Int) = (len : Int) - k by omega]; rfl
      omega
    · split <;> omega
theorem fm_sum_le {f : Nat → Int} {B : Int} : ∀ {n : Nat}, (∀ k, k < n → f k ≤ B) → fm_sum f n ≤ n * B
  | 0, _ => by show (0 : Int) ≤ _; omega
  | n + 1, h => by
    have ih := fm_sum_le (f := f) (B := B) (n := n) (fun k hk => h k (by omega))
    have h1 := h n (by omega)
    show fm_sum f n + f n ≤ _
    have e : ((n + 1 : Nat) : Int) * B = n * B + B := by rw [Int.natCast_add, Int.add_mul]; omega
    omega
theorem fm_sum_ge {f : Nat → Int} {B : Int} : ∀ {n : Nat}, (∀ k, k < n → B ≤ f k) → n * B ≤ fm_sum f n
  | 0, _ => by show _ ≤ (0 : Int); omega
  | n + 1, h => by
    have ih := fm_sum_ge (f := f) (B := B) (n := n) (fun k hk => h k (by omega))
    have h1 := h n (by omega)
    show _ ≤ fm_sum f n + f n
    have e : ((n + 1 : Nat) : Int) * B = n * B + B := by rw [Int.natCast_add, Int.add_mul]; omega
    omega
theorem wn_step {sh : Int32} {k len : Nat} {sm v r : Int32} {g : Nat → Int32} (h : k ≤ len ∧ sm.toInt = fm_sum (fm_wt sh.toInt len) k ∧ ∀ j, j < k → (g j).toInt = fm_wt sh.toInt len j) (hk : k < len) (hl : len ≤ 8) (hr : r.toInt = fm_wt sh.toInt len k) (hv : v = sm + r) (hsh : sh = 0 ∨ sh = 1 ∨ sh = 2 := by assumption) :
    k + 1 ≤ len ∧ v.toInt = fm_sum (fm_wt sh.toInt len) (k + 1) ∧ ∀ j, j < k + 1 → (upd g k r j).toInt = fm_wt sh.toInt len j := by
  obtain ⟨h1, h2, h3⟩ := h
  have hs : sh.toInt = 0 ∨ sh.toInt = 1 ∨ sh.toInt = 2 := by rcases hsh with z | z | z <;> rw [z] <;> decide
  have b1 := fm_sum_le (f := fm_wt sh.toInt len) (B := 64) (n := k) (fun j hj => (wn_wb hs (by omega) hl).2)
  have b2 := fm_sum_ge (f := fm_wt sh.toInt len) (B := 1) (n := k) (fun j hj => (wn_wb hs (by omega) hl).1)
  have b3 := wn_wb hs hk hl
  refine ⟨hk, ?_, fun j hj => ?_⟩
  · rw [hv, Kit.i32_add (by rw [h2, hr]; omega) (by rw [h2, hr]; omega), h2, hr]; rfl
  · by_cases e : j = k
    · subst e; rw [pk_us]; exact hr
    · rw [pk_un e]; exact h3 j (by omega)
theorem wn_new {sh : Int32} {k len : Nat} {sm : Int32} {g : Nat → Int32} (hsh : sh = 0 ∨ sh = 1 ∨ sh = 2) (h1 : 1 ≤ len) (h8 : len ≤ 8) (h : k ≤ len ∧ sm.toInt = fm_sum (fm_wt sh.toInt len) k ∧ ∀ j, j < k → (g j).toInt = fm_wt sh.toInt len j) (hk : k = len) :
    wn_ok len sm (fun _ => 0) g (2, sh.toInt, (len : Int), 0, 0, 0) [] 0 := by
  subst hk
  have hs : sh.toInt = 0 ∨ sh.toInt = 1 ∨ sh.toInt = 2 := by rcases hsh with z | z | z <;> rw [z] <;> decide
  refine ⟨rfl, ⟨(by decide : 2 ≤ 3), fun z => absurd (show 2 = 0 from z) (by decide), fun z => absurd (show 2 = 1 from z) (by decide), fun _ => ⟨hs, ?_, ?_⟩, fun z => absurd (show 2 = 3 from z) (by decide)⟩, fun _ z => absurd z List.not_mem_nil, rc_nil, by decide, h.2.1, h.2.2⟩
  · show (1 : Int) ≤ (k : Int); omega
  · show (k : Int) ≤ 8; omega
theorem wn_nil {len : Nat} {tt : Int32} {f g : Nat → Int32} {sp : fm_S} {xs : List Int} {m : Nat} (h : wn_ok len tt f g sp xs m) : wn_ok len tt f g sp [] 0 := ⟨h.1, h.2.1, fun _ z => absurd z List.not_mem_nil, rc_nil, by decide, h.2.2.2.2.2⟩
theorem wn_next {len : Nat} {tt : Int32} {f g : Nat → Int32} {sp : fm_S} {xs : List Int} {m n : Nat} (h : wn_ok len tt f g sp xs m) (hn : n < 300000) : wn_ok len tt f g sp xs n := ⟨h.1, h.2.1, h.2.2.1, h.2.2.2.1, hn, h.2.2.2.2.2⟩
theorem wn_take {len : Nat} {tt : Int32} {f g f2 : Nat → Int32} {sp : fm_S} {xs : List Int} {m : Nat} {x : Int32} (h : wn_ok len tt f g sp xs m) (hx : fm_in x.toInt) (hr : rc_ok f2 (xs ++ [x.toInt])) : wn_ok len tt f2 g sp (xs ++ [x.toInt]) m := ⟨h.1, h.2.1, fm_in_app h.2.2.1 hx, hr, h.2.2.2.2⟩
theorem wn_fin0 {len : Nat} {tt : Int32} {f g : Nat → Int32} {sp : fm_S} {xs : List Int} {m : Nat} (h : wn_ok len tt f g sp xs m) (hz : nI xs.length = 0) : (0 : Int32) = nI (fm_m sp true xs.length - fm_m sp false xs.length) := by
  have hl := h.2.2.2.1.1
  have e : xs.length = 0 := (nI_eq (by omega) (by decide)).mp (hz.trans nI_0.symm)
  rw [e]
  simp [fm_m, nI_0]
theorem wn_fin1 {len : Nat} {tt : Int32} {f g : Nat → Int32} {sp : fm_S} {xs : List Int} {m : Nat} (h : wn_ok len tt f g sp xs m) (hz : ¬ nI xs.length = 0) : nI len - 1 = nI (fm_m sp true xs.length - fm_m sp false xs.length) := by
  have hw := wn_len h
  have e : ¬ xs.length = 0 := fun z => hz (by rw [z, nI_0])
  have k2 : sp.1 = 2 := by rw [h.1]
  have e2 : sp.2.2.1.toNat = len := by rw [h.1]; rfl
  unfold fm_m
  rw [if_neg (by omega), if_pos k2, if_pos rfl, if_neg (by omega), if_pos k2, if_neg (by decide), e2, show xs.length + len - 1 - xs.length = len - 1 by omega]
  exact pk_sub (a := len) (b := 1) (by omega)
theorem wn_add {len : Nat} {tt : Int32} {f g : Nat → Int32} {sp : fm_S} {xs : List Int} {m k : Nat} {v v2 : Int64} {r : Int32} (h : wn_ok len tt f g sp xs m) (hm : xs.length ≤ m + 1) (hk : k < len) (hi : k ≤ len ∧ v.toInt = fm_sum (fun k => fm_wt sp.2.1 len k * fm_x xs ((m : Int) - k)) k)
    (hv : v2 = v + (g k).toInt64 * r.toInt64) (hr : r.toInt = rc_at xs (nI m - nI k).toInt) : k + 1 ≤ len ∧ v2.toInt = fm_sum (fun k => fm_wt sp.2.1 len k * fm_x xs ((m : Int) - k)) (k + 1) := by
  obtain ⟨hs, l1, l8⟩ := wn_len h
  have hmb := h.2.2.2.2.1
  have hg := h.2.2.2.2.2.2 k hk
  have hb := wn_wb hs hk l8
  rw [pk_sub_toInt (by omega) (by omega), rc_at_x (by omega)] at hr
  have hin := fm_x_in h.2.2.1 ((m : Int) - k)
  rw [← hr] at hin
  obtain ⟨p0, q0⟩ := fn_pr (b := g k) (x := r) (by rw [hg]; omega) hin
  have bs : ∀ j, j < k → -536870912 ≤ fm_wt sp.2.1 len j * fm_x xs ((m : Int) - j) ∧ fm_wt sp.2.1 len j * fm_x xs ((m : Int) - j) ≤ 536870912 := fun j hj => by
    have h1 := wn_wb hs (show j < len by omega) l8
    have h2 := fm_x_in h.2.2.1 ((m : Int) - j)
    unfold fm_in at h2
    have h3 := fn_bd (a := fm_wt sp.2.1 len j) (b := fm_x xs ((m : Int) - j)) (A := 64) (B := 8388608) (by omega) (by omega)
    omega
  have b1 := fm_sum_le (f := fun k => fm_wt sp.2.1 len k * fm_x xs ((m : Int) - k)) (B := 536870912) (n := k) (fun j hj => (bs j hj).2)
  have b2 := fm_sum_ge (f := fun k => fm_wt sp.2.1 len k * fm_x xs ((m : Int) - k)) (B := -536870912) (n := k) (fun j hj => (bs j hj).1)
  refine ⟨hk, ?_⟩
  rw [hv, Kit.i64_add (by rw [hi.2, p0]; omega) (by rw [hi.2, p0]; omega), hi.2, p0, hg, hr]
  rfl
theorem wn_pos {len : Nat} {tt : Int32} {f g : Nat → Int32} {sp : fm_S} {xs : List Int} {m : Nat} (h : wn_ok len tt f g sp xs m) : 0 < tt.toInt64.toInt := by
  obtain ⟨hs, l1, l8⟩ := wn_len h
  rw [Kit.i64_of_i32, h.2.2.2.2.2.1]
  have b2 := fm_sum_ge (f := fm_wt sp.2.1 len) (B := 1) (n := len) (fun j hj => (wn_wb hs hj l8).1)
  omega
theorem fm_sum_mul {w x : Nat → Int} {B : Int} : ∀ {n : Nat}, (∀ k, k < n → 0 ≤ w k ∧ x k ≤ B) → fm_sum (fun k => w k * x k) n ≤ B * fm_sum w n
  | 0, _ => by show (0 : Int) ≤ B * 0; omega
  | n + 1, h => by
    have ih := fm_sum_mul (w := w) (x := x) (B := B) (n := n) (fun k hk => h k (by omega))
    have h1 := h n (by omega)
    have h2 : w n * x n ≤ w n * B := Int.mul_le_mul_of_nonneg_left h1.2 h1.1
    show fm_sum (fun k => w k * x k) n + w n * x n ≤ B * (fm_sum w n + w n)
    rw [Int.mul_add, Int.mul_comm B (w n)]
    omega
theorem fm_sum_mulg {w x : Nat → Int} {B : Int} : ∀ {n : Nat}, (∀ k, k < n → 0 ≤ w k ∧ B ≤ x k) → B * fm_sum w n ≤ fm_sum (fun k => w k * x k) n
  | 0, _ => by show B * 0 ≤ (0 : Int); omega
  | n + 1, h => by
    have ih := fm_sum_mulg (w := w) (x := x) (B := B) (n := n) (fun k hk => h k (by omega))
    have h1 := h n (by omega)
    have h2 : w n * B ≤ w n * x n := Int.mul_le_mul_of_nonneg_left h1.2 h1.1
    show B * (fm_sum w n + w n) ≤ fm_sum (fun k => w k * x k) n + w n * x n
    rw [Int.mul_add, Int.mul_comm B (w n)]
    omega
theorem fm_win_in {sh : Int} {len : Nat} {xs : List Int} {m : Nat} (hs : sh = 0 ∨ sh = 1 ∨ sh = 2) (l1 : 1 ≤ len) (l8 : len ≤ 8) (hx : ∀ v ∈ xs, fm_in v) : fm_in (fm_sum (fun k => fm_wt sh len k * fm_x xs ((m : Int) - k)) len / fm_sum (fm_wt sh len) len) := by
  have hp := fm_sum_ge (f := fm_wt sh len) (B := 1) (n := len) (fun j hj => (wn_wb hs hj l8).1)
  have hu := fm_sum_mul (w := fm_wt sh len) (x := fun k => fm_x xs ((m : Int) - k)) (B := 8388607) (n := len) (fun k hk => ⟨by have := wn_wb hs hk l8; omega, (fm_x_in hx _).2⟩)
  have hl := fm_sum_mulg (w := fm_wt sh len) (x := fun k => fm_x xs ((m : Int) - k)) (B := -8388608) (n := len) (fun k hk => ⟨by have := wn_wb hs hk l8; omega, (fm_x_in hx _).1⟩)
  refine ⟨Int.le_ediv_of_mul_le (by omega) hl, ?_⟩
  have := Int.ediv_lt_of_lt_mul (a := fm_sum (fun k => fm_wt sh len k * fm_x xs ((m : Int) - k)) len) (b := 8388608) (c := fm_sum (fm_wt sh len) len) (by omega) (by omega)
  omega
theorem wn_val {len : Nat} {tt : Int32} {f g : Nat → Int32} {sp : fm_S} {xs : List Int} {m k : Nat} {v q : Int64} {r : Int32} (h : wn_ok len tt f g sp xs m) (hk : k = len) (hi : k ≤ len ∧ v.toInt = fm_sum (fun k => fm_wt sp.2.1 len k * fm_x xs ((m : Int) - k)) k)
    (hq : q.toInt = v.toInt / tt.toInt64.toInt) (hr : r.toInt = fm_clip q.toInt) : r.toInt = fm_y sp xs m := by
  obtain ⟨hs, l1, l8⟩ := wn_len h
  subst hk
  have e2 : sp.2.2.1.toNat = k := by rw [h.1]; rfl
  have k2 : sp.1 = 2 := by rw [h.1]
  rw [hr, hq, hi.2, Kit.i64_of_i32, h.2.2.2.2.2.1, fm_clip_id (fm_win_in hs l1 l8 h.2.2.1)]
  unfold fm_y
  rw [if_neg (by omega), if_neg (by omega), if_pos k2, e2]

theorem dc_Window_init_0 : decode cb_Window_init 0 = .ok (.aload_n 0, 1) := by decide +kernel
theorem dc_Window_init_1 : decode cb_Window_init 1 = .ok (.invokespecial 1, 3) := by decide +kernel
theorem dc_Window_init_4 : decode cb_Window_init 4 = .ok (.aload_n 0, 1) := by decide +kernel
theorem dc_Window_init_5 : decode cb_Window_init 5 = .ok (.new 7, 3) := by decide +kernel
theorem dc_Window_init_8 : decode cb_Window_init 8 = .ok (.dup, 1) := by decide +kernel
theorem dc_Window_init_9 : decode cb_Window_init 9 = .ok (.invokespecial 9, 3) := by decide +kernel
theorem dc_Window_init_12 : decode cb_Window_init 12 = .ok (.putfield 10, 3) := by decide +kernel
theorem dc_Window_init_15 : decode cb_Window_init 15 = .ok (.aload_n 0, 1) := by decide +kernel
theorem dc_Window_init_16 : decode cb_Window_init 16 = .ok (.iload_n 2, 1) := by decide +kernel
theorem dc_Window_init_17 : decode cb_Window_init 17 = .ok (.newarray .int, 2) := by decide +kernel
theorem dc_Window_init_19 : decode cb_Window_init 19 = .ok (.putfield 16, 3) := by decide +kernel
theorem dc_Window_init_22 : decode cb_Window_init 22 = .ok (.iconst 0, 1) := by decide +kernel
theorem dc_Window_init_23 : decode cb_Window_init 23 = .ok (.istore_n 3, 1) := by decide +kernel
theorem dc_Window_init_24 : decode cb_Window_init 24 = .ok (.iconst 0, 1) := by decide +kernel
theorem dc_Window_init_25 : decode cb_Window_init 25 = .ok (.istore 4, 2) := by decide +kernel
theorem dc_Window_init_27 : decode cb_Window_init 27 = .ok (.iload 4, 2) := by decide +kernel
theorem dc_Window_init_29 : decode cb_Window_init 29 = .ok (.iload_n 2, 1) := by decide +kernel
theorem dc_Window_init_30 : decode cb_Window_init 30 = .ok (.if_icmp .ge 38, 3) := by decide +kernel
theorem dc_Window_init_33 : decode cb_Window_init 33 = .ok (.aload_n 0, 1) := by decide +kernel
theorem dc_Window_init_34 : decode cb_Window_init 34 = .ok (.getfield 16, 3) := by decide +kernel
theorem dc_Window_init_37 : decode cb_Window_init 37 = .ok (.iload 4, 2) := by decide +kernel
theorem dc_Window_init_39 : decode cb_Window_init 39 = .ok (.iload_n 1, 1) := by decide +kernel
theorem dc_Window_init_40 : decode cb_Window_init 40 = .ok (.iload 4, 2) := by decide +kernel
theorem dc_Window_init_42 : decode cb_Window_init 42 = .ok (.iconst 1, 1) := by decide +kernel
theorem dc_Window_init_43 : decode cb_Window_init 43 = .ok (.iadd, 1) := by decide +kernel
theorem dc_Window_init_44 : decode cb_Window_init 44 = .ok (.iload_n 2, 1) := by decide +kernel
theorem dc_Window_init_45 : decode cb_Window_init 45 = .ok (.iload 4, 2) := by decide +kernel
theorem dc_Window_init_47 : decode cb_Window_init 47 = .ok (.isub, 1) := by decide +kernel
theorem dc_Window_init_48 : decode cb_Window_init 48 = .ok (.invokestatic 20, 3) := by decide +kernel
theorem dc_Window_init_51 : decode cb_Window_init 51 = .ok (.iastore, 1) := by decide +kernel
theorem dc_Window_init_52 : decode cb_Window_init 52 = .ok (.iload_n 3, 1) := by decide +kernel
theorem dc_Window_init_53 : decode cb_Window_init 53 = .ok (.aload_n 0, 1) := by decide +kernel
theorem dc_Window_init_54 : decode cb_Window_init 54 = .ok (.getfield 16, 3) := by decide +kernel
theorem dc_Window_init_57 : decode cb_Window_init 57 = .ok (.iload 4, 2) := by decide +kernel
theorem dc_Window_init_59 : decode cb_Window_init 59 = .ok (.iaload, 1) := by decide +kernel
theorem dc_Window_init_60 : decode cb_Window_init 60 = .ok (.iadd, 1) := by decide +kernel
theorem dc_Window_init_61 : decode cb_Window_init 61 = .ok (.istore_n 3, 1) := by decide +kernel
theorem dc_Window_init_62 : decode cb_Window_init 62 = .ok (.iinc 4 1, 3) := by decide +kernel
theorem dc_Window_init_65 : decode cb_Window_init 65 = .ok (.goto (-38), 3) := by decide +kernel
theorem dc_Window_init_68 : decode cb_Window_init 68 = .ok (.aload_n 0, 1) := by decide +kernel
theorem dc_Window_init_69 : decode cb_Window_init 69 = .ok (.iload_n 3, 1) := by decide +kernel
theorem dc_Window_init_70 : decode cb_Window_init 70 = .ok (.putfield 24, 3) := by decide +kernel
theorem dc_Window_init_73 : decode cb_Window_init 73 = .ok (.return_, 1) := by decide +kernel
theorem yk_Window_init : fq_Y my_Window_init cb_Window_init 5 none 2 := ⟨wd_375, wd_43, by decide +kernel⟩
theorem dc_Window_weight_0 : decode cb_Window_weight 0 = .ok (.iload_n 0, 1) := by decide +kernel
theorem dc_Window_weight_1 : decode cb_Window_weight 1 = .ok (.lookupswitch 35 #[(0, 27), (1, 29)], 27) := by decide +kernel
theorem dc_Window_weight_28 : decode cb_Window_weight 28 = .ok (.iconst 1, 1) := by decide +kernel
theorem dc_Window_weight_29 : decode cb_Window_weight 29 = .ok (.ireturn, 1) := by decide +kernel
theorem dc_Window_weight_30 : decode cb_Window_weight 30 = .ok (.iload_n 1, 1) := by decide +kernel
theorem dc_Window_weight_31 : decode cb_Window_weight 31 = .ok (.iload_n 2, 1) := by decide +kernel
theorem dc_Window_weight_32 : decode cb_Window_weight 32 = .ok (.invokestatic 28, 3) := by decide +kernel
theorem dc_Window_weight_35 : decode cb_Window_weight 35 = .ok (.ireturn, 1) := by decide +kernel
theorem dc_Window_weight_36 : decode cb_Window_weight 36 = .ok (.iload_n 1, 1) := by decide +kernel
theorem dc_Window_weight_37 : decode cb_Window_weight 37 = .ok (.iload_n 2, 1) := by decide +kernel
theorem dc_Window_weight_38 : decode cb_Window_weight 38 = .ok (.imul, 1) := by decide +kernel
theorem dc_Window_weight_39 : decode cb_Window_weight 39 = .ok (.ireturn, 1) := by decide +kernel
theorem yk_Window_weight : fq_Y my_Window_weight cb_Window_weight 3 (some .int) 3 := ⟨wd_392, wd_43, by decide +kernel⟩
theorem dc_Window_take_0 : decode cb_Window_take 0 = .ok (.aload_n 0, 1) := by decide +kernel
theorem dc_Window_take_1 : decode cb_Window_take 1 = .ok (.getfield 10, 3) := by decide +kernel
theorem dc_Window_take_4 : decode cb_Window_take 4 = .ok (.iload_n 1, 1) := by decide +kernel
theorem dc_Window_take_5 : decode cb_Window_take 5 = .ok (.invokevirtual 34, 3) := by decide +kernel
theorem dc_Window_take_8 : decode cb_Window_take 8 = .ok (.iconst 1, 1) := by decide +kernel
theorem dc_Window_take_9 : decode cb_Window_take 9 = .ok (.ireturn, 1) := by decide +kernel
theorem yk_Window_take : fq_Y my_Window_take cb_Window_take 2 (some .int) 1 := ⟨wd_639, wd_43, by decide +kernel⟩
theorem dc_Window_finish_0 : decode cb_Window_finish 0 = .ok (.aload_n 0, 1) := by decide +kernel
theorem dc_Window_finish_1 : decode cb_Window_finish 1 = .ok (.getfield 10, 3) := by decide +kernel
theorem dc_Window_finish_4 : decode cb_Window_finish 4 = .ok (.invokevirtual 38, 3) := by decide +kernel
theorem dc_Window_finish_7 : decode cb_Window_finish 7 = .ok (.ifCond .ne 7, 3) := by decide +kernel
theorem dc_Window_finish_10 : decode cb_Window_finish 10 = .ok (.iconst 0, 1) := by decide +kernel
theorem dc_Window_finish_11 : decode cb_Window_finish 11 = .ok (.goto 10, 3) := by decide +kernel
theorem dc_Window_finish_14 : decode cb_Window_finish 14 = .ok (.aload_n 0, 1) := by decide +kernel
theorem dc_Window_finish_15 : decode cb_Window_finish 15 = .ok (.getfield 16, 3) := by decide +kernel
theorem dc_Window_finish_18 : decode cb_Window_finish 18 = .ok (.arraylength, 1) := by decide +kernel
theorem dc_Window_finish_19 : decode cb_Window_finish 19 = .ok (.iconst 1, 1) := by decide +kernel
theorem dc_Window_finish_20 : decode cb_Window_finish 20 = .ok (.isub, 1) := by decide +kernel
theorem dc_Window_finish_21 : decode cb_Window_finish 21 = .ok (.ireturn, 1) := by decide +kernel
theorem yk_Window_finish : fq_Y my_Window_finish cb_Window_finish 1 (some .int) 0 := ⟨wd_705, wd_43, by decide +kernel⟩
theorem dc_Window_make_0 : decode cb_Window_make 0 = .ok (.lconst 0, 1) := by decide +kernel
theorem dc_Window_make_1 : decode cb_Window_make 1 = .ok (.lstore_n 1, 1) := by decide +kernel
theorem dc_Window_make_2 : decode cb_Window_make 2 = .ok (.iconst 0, 1) := by decide +kernel
theorem dc_Window_make_3 : decode cb_Window_make 3 = .ok (.istore_n 3, 1) := by decide +kernel
theorem dc_Window_make_4 : decode cb_Window_make 4 = .ok (.iload_n 3, 1) := by decide +kernel
theorem dc_Window_make_5 : decode cb_Window_make 5 = .ok (.aload_n 0, 1) := by decide +kernel
theorem dc_Window_make_6 : decode cb_Window_make 6 = .ok (.getfield 16, 3) := by decide +kernel
theorem dc_Window_make_9 : decode cb_Window_make 9 = .ok (.arraylength, 1) := by decide +kernel
theorem dc_Window_make_10 : decode cb_Window_make 10 = .ok (.if_icmp .ge 34, 3) := by decide +kernel
theorem dc_Window_make_13 : decode cb_Window_make 13 = .ok (.lload_n 1, 1) := by decide +kernel
theorem dc_Window_make_14 : decode cb_Window_make 14 = .ok (.aload_n 0, 1) := by decide +kernel
theorem dc_Window_make_15 : decode cb_Window_make 15 = .ok (.getfield 16, 3) := by decide +kernel
theorem dc_Window_make_18 : decode cb_Window_make 18 = .ok (.iload_n 3, 1) := by decide +kernel
theorem dc_Window_make_19 : decode cb_Window_make 19 = .ok (.iaload, 1) := by decide +kernel
theorem dc_Window_make_20 : decode cb_Window_make 20 = .ok (.i2l, 1) := by decide +kernel
theorem dc_Window_make_21 : decode cb_Window_make 21 = .ok (.aload_n 0, 1) := by decide +kernel
theorem dc_Window_make_22 : decode cb_Window_make 22 = .ok (.getfield 10, 3) := by decide +kernel
theorem dc_Window_make_25 : decode cb_Window_make 25 = .ok (.aload_n 0, 1) := by decide +kernel
theorem dc_Window_make_26 : decode cb_Window_make 26 = .ok (.getfield 42, 3) := by decide +kernel
theorem dc_Window_make_29 : decode cb_Window_make 29 = .ok (.iload_n 3, 1) := by decide +kernel
theorem dc_Window_make_30 : decode cb_Window_make 30 = .ok (.isub, 1) := by decide +kernel
theorem dc_Window_make_31 : decode cb_Window_make 31 = .ok (.invokevirtual 45, 3) := by decide +kernel
theorem dc_Window_make_34 : decode cb_Window_make 34 = .ok (.i2l, 1) := by decide +kernel
theorem dc_Window_make_35 : decode cb_Window_make 35 = .ok (.lmul, 1) := by decide +kernel
theorem dc_Window_make_36 : decode cb_Window_make 36 = .ok (.ladd, 1) := by decide +kernel
theorem dc_Window_make_37 : decode cb_Window_make 37 = .ok (.lstore_n 1, 1) := by decide +kernel
theorem dc_Window_make_38 : decode cb_Window_make 38 = .ok (.iinc 3 1, 3) := by decide +kernel
theorem dc_Window_make_41 : decode cb_Window_make 41 = .ok (.goto (-37), 3) := by decide +kernel
theorem dc_Window_make_44 : decode cb_Window_make 44 = .ok (.aload_n 0, 1) := by decide +kernel
theorem dc_Window_make_45 : decode cb_Window_make 45 = .ok (.dup, 1) := by decide +kernel
theorem dc_Window_make_46 : decode cb_Window_make 46 = .ok (.getfield 42, 3) := by decide +kernel
theorem dc_Window_make_49 : decode cb_Window_make 49 = .ok (.iconst 1, 1) := by decide +kernel
theorem dc_Window_make_50 : decode cb_Window_make 50 = .ok (.iadd, 1) := by decide +kernel
theorem dc_Window_make_51 : decode cb_Window_make 51 = .ok (.putfield 42, 3) := by decide +kernel
theorem dc_Window_make_54 : decode cb_Window_make 54 = .ok (.lload_n 1, 1) := by decide +kernel
theorem dc_Window_make_55 : decode cb_Window_make 55 = .ok (.aload_n 0, 1) := by decide +kernel
theorem dc_Window_make_56 : decode cb_Window_make 56 = .ok (.getfield 24, 3) := by decide +kernel
theorem dc_Window_make_59 : decode cb_Window_make 59 = .ok (.i2l, 1) := by decide +kernel
theorem dc_Window_make_60 : decode cb_Window_make 60 = .ok (.invokestatic 49, 3) := by decide +kernel
theorem dc_Window_make_63 : decode cb_Window_make 63 = .ok (.invokestatic 53, 3) := by decide +kernel
theorem dc_Window_make_66 : decode cb_Window_make 66 = .ok (.ireturn, 1) := by decide +kernel
theorem yk_Window_make : fq_Y my_Window_make cb_Window_make 4 (some .int) 0 := ⟨wd_683, wd_43, by decide +kernel⟩
theorem dc_Window_clear_0 : decode cb_Window_clear 0 = .ok (.aload_n 0, 1) := by decide +kernel
theorem dc_Window_clear_1 : decode cb_Window_clear 1 = .ok (.getfield 10, 3) := by decide +kernel
theorem dc_Window_clear_4 : decode cb_Window_clear 4 = .ok (.invokevirtual 59, 3) := by decide +kernel
theorem dc_Window_clear_7 : decode cb_Window_clear 7 = .ok (.aload_n 0, 1) := by decide +kernel
theorem dc_Window_clear_8 : decode cb_Window_clear 8 = .ok (.iconst 0, 1) := by decide +kernel
theorem dc_Window_clear_9 : decode cb_Window_clear 9 = .ok (.putfield 42, 3) := by decide +kernel
theorem dc_Window_clear_12 : decode cb_Window_clear 12 = .ok (.return_, 1) := by decide +kernel
theorem yk_Window_clear : fq_Y my_Window_clear cb_Window_clear 1 none 0 := ⟨wd_535, wd_43, by decide +kernel⟩
set_option maxHeartbeats 4000000 in
set_option maxRecDepth 100000 in
theorem ct_Window_weight (l : Launch) (D : va_G) (cI cO : ClassId) (tE : Nat) (sh : Int32) (k len : Nat) (hsh : sh = 0 ∨ sh = 1 ∨ sh = 2) (hk : k < len) (hlen : len ≤ 8) (sz : Nat) : Met l my_Window_weight (fq_w my_Window_weight cb_Window_weight 3 (some .int)) ({ frames := 1, cells := 0, slots := 0, locals := 13 }) (va_Pc ([.int sh, .int (nI (k + 1)), .int (nI (len - k))]) (fq_Pre D cI cO tE sz ([]))) (va_Qi (S := va_W) (fun r w => w = [] ∧ r.toInt = fm_wt sh.toInt len k) (fq_Bw D (va_A ([]) sz)) (va_A ([]) sz)) (0) (0) (va_A ([]) sz) := by
  refine fq_open (by decide +kernel) (Nat.le_of_ble_eq_true rfl) ?_
  intro pg ev s mt below meth cd ls K hret hlk hin hK hZ hP hD hA hS hl
  generalize va_A ([]) sz = A at hZ hD hA hS ⊢
  have K : fq_Ctx pg mt cd cb_Window_weight 3 s _ cn_Window := K
  have hl : lv_has ls 3 [(0, .int sh), (1, .int (nI (k + 1))), (2, .int (nI (len - k)))] := hl
  refine lv_iload_n K.1 K.2.1 dc_Window_weight_0 rfl (lv_at hl 0 rfl) ?_
  by_cases c1_0 : sh = 0
  · skip
    refine lv_lookup (off := 27) (tgt := 28) K.1 K.2.1 dc_Window_weight_1 (by decide) (by rw [c1_0]; decide) rfl ?_
    refine lv_iconst (v := 1) K.1 K.2.1 dc_Window_weight_28 (by decide) ?_
    exact fq_reti K hret hlk hS hP hD ⟨rfl, wn_w0 c1_0⟩ dc_Window_weight_29 (Nat.le_of_ble_eq_true rfl) (Nat.le_of_ble_eq_true rfl)
  by_cases c1_1 : sh = 1
  · skip
    refine lv_lookup (off := 29) (tgt := 30) K.1 K.2.1 dc_Window_weight_1 (by decide) (by rw [c1_1]; decide) rfl ?_
    refine lv_iload_n K.1 K.2.1 dc_Window_weight_30 rfl (lv_at hl 1 rfl) ?_
    refine lv_iload_n K.1 K.2.1 dc_Window_weight_31 rfl (lv_at hl 2 rfl) ?_
    refine va_mmin K.1 K.2.1 (K.2.2.1.trans hl.1.symm) K.2.2.2.1 (K.2.2.2.2 _ wd_393) (K.2.2.2.2 _ wd_176) (K.2.2.2.2 _ wd_35) (K.2.2.2.2 _ wd_177) (Nat.le_of_ble_eq_true rfl) (Nat.le_of_ble_eq_true rfl) (Nat.le_of_ble_eq_true rfl) (Nat.le_of_ble_eq_true rfl) dc_Window_weight_32 ?_
    exact fq_reti K hret hlk hS hP hD ⟨rfl, wn_w1 c1_1 hk hlen⟩ dc_Window_weight_35 (Nat.le_of_ble_eq_true rfl) (Nat.le_of_ble_eq_true rfl)
  refine lv_lookup (off := 35) (tgt := 36) K.1 K.2.1 dc_Window_weight_1 (by decide) (by rcases hsh with z | z | z; exact absurd z c1_0; exact absurd z c1_1; rw [z]; decide) rfl ?_
  have c1_2 : sh = 2 := by rcases hsh with z | z | z; exact absurd z c1_0; exact absurd z c1_1; exact z
  refine lv_iload_n K.1 K.2.1 dc_Window_weight_36 rfl (lv_at hl 1 rfl) ?_
  refine lv_iload_n K.1 K.2.1 dc_Window_weight_37 rfl (lv_at hl 2 rfl) ?_
  refine lv_imul K.1 K.2.1 dc_Window_weight_38 ?_
  exact fq_reti K hret hlk hS hP hD ⟨rfl, wn_w2 c1_2 hk hlen⟩ dc_Window_weight_39 (Nat.le_of_ble_eq_true rfl) (Nat.le_of_ble_eq_true rfl)
set_option maxHeartbeats 4000000 in
set_option maxRecDepth 100000 in
theorem ct_Window_init (l : Launch) (D : va_G) (cI cO : ClassId) (tE : Nat) (h : Nat) (sh : Int32) (len : Nat) (hsh : sh = 0 ∨ sh = 1 ∨ sh = 2) (hl1 : 1 ≤ len) (hl8 : len ≤ 8) (sz : Nat) : Met l my_Window_init (fq_w my_Window_init cb_Window_init 5 none) ({ frames := 2, cells := 3, slots := 18, locals := 35 }) (va_Pc ([.ref h, .int sh, .int (nI len)]) (fq_Pre D cI cO tE sz ([(h, .inr (4, [.null, .int 0, .null, .int 0]))]))) (va_Qv (S := va_W) (fun w => sg_win cI h (2, sh.toInt, (len : Int), 0, 0, 0) [] 0 w) (fq_Bw D (va_A ([(h, .inr (4, [.null, .int 0, .null, .int 0]))]) sz)) (va_A ([(h, .inr (4, [.null, .int 0, .null, .int 0]))]) sz)) (3) (18) (va_A ([(h, .inr (4, [.null, .int 0, .null, .int 0]))]) sz) := by
  refine fq_open (by decide +kernel) (Nat.le_of_ble_eq_true rfl) ?_
  intro pg ev s mt below meth cd ls K hret hlk hin hK hZ hP hD hA hS hl
  generalize va_A ([(h, .inr (4, [.null, .int 0, .null, .int 0]))]) sz = A at hZ hD hA hS ⊢
  have K : fq_Ctx pg mt cd cb_Window_init 5 s _ cn_Window := K
  have hin : meth.name = "<init>" := hin
  have hl : lv_has ls 5 [(0, .ref h), (1, .int sh), (2, .int (nI len))] := hl
  refine lv_aload_n K.1 K.2.1 dc_Window_init_0 rfl (lv_at hl 0 rfl) ?_
  have hc := fq_cut.of (wc := []) hP hD hS hA [] (by decide) rfl
  refine fq_cv (wr := [(h, .inr (4, [.null, .int 0, .null, .int 0]))]) (fq_rIN K hK hZ hS hc (ct_Stage_init l D cI cO tE h _) yk_Stage_init wd_238 rfl wn_376 ⟨⟨rfl, rfl⟩, ⟨Nat.le_of_ble_eq_true rfl, Nat.le_of_ble_eq_true rfl⟩, ⟨Nat.le_of_ble_eq_true rfl, Nat.le_of_ble_eq_true rfl⟩⟩ hl.1 rfl (Nat.le_of_ble_eq_true rfl) dc_Window_init_1) hP hD hS hc [] [0] rfl rfl (by decide) (by decide) (fun  w H locs hw1 hP hD hS => ?_)
  subst hw1
  have hP : va_P D fq_cl ([(h, .inr (4, [.null, .int 0, .null, .int 0]))]) _ := hP
  have hD : va_D A ([(h, .inr (4, [.null, .int 0, .null, .int 0]))]) := hD
  refine lv_aload_n K.1 K.2.1 dc_Window_init_4 rfl (lv_at hl 0 rfl) ?_
  refine fq_new (fs := [.null, .int 0]) K hK cl_Recent wd_377 wd_378 wd_44 hP hD hS hA (by decide) (Nat.le_of_ble_eq_true rfl) (Nat.le_of_ble_eq_true rfl) dc_Window_init_5 (fun q1 H hP hD hS => ?_)
  have hP : va_P D fq_cl ([(h, .inr (4, [.null, .int 0, .null, .int 0])), (q1, .inr (1, [.null, .int 0]))]) _ := hP
  have hD : va_D A ([(h, .inr (4, [.null, .int 0, .null, .int 0])), (q1, .inr (1, [.null, .int 0]))]) := hD
  refine lv_dup K.1 K.2.1 dc_Window_init_8 rfl ?_
  have hc := fq_cut.of (wc := [(q1, .inr (1, [.null, .int 0]))]) hP hD hS hA [1] (by decide) rfl
  refine fq_cv (wr := [(h, .inr (4, [.null, .int 0, .null, .int 0]))]) (fq_rIN K hK hZ hS hc (ct_Recent_init l D cI cO tE q1 _) yk_Recent_init wd_380 rfl wn_379 ⟨⟨rfl, rfl⟩, ⟨Nat.le_of_ble_eq_true rfl, Nat.le_of_ble_eq_true rfl⟩, ⟨Nat.le_of_ble_eq_true rfl, Nat.le_of_ble_eq_true rfl⟩⟩ hl.1 rfl (Nat.le_of_ble_eq_true rfl) dc_Window_init_9) hP hD hS hc [1] [0] rfl rfl (by decide) (by decide) (fun  w H locs hw2 hP hD hS => ?_)
  obtain ⟨q2, rfl⟩ := hw2
  have hP : va_P D fq_cl ([(h, .inr (4, [.null, .int 0, .null, .int 0])), (q1, .inr (1, [.ref q2, .int 0])), (q2, .inl (cI, 8, .inl (fun _ => 0)))]) _ := hP
  have hD : va_D A ([(h, .inr (4, [.null, .int 0, .null, .int 0])), (q1, .inr (1, [.ref q2, .int 0])), (q2, .inl (cI, 8, .inl (fun _ => 0)))]) := hD
  refine fq_putF K hK cl_Window hP hD hS hin 0 2 rfl (by decide) wd_396 rfl rfl rfl rfl (Nat.le_of_ble_eq_true rfl) dc_Window_init_12 (fun H locs hP hD hS => ?_)
  have hP : va_P D fq_cl ([(h, .inr (4, [.null, .int 0, .ref q1, .int 0])), (q1, .inr (1, [.ref q2, .int 0])), (q2, .inl (cI, 8, .inl (fun _ => 0)))]) _ := hP
  have hD : va_D A ([(h, .inr (4, [.null, .int 0, .ref q1, .int 0])), (q1, .inr (1, [.ref q2, .int 0])), (q2, .inl (cI, 8, .inl (fun _ => 0)))]) := hD
  refine lv_aload_n K.1 K.2.1 dc_Window_init_15 rfl (lv_at hl 0 rfl) ?_
  refine lv_iload_n K.1 K.2.1 dc_Window_init_16 rfl (lv_at hl 2 rfl) ?_
  refine fq_newI K hK wd_104 hP hD hS hA len rfl (by omega) (Nat.le_of_ble_eq_true rfl) (by show 0 + 0 + 2 + 8 + len ≤ 18; omega) dc_Window_init_17 (fun q3 H hP hD hS => ?_)
  have hP : va_P D fq_cl ([(h, .inr (4, [.null, .int 0, .ref q1, .int 0])), (q1, .inr (1, [.ref q2, .int 0])), (q2, .inl (cI, 8, .inl (fun _ => 0))), (q3, .inl (cI, len, .inl (fun _ => 0)))]) _ := hP
  have hD : va_D A ([(h, .inr (4, [.null, .int 0, .ref q1, .int 0])), (q1, .inr (1, [.ref q2, .int 0])), (q2, .inl (cI, 8, .inl (fun _ => 0))), (q3, .inl (cI, len, .inl (fun _ => 0)))]) := hD
  refine fq_putF K hK cl_Window hP hD hS hin 0 0 rfl (by decide) wd_394 rfl rfl rfl rfl (Nat.le_of_ble_eq_true rfl) dc_Window_init_19 (fun H locs hP hD hS => ?_)
  have hP : va_P D fq_cl ([(h, .inr (4, [.ref q3, .int 0, .ref q1, .int 0])), (q1, .inr (1, [.ref q2, .int 0])), (q2, .inl (cI, 8, .inl (fun _ => 0))), (q3, .inl (cI, len, .inl (fun _ => 0)))]) _ := hP
  have hD : va_D A ([(h, .inr (4, [.ref q3, .int 0, .ref q1, .int 0])), (q1, .inr (1, [.ref q2, .int 0])), (q2, .inl (cI, 8, .inl (fun _ => 0))), (q3, .inl (cI, len, .inl (fun _ => 0)))]) := hD
  refine lv_iconst (v := 0) K.1 K.2.1 dc_Window_init_22 (by decide) ?_
  refine lv_istore_n K.1 K.2.1 dc_Window_init_23 rfl hl (by decide) rfl (fun ls hl => ?_)
  have hl : lv_has ls 5 [(3, .int 0), (0, .ref h), (1, .int sh), (2, .int (nI len))] := hl
  refine lv_iconst (v := 0) K.1 K.2.1 dc_Window_init_24 (by decide) ?_
  refine lv_istore K.1 K.2.1 dc_Window_init_25 hl (by decide) rfl (fun ls hl => ?_)
  have hl : lv_has ls 5 [(4, .int 0), (3, .int 0), (0, .ref h), (1, .int sh), (2, .int (nI len))] := hl
  refine fq_lp (σ := Nat × Int32 × (Nat → Int32)) (fun x => len - x.1) (fun x H locs ls => (x.1 ≤ len ∧ x.2.1.toInt = fm_sum (fm_wt sh.toInt len) x.1 ∧ ∀ j, j < x.1 → (x.2.2 j).toInt = fm_wt sh.toInt len j) ∧ lv_has ls 5 [(0, .ref h), (1, .int sh), (2, .int (nI len)), (3, .int x.2.1), (4, .int (nI x.1))] ∧ va_P D fq_cl ([(h, .inr (4, [.ref q3, .int 0, .ref q1, .int 0])), (q1, .inr (1, [.ref q2, .int 0])), (q2, .inl (cI, 8, .inl (fun _ => 0))), (q3, .inl (cI, len, .inl x.2.2))]) H ∧ va_D A ([(h, .inr (4, [.ref q3, .int 0, .ref q1, .int 0])), (q1, .inr (1, [.ref q2, .int 0])), (q2, .inl (cI, 8, .inl (fun _ => 0))), (q3, .inl (cI, len, .inl x.2.2))]) ∧ va_S A s.heap H locs) ?_ (0, 0, fun _ => 0) _ _ _ ⟨⟨Nat.zero_le _, rfl, fun j hj => absurd hj (Nat.not_lt_zero j)⟩, lv_sub hl [2, 3, 4, 1, 0] rfl, hP, hD, hS⟩
  rintro ⟨k, sm, g⟩ H locs ls ⟨hI27, hl, hP, hD, hS⟩ ih27
  have hI27 : k ≤ len ∧ sm.toInt = fm_sum (fm_wt sh.toInt len) k ∧ ∀ j, j < k → (g j).toInt = fm_wt sh.toInt len j := hI27
  have hl : lv_has ls 5 [(0, .ref h), (1, .int sh), (2, .int (nI len)), (3, .int sm), (4, .int (nI k))] := hl
  have hP : va_P D fq_cl ([(h, .inr (4, [.ref q3, .int 0, .ref q1, .int 0])), (q1, .inr (1, [.ref q2, .int 0])), (q2, .inl (cI, 8, .inl (fun _ => 0))), (q3, .inl (cI, len, .inl g))]) _ := hP
  have hD : va_D A ([(h, .inr (4, [.ref q3, .int 0, .ref q1, .int 0])), (q1, .inr (1, [.ref q2, .int 0])), (q2, .inl (cI, 8, .inl (fun _ => 0))), (q3, .inl (cI, len, .inl g))]) := hD
  refine lv_iload K.1 K.2.1 dc_Window_init_27 (lv_at hl 4 rfl) ?_
  refine lv_iload_n K.1 K.2.1 dc_Window_init_29 rfl (lv_at hl 2 rfl) ?_
  refine lv_icmp_ge (tgt := 68) K.1 K.2.1 dc_Window_init_30 rfl (fun b30 => ?_) (fun b30 => ?_)
  · skip
    have hk : k = len := by rw [nI_leI (by omega) (by omega)] at b30; omega
    refine lv_aload_n K.1 K.2.1 dc_Window_init_68 rfl (lv_at hl 0 rfl) ?_
    refine lv_iload_n K.1 K.2.1 dc_Window_init_69 rfl (lv_at hl 3 rfl) ?_
    refine fq_putF K hK cl_Window hP hD hS hin 0 1 rfl (by decide) wd_395 rfl rfl rfl rfl (Nat.le_of_ble_eq_true rfl) dc_Window_init_70 (fun H locs hP hD hS => ?_)
    have hP : va_P D fq_cl ([(h, .inr (4, [.ref q3, .int sm, .ref q1, .int 0])), (q1, .inr (1, [.ref q2, .int 0])), (q2, .inl (cI, 8, .inl (fun _ => 0))), (q3, .inl (cI, len, .inl g))]) _ := hP
    have hD : va_D A ([(h, .inr (4, [.ref q3, .int sm, .ref q1, .int 0])), (q1, .inr (1, [.ref q2, .int 0])), (q2, .inl (cI, 8, .inl (fun _ => 0))), (q3, .inl (cI, len, .inl g))]) := hD
    exact fq_retv K hret hlk hS hP hD ⟨_, _, _, _, _, _, _, rfl, wn_new hsh hl1 hl8 hI27 hk⟩ dc_Window_init_73 (by omega) (by omega)
  · skip
    have hk : k < len := by rw [nI_leI (by omega) (by omega)] at b30; omega
    refine lv_aload_n K.1 K.2.1 dc_Window_init_33 rfl (lv_at hl 0 rfl) ?_
    refine fq_get K hK cl_Window hP 0 0 rfl (by decide) wd_394 rfl dc_Window_init_34 ?_
    refine lv_iload K.1 K.2.1 dc_Window_init_37 (lv_at hl 4 rfl) ?_
    refine lv_iload_n K.1 K.2.1 dc_Window_init_39 rfl (lv_at hl 1 rfl) ?_
    refine lv_iload K.1 K.2.1 dc_Window_init_40 (lv_at hl 4 rfl) ?_
    refine lv_iconst (v := 1) K.1 K.2.1 dc_Window_init_42 (by decide) ?_
    refine lv_iadd K.1 K.2.1 dc_Window_init_43 ?_
    refine fq_asi (y := nI (k + 1)) (nI_1 k) ?_
    refine lv_iload_n K.1 K.2.1 dc_Window_init_44 rfl (lv_at hl 2 rfl) ?_
    refine lv_iload K.1 K.2.1 dc_Window_init_45 (lv_at hl 4 rfl) ?_
    refine lv_isub K.1 K.2.1 dc_Window_init_47 ?_
    refine fq_asi (y := nI (len - k)) (pk_sub (by omega)) ?_
    have hc := fq_cut.of (wc := []) hP hD hS hA [] (by decide) rfl
    refine fq_ci (wr := [(h, .inr (4, [.ref q3, .int 0, .ref q1, .int 0])), (q1, .inr (1, [.ref q2, .int 0])), (q2, .inl (cI, 8, .inl (fun _ => 0))), (q3, .inl (cI, len, .inl g))]) (fq_rS K hK hZ hS hc (ct_Window_weight l D cI cO tE sh k len hsh hk hl8 _) yk_Window_weight wd_391 wd_390 ⟨⟨rfl, rfl⟩, ⟨Nat.le_of_ble_eq_true rfl, Nat.le_of_ble_eq_true rfl⟩, ⟨Nat.le_of_ble_eq_true rfl, (by show 0 + 0 + 2 + 8 + len + 0 ≤ 18; omega)⟩⟩ hl.1 rfl (Nat.le_of_ble_eq_true rfl) dc_Window_init_48) hP hD hS hc [] [0, 1, 2, 3] rfl rfl (by decide) (by decide) (fun r1 w H locs hw3 hP hD hS => ?_)
    obtain ⟨rfl, hwt1⟩ := hw3
    have hP : va_P D fq_cl ([(h, .inr (4, [.ref q3, .int 0, .ref q1, .int 0])), (q1, .inr (1, [.ref q2, .int 0])), (q2, .inl (cI, 8, .inl (fun _ => 0))), (q3, .inl (cI, len, .inl g))]) _ := hP
    have hD : va_D A ([(h, .inr (4, [.ref q3, .int 0, .ref q1, .int 0])), (q1, .inr (1, [.ref q2, .int 0])), (q2, .inl (cI, 8, .inl (fun _ => 0))), (q3, .inl (cI, len, .inl g))]) := hD
    refine fq_ast K hK hP hD hS 3 rfl (vp_in_nI hk (by omega)) dc_Window_init_51 (fun H locs hP hD hS => ?_)
    rw [nI_clamp (by omega)] at hP hD
    have hP : va_P D fq_cl ([(h, .inr (4, [.ref q3, .int 0, .ref q1, .int 0])), (q1, .inr (1, [.ref q2, .int 0])), (q2, .inl (cI, 8, .inl (fun _ => 0))), (q3, .inl (cI, len, .inl (upd g k r1)))]) _ := hP
    have hD : va_D A ([(h, .inr (4, [.ref q3, .int 0, .ref q1, .int 0])), (q1, .inr (1, [.ref q2, .int 0])), (q2, .inl (cI, 8, .inl (fun _ => 0))), (q3, .inl (cI, len, .inl (upd g k r1)))]) := hD
    refine lv_iload_n K.1 K.2.1 dc_Window_init_52 rfl (lv_at hl 3 rfl) ?_
    refine lv_aload_n K.1 K.2.1 dc_Window_init_53 rfl (lv_at hl 0 rfl) ?_
    refine fq_get K hK cl_Window hP 0 0 rfl (by decide) wd_394 rfl dc_Window_init_54 ?_
    refine lv_iload K.1 K.2.1 dc_Window_init_57 (lv_at hl 4 rfl) ?_
    refine fq_ald K hK hP 3 rfl (vp_in_nI hk (by omega)) dc_Window_init_59 ?_
    refine fq_asi (y := (upd g k r1) k) (by rw [nI_clamp (by omega)]) ?_
    refine fq_asi (y := r1) (pk_us) ?_
    refine lv_iadd K.1 K.2.1 dc_Window_init_60 ?_
    refine lv_topi (fun v1 e_v1 => ?_)
    refine lv_istore_n K.1 K.2.1 dc_Window_init_61 rfl hl (by decide) rfl (fun ls hl => ?_)
    have hl : lv_has ls 5 [(3, .int v1), (0, .ref h), (1, .int sh), (2, .int (nI len)), (4, .int (nI k))] := hl
    refine lv_iinc (v := nI (k + 1)) K.1 K.2.1 dc_Window_init_62 hl (k := 4) rfl (nI_1 k) (by decide) rfl (fun ls hl => ?_)
    have hl : lv_has ls 5 [(4, .int (nI (k + 1))), (3, .int v1), (0, .ref h), (1, .int sh), (2, .int (nI len))] := hl
    refine lv_goto (tgt := 27) K.1 K.2.1 dc_Window_init_65 rfl ?_
    exact ih27 (k + 1, v1, upd g k r1) _ _ _ (by show len - (k + 1) < len - k; omega) ⟨wn_step hI27 hk hl8 hwt1 e_v1, lv_sub hl [2, 3, 4, 1, 0] rfl, hP, hD, hS⟩
set_option maxHeartbeats 4000000 in
set_option maxRecDepth 100000 in
theorem ct_Window_take (l : Launch) (D : va_G) (cI cO : ClassId) (tE : Nat) (h hw hr ha len : Nat) (tt : Int32) (f g : Nat → Int32) (sp : fm_S) (xs : List Int) (m : Nat) (hwn : wn_ok len tt f g sp xs m) (x : Int32) (hx : fm_in x.toInt) (hlt : xs.length < 1000000) (sz : Nat) : Met l my_Window_take (fq_w my_Window_take cb_Window_take 2 (some .int)) ({ frames := 1, cells := 0, slots := 0, locals := 21 }) (va_Pc ([.ref h, .int x]) (fq_Pre D cI cO tE sz ([(h, .inr (4, [.ref hw, .int tt, .ref hr, .int (nI m)])), (hr, .inr (1, [.ref ha, .int (nI xs.length)])), (ha, .inl (cI, 8, .inl f)), (hw, .inl (cI, len, .inl g))]))) (va_Qi (S := va_W) (fun r w => r = 1 ∧ sg_win cI h sp (xs ++ [x.toInt]) m w) (fq_Bw D (va_A ([(h, .inr (4, [.ref hw, .int tt, .ref hr, .int (nI m)])), (hr, .inr (1, [.ref ha, .int (nI xs.length)])), (ha, .inl (cI, 8, .inl f)), (hw, .inl (cI, len, .inl g))]) sz)) (va_A ([(h, .inr (4, [.ref hw, .int tt, .ref hr, .int (nI m)])), (hr, .inr (1, [.ref ha, .int (nI xs.length)])), (ha, .inl (cI, 8, .inl f)), (hw, .inl (cI, len, .inl g))]) sz)) (0) (0) (va_A ([(h, .inr (4, [.ref hw, .int tt, .ref hr, .int (nI m)])), (hr, .inr (1, [.ref ha, .int (nI xs.length)])), (ha, .inl (cI, 8, .inl f)), (hw, .inl (cI, len, .inl g))]) sz) := by
  refine fq_open (by decide +kernel) (Nat.le_of_ble_eq_true rfl) ?_
  intro pg ev s mt below meth cd ls K hret hlk hin hK hZ hP hD hA hS hl
  generalize va_A ([(h, .inr (4, [.ref hw, .int tt, .ref hr, .int (nI m)])), (hr, .inr (1, [.ref ha, .int (nI xs.length)])), (ha, .inl (cI, 8, .inl f)), (hw, .inl (cI, len, .inl g))]) sz = A at hZ hD hA hS ⊢
  have K : fq_Ctx pg mt cd cb_Window_take 2 s _ cn_Window := K
  have hl : lv_has ls 2 [(0, .ref h), (1, .int x)] := hl
  refine lv_aload_n K.1 K.2.1 dc_Window_take_0 rfl (lv_at hl 0 rfl) ?_
  refine fq_get K hK cl_Window hP 0 2 rfl (by decide) wd_396 rfl dc_Window_take_1 ?_
  refine lv_iload_n K.1 K.2.1 dc_Window_take_4 rfl (lv_at hl 1 rfl) ?_
  have hc := fq_cut.of (wc := [(hr, .inr (1, [.ref ha, .int (nI xs.length)])), (ha, .inl (cI, 8, .inl f))]) hP hD hS hA [1, 2] (by decide) rfl
  refine fq_cv (wr := [(h, .inr (4, [.ref hw, .int tt, .ref hr, .int (nI m)])), (hw, .inl (cI, len, .inl g))]) (fq_rV K hK hZ hS hc (ct_Recent_put l D cI cO tE hr ha f xs x (hwn.2.2.2.1) hlt _) yk_Recent_put wd_623 wd_624 wd_640 0 rfl rfl rfl ⟨⟨rfl, rfl⟩, ⟨Nat.le_of_ble_eq_true rfl, Nat.le_of_ble_eq_true rfl⟩, ⟨Nat.le_of_ble_eq_true rfl, Nat.le_of_ble_eq_true rfl⟩⟩ hl.1 rfl (Nat.le_of_ble_eq_true rfl) dc_Window_take_5) hP hD hS hc [1, 2] [0, 3] rfl rfl (by decide) (by decide) (fun  w H locs hw1 hP hD hS => ?_)
  obtain ⟨g1, rfl, hrc1⟩ := hw1
  have hP : va_P D fq_cl ([(h, .inr (4, [.ref hw, .int tt, .ref hr, .int (nI m)])), (hw, .inl (cI, len, .inl g)), (hr, .inr (1, [.ref ha, .int (nI (xs ++ [x.toInt]).length)])), (ha, .inl (cI, 8, .inl g1))]) _ := hP
  have hD : va_D A ([(h, .inr (4, [.ref hw, .int tt, .ref hr, .int (nI m)])), (hw, .inl (cI, len, .inl g)), (hr, .inr (1, [.ref ha, .int (nI (xs ++ [x.toInt]).length)])), (ha, .inl (cI, 8, .inl g1))]) := hD
  refine lv_iconst (v := 1) K.1 K.2.1 dc_Window_take_8 (by decide) ?_
  have hP := hP.sub (ws' := [(h, .inr (4, [.ref hw, .int tt, .ref hr, .int (nI m)])), (hr, .inr (1, [.ref ha, .int (nI (xs ++ [x.toInt]).length)])), (ha, .inl (cI, 8, .inl g1)), (hw, .inl (cI, len, .inl g))]) [0, 2, 3, 1] rfl
  have hD := hD.sub (ws' := [(h, .inr (4, [.ref hw, .int tt, .ref hr, .int (nI m)])), (hr, .inr (1, [.ref ha, .int (nI (xs ++ [x.toInt]).length)])), (ha, .inl (cI, 8, .inl g1)), (hw, .inl (cI, len, .inl g))]) [0, 2, 3, 1] (by decide) rfl
  exact fq_reti K hret hlk hS hP hD ⟨rfl, _, _, _, _, _, _, _, rfl, wn_take hwn hx hrc1⟩ dc_Window_take_9 (Nat.le_of_ble_eq_true rfl) (Nat.le_of_ble_eq_true rfl)
set_option maxHeartbeats 4000000 in
set_option maxRecDepth 100000 in
theorem ct_Window_finish (l : Launch) (D : va_G) (cI cO : ClassId) (tE : Nat) (h hw hr ha len : Nat) (tt : Int32) (f g : Nat → Int32) (sp : fm_S) (xs : List Int) (m : Nat) (hwn : wn_ok len tt f g sp xs m)  (sz : Nat) : Met l my_Window_finish (fq_w my_Window_finish cb_Window_finish 1 (some .int)) ({ frames := 1, cells := 0, slots := 0, locals := 20 }) (va_Pc ([.ref h]) (fq_Pre D cI cO tE sz ([(h, .inr (4, [.ref hw, .int tt, .ref hr, .int (nI m)])), (hr, .inr (1, [.ref ha, .int (nI xs.length)])), (ha, .inl (cI, 8, .inl f)), (hw, .inl (cI, len, .inl g))]))) (va_Qi (S := va_W) (fun r w => r = nI (fm_m sp true xs.length - fm_m sp false xs.length) ∧ sg_win cI h sp xs m w) (fq_Bw D (va_A ([(h, .inr (4, [.ref hw, .int tt, .ref hr, .int (nI m)])), (hr, .inr (1, [.ref ha, .int (nI xs.length)])), (ha, .inl (cI, 8, .inl f)), (hw, .inl (cI, len, .inl g))]) sz)) (va_A ([(h, .inr (4, [.ref hw, .int tt, .ref hr, .int (nI m)])), (hr, .inr (1, [.ref ha, .int (nI xs.length)])), (ha, .inl (cI, 8, .inl f)), (hw, .inl (cI, len, .inl g))]) sz)) (0) (0) (va_A ([(h, .inr (4, [.ref hw, .int tt, .ref hr, .int (nI m)])), (hr, .inr (1, [.ref ha, .int (nI xs.length)])), (ha, .inl (cI, 8, .inl f)), (hw, .inl (cI, len, .inl g))]) sz) := by
  refine fq_open (by decide +kernel) (Nat.le_of_ble_eq_true rfl) ?_
  intro pg ev s mt below meth cd ls K hret hlk hin hK hZ hP hD hA hS hl
  generalize va_A ([(h, .inr (4, [.ref hw, .int tt, .ref hr, .int (nI m)])), (hr, .inr (1, [.ref ha, .int (nI xs.length)])), (ha, .inl (cI, 8, .inl f)), (hw, .inl (cI, len, .inl g))]) sz = A at hZ hD hA hS ⊢
  have K : fq_Ctx pg mt cd cb_Window_finish 1 s _ cn_Window := K
  have hl : lv_has ls 1 [(0, .ref h)] := hl
  refine lv_aload_n K.1 K.2.1 dc_Window_finish_0 rfl (lv_at hl 0 rfl) ?_
  refine fq_get K hK cl_Window hP 0 2 rfl (by decide) wd_396 rfl dc_Window_finish_1 ?_
  have hc := fq_cut.of (wc := [(hr, .inr (1, [.ref ha, .int (nI xs.length)])), (ha, .inl (cI, 8, .inl f))]) hP hD hS hA [1, 2] (by decide) rfl
  refine fq_ci (wr := [(h, .inr (4, [.ref hw, .int tt, .ref hr, .int (nI m)])), (hw, .inl (cI, len, .inl g))]) (fq_rV K hK hZ hS hc (ct_Recent_count l D cI cO tE hr ha f xs _) yk_Recent_count wd_627 wd_628 wd_706 0 rfl rfl rfl ⟨⟨rfl, rfl⟩, ⟨Nat.le_of_ble_eq_true rfl, Nat.le_of_ble_eq_true rfl⟩, ⟨Nat.le_of_ble_eq_true rfl, Nat.le_of_ble_eq_true rfl⟩⟩ hl.1 rfl (Nat.le_of_ble_eq_true rfl) dc_Window_finish_4) hP hD hS hc [1, 2] [0, 3] rfl rfl (by decide) (by decide) (fun r1 w H locs hw1 hP hD hS => ?_)
  obtain ⟨rfl, rfl⟩ := hw1
  have hP : va_P D fq_cl ([(h, .inr (4, [.ref hw, .int tt, .ref hr, .int (nI m)])), (hw, .inl (cI, len, .inl g)), (hr, .inr (1, [.ref ha, .int (nI xs.length)])), (ha, .inl (cI, 8, .inl f))]) _ := hP
  have hD : va_D A ([(h, .inr (4, [.ref hw, .int tt, .ref hr, .int (nI m)])), (hw, .inl (cI, len, .inl g)), (hr, .inr (1, [.ref ha, .int (nI xs.length)])), (ha, .inl (cI, 8, .inl f))]) := hD
  refine lv_if_ne (tgt := 14) K.1 K.2.1 dc_Window_finish_7 rfl (fun b7 => ?_) (fun b7 => ?_)
  · skip
    refine lv_aload_n K.1 K.2.1 dc_Window_finish_14 rfl (lv_at hl 0 rfl) ?_
    refine fq_get K hK cl_Window hP 0 0 rfl (by decide) wd_394 rfl dc_Window_finish_15 ?_
    refine fq_len K hK hP 1 rfl dc_Window_finish_18 ?_
    refine lv_iconst (v := 1) K.1 K.2.1 dc_Window_finish_19 (by decide) ?_
    refine lv_isub K.1 K.2.1 dc_Window_finish_20 ?_
    have hP := hP.sub (ws' := [(h, .inr (4, [.ref hw, .int tt, .ref hr, .int (nI m)])), (hr, .inr (1, [.ref ha, .int (nI xs.length)])), (ha, .inl (cI, 8, .inl f)), (hw, .inl (cI, len, .inl g))]) [0, 2, 3, 1] rfl
    have hD := hD.sub (ws' := [(h, .inr (4, [.ref hw, .int tt, .ref hr, .int (nI m)])), (hr, .inr (1, [.ref ha, .int (nI xs.length)])), (ha, .inl (cI, 8, .inl f)), (hw, .inl (cI, len, .inl g))]) [0, 2, 3, 1] (by decide) rfl
    exact fq_reti K hret hlk hS hP hD ⟨wn_fin1 hwn b7, _, _, _, _, _, _, _, rfl, hwn⟩ dc_Window_finish_21 (Nat.le_of_ble_eq_true rfl) (Nat.le_of_ble_eq_true rfl)
  · skip
    refine lv_iconst (v := 0) K.1 K.2.1 dc_Window_finish_10 (by decide) ?_
    refine lv_goto (tgt := 21) K.1 K.2.1 dc_Window_finish_11 rfl ?_
    have hP := hP.sub (ws' := [(h, .inr (4, [.ref hw, .int tt, .ref hr, .int (nI m)])), (hr, .inr (1, [.ref ha, .int (nI xs.length)])), (ha, .inl (cI, 8, .inl f)), (hw, .inl (cI, len, .inl g))]) [0, 2, 3, 1] rfl
    have hD := hD.sub (ws' := [(h, .inr (4, [.ref hw, .int tt, .ref hr, .int (nI m)])), (hr, .inr (1, [.ref ha, .int (nI xs.length)])), (ha, .inl (cI, 8, .inl f)), (hw, .inl (cI, len, .inl g))]) [0, 2, 3, 1] (by decide) rfl
    exact fq_reti K hret hlk hS hP hD ⟨wn_fin0 hwn b7, _, _, _, _, _, _, _, rfl, hwn⟩ dc_Window_finish_21 (Nat.le_of_ble_eq_true rfl) (Nat.le_of_ble_eq_true rfl)
set_option maxHeartbeats 4000000 in
set_option maxRecDepth 100000 in
theorem ct_Window_make (l : Launch) (D : va_G) (cI cO : ClassId) (tE : Nat) (h hw hr ha len : Nat) (tt : Int32) (f g : Nat → Int32) (sp : fm_S) (xs : List Int) (m : Nat) (hwn : wn_ok len tt f g sp xs m) (hm : xs.length ≤ m + 1) (hmx : m + 1 < 300000) (sz : Nat) : Met l my_Window_make (fq_w my_Window_make cb_Window_make 4 (some .int)) ({ frames := 2, cells := 0, slots := 0, locals := 38 }) (va_Pc ([.ref h]) (fq_Pre D cI cO tE sz ([(h, .inr (4, [.ref hw, .int tt, .ref hr, .int (nI m)])), (hr, .inr (1, [.ref ha, .int (nI xs.length)])), (ha, .inl (cI, 8, .inl f)), (hw, .inl (cI, len, .inl g))]))) (va_Qi (S := va_W) (fun r w => r.toInt = fm_y sp xs m ∧ sg_win cI h sp xs (m + 1) w) (fq_Bw D (va_A ([(h, .inr (4, [.ref hw, .int tt, .ref hr, .int (nI m)])), (hr, .inr (1, [.ref ha, .int (nI xs.length)])), (ha, .inl (cI, 8, .inl f)), (hw, .inl (cI, len, .inl g))]) sz)) (va_A ([(h, .inr (4, [.ref hw, .int tt, .ref hr, .int (nI m)])), (hr, .inr (1, [.ref ha, .int (nI xs.length)])), (ha, .inl (cI, 8, .inl f)), (hw, .inl (cI, len, .inl g))]) sz)) (0) (0) (va_A ([(h, .inr (4, [.ref hw, .int tt, .ref hr, .int (nI m)])), (hr, .inr (1, [.ref ha, .int (nI xs.length)])), (ha, .inl (cI, 8, .inl f)), (hw, .inl (cI, len, .inl g))]) sz) := by
  refine fq_open (by decide +kernel) (Nat.le_of_ble_eq_true rfl) ?_
  intro pg ev s mt below meth cd ls K hret hlk hin hK hZ hP hD hA hS hl
  generalize va_A ([(h, .inr (4, [.ref hw, .int tt, .ref hr, .int (nI m)])), (hr, .inr (1, [.ref ha, .int (nI xs.length)])), (ha, .inl (cI, 8, .inl f)), (hw, .inl (cI, len, .inl g))]) sz = A at hZ hD hA hS ⊢
  have K : fq_Ctx pg mt cd cb_Window_make 4 s _ cn_Window := K
  have hl : lv_has ls 4 [(0, .ref h)] := hl
  have hlen := wn_len hwn
  have hmb := hwn.2.2.2.2.1
  refine lv_lconst (v := 0) K.1 K.2.1 dc_Window_make_0 (by decide) ?_
  refine lv_lstore_n K.1 K.2.1 dc_Window_make_1 rfl hl (by decide) rfl (fun ls hl => ?_)
  have hl : lv_has ls 4 [(1, .long 0), (0, .ref h)] := hl
  refine lv_iconst (v := 0) K.1 K.2.1 dc_Window_make_2 (by decide) ?_
  refine lv_istore_n K.1 K.2.1 dc_Window_make_3 rfl hl (by decide) rfl (fun ls hl => ?_)
  have hl : lv_has ls 4 [(3, .int 0), (1, .long 0), (0, .ref h)] := hl
  refine fq_lp (σ := Nat × Int64) (fun x => len - x.1) (fun x H locs ls => (x.1 ≤ len ∧ x.2.toInt = fm_sum (fun i => fm_wt sp.2.1 len i * fm_x xs ((m : Int) - i)) x.1) ∧ lv_has ls 4 [(0, .ref h), (1, .long x.2), (3, .int (nI x.1))] ∧ va_P D fq_cl ([(h, .inr (4, [.ref hw, .int tt, .ref hr, .int (nI m)])), (hr, .inr (1, [.ref ha, .int (nI xs.length)])), (ha, .inl (cI, 8, .inl f)), (hw, .inl (cI, len, .inl g))]) H ∧ va_D A ([(h, .inr (4, [.ref hw, .int tt, .ref hr, .int (nI m)])), (hr, .inr (1, [.ref ha, .int (nI xs.length)])), (ha, .inl (cI, 8, .inl f)), (hw, .inl (cI, len, .inl g))]) ∧ va_S A s.heap H locs) ?_ (0, 0) _ _ _ ⟨⟨Nat.zero_le _, rfl⟩, lv_sub hl [2, 1, 0] rfl, hP, hD, hS⟩
  rintro ⟨k, v⟩ H locs ls ⟨hI4, hl, hP, hD, hS⟩ ih4
  have hI4 : k ≤ len ∧ v.toInt = fm_sum (fun i => fm_wt sp.2.1 len i * fm_x xs ((m : Int) - i)) k := hI4
  have hl : lv_has ls 4 [(0, .ref h), (1, .long v), (3, .int (nI k))] := hl
  have hP : va_P D fq_cl ([(h, .inr (4, [.ref hw, .int tt, .ref hr, .int (nI m)])), (hr, .inr (1, [.ref ha, .int (nI xs.length)])), (ha, .inl (cI, 8, .inl f)), (hw, .inl (cI, len, .inl g))]) _ := hP
  have hD : va_D A ([(h, .inr (4, [.ref hw, .int tt, .ref hr, .int (nI m)])), (hr, .inr (1, [.ref ha, .int (nI xs.length)])), (ha, .inl (cI, 8, .inl f)), (hw, .inl (cI, len, .inl g))]) := hD
  refine lv_iload_n K.1 K.2.1 dc_Window_make_4 rfl (lv_at hl 2 rfl) ?_
  refine lv_aload_n K.1 K.2.1 dc_Window_make_5 rfl (lv_at hl 0 rfl) ?_
  refine fq_get K hK cl_Window hP 0 0 rfl (by decide) wd_394 rfl dc_Window_make_6 ?_
  refine fq_len K hK hP 3 rfl dc_Window_make_9 ?_
  refine lv_icmp_ge (tgt := 44) K.1 K.2.1 dc_Window_make_10 rfl (fun b10 => ?_) (fun b10 => ?_)
  · skip
    have hk : k = len := by rw [nI_leI (by omega) (by omega)] at b10; omega
    refine lv_aload_n K.1 K.2.1 dc_Window_make_44 rfl (lv_at hl 0 rfl) ?_
    refine lv_dup K.1 K.2.1 dc_Window_make_45 rfl ?_
    refine fq_get K hK cl_Window hP 0 3 rfl (by decide) wd_397 rfl dc_Window_make_46 ?_
    refine lv_iconst (v := 1) K.1 K.2.1 dc_Window_make_49 (by decide) ?_
    refine lv_iadd K.1 K.2.1 dc_Window_make_50 ?_
    refine fq_asi (y := nI (m + 1)) (nI_1 m) ?_
    refine fq_put K hK cl_Window hP hD hS 0 3 rfl (by decide) wd_397 rfl rfl rfl (Nat.le_of_ble_eq_true rfl) dc_Window_make_51 (fun H locs hP hD hS => ?_)
    have hP : va_P D fq_cl ([(h, .inr (4, [.ref hw, .int tt, .ref hr, .int (nI (m + 1))])), (hr, .inr (1, [.ref ha, .int (nI xs.length)])), (ha, .inl (cI, 8, .inl f)), (hw, .inl (cI, len, .inl g))]) _ := hP
    have hD : va_D A ([(h, .inr (4, [.ref hw, .int tt, .ref hr, .int (nI (m + 1))])), (hr, .inr (1, [.ref ha, .int (nI xs.length)])), (ha, .inl (cI, 8, .inl f)), (hw, .inl (cI, len, .inl g))]) := hD
    refine lv_lload_n K.1 K.2.1 dc_Window_make_54 rfl (lv_at hl 1 rfl) ?_
    refine lv_aload_n K.1 K.2.1 dc_Window_make_55 rfl (lv_at hl 0 rfl) ?_
    refine fq_get K hK cl_Window hP 0 1 rfl (by decide) wd_395 rfl dc_Window_make_56 ?_
    refine lv_i2l K.1 K.2.1 dc_Window_make_59 rfl ?_
    have hc := fq_cut.of (wc := []) hP hD hS hA [] (by decide) rfl
    refine fq_cl_ (wr := [(h, .inr (4, [.ref hw, .int tt, .ref hr, .int (nI (m + 1))])), (hr, .inr (1, [.ref ha, .int (nI xs.length)])), (ha, .inl (cI, 8, .inl f)), (hw, .inl (cI, len, .inl g))]) (fq_rS K hK hZ hS hc (ct_Ma_floorDiv l D cI cO tE v tt.toInt64 (wn_pos hwn) _) yk_Ma_floorDiv wd_345 wd_685 ⟨⟨rfl, rfl⟩, ⟨Nat.le_of_ble_eq_true rfl, Nat.le_of_ble_eq_true rfl⟩, ⟨Nat.le_of_ble_eq_true rfl, Nat.le_of_ble_eq_true rfl⟩⟩ hl.1 rfl (Nat.le_of_ble_eq_true rfl) dc_Window_make_60) hP hD hS hc [] [0, 1, 2, 3] rfl rfl (by decide) (by decide) (fun r1 w H locs hw1 hP hD hS => ?_)
    obtain ⟨rfl, hd1⟩ := hw1
    have hP : va_P D fq_cl ([(h, .inr (4, [.ref hw, .int tt, .ref hr, .int (nI (m + 1))])), (hr, .inr (1, [.ref ha, .int (nI xs.length)])), (ha, .inl (cI, 8, .inl f)), (hw, .inl (cI, len, .inl g))]) _ := hP
    have hD : va_D A ([(h, .inr (4, [.ref hw, .int tt, .ref hr, .int (nI (m + 1))])), (hr, .inr (1, [.ref ha, .int (nI xs.length)])), (ha, .inl (cI, 8, .inl f)), (hw, .inl (cI, len, .inl g))]) := hD
    have hc := fq_cut.of (wc := []) hP hD hS hA [] (by decide) rfl
    refine fq_ci (wr := [(h, .inr (4, [.ref hw, .int tt, .ref hr, .int (nI (m + 1))])), (hr, .inr (1, [.ref ha, .int (nI xs.length)])), (ha, .inl (cI, 8, .inl f)), (hw, .inl (cI, len, .inl g))]) (fq_rSN K hK hZ hS hc (ct_FP_clipped l D cI cO tE r1 _) yk_FP_clipped wd_654 wn_686 ⟨⟨rfl, rfl⟩, ⟨Nat.le_of_ble_eq_true rfl, Nat.le_of_ble_eq_true rfl⟩, ⟨Nat.le_of_ble_eq_true rfl, Nat.le_of_ble_eq_true rfl⟩⟩ hl.1 rfl (Nat.le_of_ble_eq_true rfl) dc_Window_make_63) hP hD hS hc [] [0, 1, 2, 3] rfl rfl (by decide) (by decide) (fun r2 w H locs hw2 hP hD hS => ?_)
    obtain ⟨rfl, hd2⟩ := hw2
    have hP : va_P D fq_cl ([(h, .inr (4, [.ref hw, .int tt, .ref hr, .int (nI (m + 1))])), (hr, .inr (1, [.ref ha, .int (nI xs.length)])), (ha, .inl (cI, 8, .inl f)), (hw, .inl (cI, len, .inl g))]) _ := hP
    have hD : va_D A ([(h, .inr (4, [.ref hw, .int tt, .ref hr, .int (nI (m + 1))])), (hr, .inr (1, [.ref ha, .int (nI xs.length)])), (ha, .inl (cI, 8, .inl f)), (hw, .inl (cI, len, .inl g))]) := hD
    exact fq_reti K hret hlk hS hP hD ⟨wn_val hwn hk hI4 hd1 hd2, _, _, _, _, _, _, _, rfl, wn_next hwn hmx⟩ dc_Window_make_66 (Nat.le_of_ble_eq_true rfl) (Nat.le_of_ble_eq_true rfl)
  · skip
    have hk : k < len := by rw [nI_leI (by omega) (by omega)] at b10; omega
    refine lv_lload_n K.1 K.2.1 dc_Window_make_13 rfl (lv_at hl 1 rfl) ?_
    refine lv_aload_n K.1 K.2.1 dc_Window_make_14 rfl (lv_at hl 0 rfl) ?_
    refine fq_get K hK cl_Window hP 0 0 rfl (by decide) wd_394 rfl dc_Window_make_15 ?_
    refine lv_iload_n K.1 K.2.1 dc_Window_make_18 rfl (lv_at hl 2 rfl) ?_
    refine fq_ald K hK hP 3 rfl (vp_in_nI hk (by omega)) dc_Window_make_19 ?_
    refine fq_asi (y := g k) (by rw [nI_clamp (by omega)]) ?_
    refine lv_i2l K.1 K.2.1 dc_Window_make_20 rfl ?_
    refine lv_aload_n K.1 K.2.1 dc_Window_make_21 rfl (lv_at hl 0 rfl) ?_
    refine fq_get K hK cl_Window hP 0 2 rfl (by decide) wd_396 rfl dc_Window_make_22 ?_
    refine lv_aload_n K.1 K.2.1 dc_Window_make_25 rfl (lv_at hl 0 rfl) ?_
    refine fq_get K hK cl_Window hP 0 3 rfl (by decide) wd_397 rfl dc_Window_make_26 ?_
    refine lv_iload_n K.1 K.2.1 dc_Window_make_29 rfl (lv_at hl 2 rfl) ?_
    refine lv_isub K.1 K.2.1 dc_Window_make_30 ?_
    have hc := fq_cut.of (wc := [(hr, .inr (1, [.ref ha, .int (nI xs.length)])), (ha, .inl (cI, 8, .inl f))]) hP hD hS hA [1, 2] (by decide) rfl
    refine fq_ci (wr := [(h, .inr (4, [.ref hw, .int tt, .ref hr, .int (nI m)])), (hw, .inl (cI, len, .inl g))]) (fq_rV K hK hZ hS hc (ct_Recent_at l D cI cO tE hr ha f xs ((nI m) - (nI k)) (hwn.2.2.2.1) _) yk_Recent_at wd_668 wd_669 wd_684 0 rfl rfl rfl ⟨⟨rfl, rfl⟩, ⟨Nat.le_of_ble_eq_true rfl, Nat.le_of_ble_eq_true rfl⟩, ⟨Nat.le_of_ble_eq_true rfl, Nat.le_of_ble_eq_true rfl⟩⟩ hl.1 rfl (Nat.le_of_ble_eq_true rfl) dc_Window_make_31) hP hD hS hc [1, 2] [0, 3] rfl rfl (by decide) (by decide) (fun r3 w H locs hw3 hP hD hS => ?_)
    obtain ⟨rfl, hat1⟩ := hw3
    have hP : va_P D fq_cl ([(h, .inr (4, [.ref hw, .int tt, .ref hr, .int (nI m)])), (hw, .inl (cI, len, .inl g)), (hr, .inr (1, [.ref ha, .int (nI xs.length)])), (ha, .inl (cI, 8, .inl f))]) _ := hP
    have hD : va_D A ([(h, .inr (4, [.ref hw, .int tt, .ref hr, .int (nI m)])), (hw, .inl (cI, len, .inl g)), (hr, .inr (1, [.ref ha, .int (nI xs.length)])), (ha, .inl (cI, 8, .inl f))]) := hD
    refine lv_i2l K.1 K.2.1 dc_Window_make_34 rfl ?_
    refine lv_lmul K.1 K.2.1 dc_Window_make_35 ?_
    refine lv_ladd K.1 K.2.1 dc_Window_make_36 ?_
    refine lv_topl (fun v1 e_v1 => ?_)
    refine lv_lstore_n K.1 K.2.1 dc_Window_make_37 rfl hl (by decide) rfl (fun ls hl => ?_)
    have hl : lv_has ls 4 [(1, .long v1), (0, .ref h), (3, .int (nI k))] := hl
    refine lv_iinc (v := nI (k + 1)) K.1 K.2.1 dc_Window_make_38 hl (k := 2) rfl (nI_1 k) (by decide) rfl (fun ls hl => ?_)
    have hl : lv_has ls 4 [(3, .int (nI (k + 1))), (1, .long v1), (0, .ref h)] := hl
    refine lv_goto (tgt := 4) K.1 K.2.1 dc_Window_make_41 rfl ?_
    have hP := hP.sub (ws' := [(h, .inr (4, [.ref hw, .int tt, .ref hr, .int (nI m)])), (hr, .inr (1, [.ref ha, .int (nI xs.length)])), (ha, .inl (cI, 8, .inl f)), (hw, .inl (cI, len, .inl g))]) [0, 2, 3, 1] rfl
    have hD := hD.sub (ws' := [(h, .inr (4, [.ref hw, .int tt, .ref hr, .int (nI m)])), (hr, .inr (1, [.ref ha, .int (nI xs.length)])), (ha, .inl (cI, 8, .inl f)), (hw, .inl (cI, len, .inl g))]) [0, 2, 3, 1] (by decide) rfl
    exact ih4 (k + 1, v1) _ _ _ (by show len - (k + 1) < len - k; omega) ⟨wn_add hwn hm hk hI4 e_v1 hat1, lv_sub hl [2, 1, 0] rfl, hP, hD, hS⟩
set_option maxHeartbeats 4000000 in
set_option maxRecDepth 100000 in
theorem ct_Window_clear (l : Launch) (D : va_G) (cI cO : ClassId) (tE : Nat) (h hw hr ha len : Nat) (tt : Int32) (f g : Nat → Int32) (sp : fm_S) (xs : List Int) (m : Nat) (hwn : wn_ok len tt f g sp xs m)  (sz : Nat) : Met l my_Window_clear (fq_w my_Window_clear cb_Window_clear 1 none) ({ frames := 1, cells := 0, slots := 0, locals := 20 }) (va_Pc ([.ref h]) (fq_Pre D cI cO tE sz ([(h, .inr (4, [.ref hw, .int tt, .ref hr, .int (nI m)])), (hr, .inr (1, [.ref ha, .int (nI xs.length)])), (ha, .inl (cI, 8, .inl f)), (hw, .inl (cI, len, .inl g))]))) (va_Qv (S := va_W) (fun w => sg_win cI h sp [] 0 w) (fq_Bw D (va_A ([(h, .inr (4, [.ref hw, .int tt, .ref hr, .int (nI m)])), (hr, .inr (1, [.ref ha, .int (nI xs.length)])), (ha, .inl (cI, 8, .inl f)), (hw, .inl (cI, len, .inl g))]) sz)) (va_A ([(h, .inr (4, [.ref hw, .int tt, .ref hr, .int (nI m)])), (hr, .inr (1, [.ref ha, .int (nI xs.length)])), (ha, .inl (cI, 8, .inl f)), (hw, .inl (cI, len, .inl g))]) sz)) (0) (0) (va_A ([(h, .inr (4, [.ref hw, .int tt, .ref hr, .int (nI m)])), (hr, .inr (1, [.ref ha, .int (nI xs.length)])), (ha, .inl (cI, 8, .inl f)), (hw, .inl (cI, len, .inl g))]) sz) := by
  refine fq_open (by decide +kernel) (Nat.le_of_ble_eq_true rfl) ?_
  intro pg ev s mt below meth cd ls K hret hlk hin hK hZ hP hD hA hS hl
  generalize va_A ([(h, .inr (4, [.ref hw, .int tt, .ref hr, .int (nI m)])), (hr, .inr (1, [.ref ha, .int (nI xs.length)])), (ha, .inl (cI, 8, .inl f)), (hw, .inl (cI, len, .inl g))]) sz = A at hZ hD hA hS ⊢
  have K : fq_Ctx pg mt cd cb_Window_clear 1 s _ cn_Window := K
  have hl : lv_has ls 1 [(0, .ref h)] := hl
  refine lv_aload_n K.1 K.2.1 dc_Window_clear_0 rfl (lv_at hl 0 rfl) ?_
  refine fq_get K hK cl_Window hP 0 2 rfl (by decide) wd_396 rfl dc_Window_clear_1 ?_
  have hc := fq_cut.of (wc := [(hr, .inr (1, [.ref ha, .int (nI xs.length)])), (ha, .inl (cI, 8, .inl f))]) hP hD hS hA [1, 2] (by decide) rfl
  refine fq_cv (wr := [(h, .inr (4, [.ref hw, .int tt, .ref hr, .int (nI m)])), (hw, .inl (cI, len, .inl g))]) (fq_rV K hK hZ hS hc (ct_Recent_forget l D cI cO tE hr ha f xs _) yk_Recent_forget wd_527 wd_528 wd_536 0 rfl rfl rfl ⟨⟨rfl, rfl⟩, ⟨Nat.le_of_ble_eq_true rfl, Nat.le_of_ble_eq_true rfl⟩, ⟨Nat.le_of_ble_eq_true rfl, Nat.le_of_ble_eq_true rfl⟩⟩ hl.1 rfl (Nat.le_of_ble_eq_true rfl) dc_Window_clear_4) hP hD hS hc [1, 2] [0, 3] rfl rfl (by decide) (by decide) (fun  w H locs hw1 hP hD hS => ?_)
  subst hw1
  have hP : va_P D fq_cl ([(h, .inr (4, [.ref hw, .int tt, .ref hr, .int (nI m)])), (hw, .inl (cI, len, .inl g)), (hr, .inr (1, [.ref ha, .int 0])), (ha, .inl (cI, 8, .inl f))]) _ := hP
  have hD : va_D A ([(h, .inr (4, [.ref hw, .int tt, .ref hr, .int (nI m)])), (hw, .inl (cI, len, .inl g)), (hr, .inr (1, [.ref ha, .int 0])), (ha, .inl (cI, 8, .inl f))]) := hD
  refine lv_aload_n K.1 K.2.1 dc_Window_clear_7 rfl (lv_at hl 0 rfl) ?_
  refine lv_iconst (v := 0) K.1 K.2.1 dc_Window_clear_8 (by decide) ?_
  refine fq_put K hK cl_Window hP hD hS 0 3 rfl (by decide) wd_397 rfl rfl rfl (Nat.le_of_ble_eq_true rfl) dc_Window_clear_9 (fun H locs hP hD hS => ?_)
  have hP : va_P D fq_cl ([(h, .inr (4, [.ref hw, .int tt, .ref hr, .int 0])), (hw, .inl (cI, len, .inl g)), (hr, .inr (1, [.ref ha, .int 0])), (ha, .inl (cI, 8, .inl f))]) _ := hP
  have hD : va_D A ([(h, .inr (4, [.ref hw, .int tt, .ref hr, .int 0])), (hw, .inl (cI, len, .inl g)), (hr, .inr (1, [.ref ha, .int 0])), (ha, .inl (cI, 8, .inl f))]) := hD
  have hP := hP.sub (ws' := [(h, .inr (4, [.ref hw, .int tt, .ref hr, .int 0])), (hr, .inr (1, [.ref ha, .int 0])), (ha, .inl (cI, 8, .inl f)), (hw, .inl (cI, len, .inl g))]) [0, 2, 3, 1] rfl
  have hD := hD.sub (ws' := [(h, .inr (4, [.ref hw, .int tt, .ref hr, .int 0])), (hr, .inr (1, [.ref ha, .int 0])), (ha, .inl (cI, 8, .inl f)), (hw, .inl (cI, len, .inl g))]) [0, 2, 3, 1] (by decide) rfl
  exact fq_retv K hret hlk hS hP hD ⟨_, _, _, _, _, _, _, rfl, wn_nil hwn⟩ dc_Window_clear_12 (Nat.le_of_ble_eq_true rfl) (Nat.le_of_ble_eq_true rfl)
