theorem wd_31 : Cond.initialized cn_Row ∈ fq_TB := fq_in 31 (by decide +kernel) rfl
theorem wd_54 : Cond.instanceMethod my_Oj_init ∈ fq_TB := fq_in 54 (by decide +kernel) rfl
theorem wd_55 : Cond.code my_Oj_init cb_Oj_init 1 none ∈ fq_TB := fq_in 55 (by decide +kernel) rfl
theorem wd_91 : Cond.instanceMethod my_Row_init ∈ fq_TB := fq_in 91 (by decide +kernel) rfl
theorem wd_92 : Cond.code my_Row_init cb_Row_init 2 none ∈ fq_TB := fq_in 92 (by decide +kernel) rfl
theorem wd_93 : Cond.methodLink cn_Row 1 my_Oj_init ∈ fq_TB := fq_in 93 (by decide +kernel) rfl
theorem wd_94 : Cond.fieldLink cn_Row 7 cn_Row "cells" "[I" ∈ fq_TB := fq_in 94 (by decide +kernel) rfl
theorem wd_95 : Cond.fieldLink cn_Row 17 cn_Row "first" "I" ∈ fq_TB := fq_in 95 (by decide +kernel) rfl
theorem wd_96 : Cond.fieldLink cn_Row 13 cn_Row "count" "I" ∈ fq_TB := fq_in 96 (by decide +kernel) rfl
theorem wd_104 : Cond.arrayClass .int ∈ fq_TB := fq_in 104 (by decide +kernel) rfl
theorem wd_509 : Cond.instanceMethod my_Row_empty ∈ fq_TB := fq_in 509 (by decide +kernel) rfl
theorem wd_510 : Cond.selects cn_Row my_Row_empty my_Row_empty ∈ fq_TB := fq_in 510 (by decide +kernel) rfl
theorem wd_511 : Cond.code my_Row_empty cb_Row_empty 1 none ∈ fq_TB := fq_in 511 (by decide +kernel) rfl
theorem wd_554 : Cond.instanceMethod my_Row_add ∈ fq_TB := fq_in 554 (by decide +kernel) rfl
theorem wd_555 : Cond.selects cn_Row my_Row_add my_Row_add ∈ fq_TB := fq_in 555 (by decide +kernel) rfl
theorem wd_556 : Cond.code my_Row_add cb_Row_add 2 none ∈ fq_TB := fq_in 556 (by decide +kernel) rfl
theorem wd_557 : Cond.methodLink cn_Row 20 my_Row_hasRoom ∈ fq_TB := fq_in 557 (by decide +kernel) rfl
theorem wd_558 : Cond.instanceMethod my_Row_hasRoom ∈ fq_TB := fq_in 558 (by decide +kernel) rfl
theorem wd_559 : Cond.selects cn_Row my_Row_hasRoom my_Row_hasRoom ∈ fq_TB := fq_in 559 (by decide +kernel) rfl
theorem wd_560 : Cond.code my_Row_hasRoom cb_Row_hasRoom 1 (some .boolean) ∈ fq_TB := fq_in 560 (by decide +kernel) rfl
theorem wd_574 : Cond.instanceMethod my_Row_size ∈ fq_TB := fq_in 574 (by decide +kernel) rfl
theorem wd_575 : Cond.selects cn_Row my_Row_size my_Row_size ∈ fq_TB := fq_in 575 (by decide +kernel) rfl
theorem wd_576 : Cond.code my_Row_size cb_Row_size 1 (some .int) ∈ fq_TB := fq_in 576 (by decide +kernel) rfl
theorem wd_583 : Cond.instanceMethod my_Row_takeOldest ∈ fq_TB := fq_in 583 (by decide +kernel) rfl
theorem wd_584 : Cond.selects cn_Row my_Row_takeOldest my_Row_takeOldest ∈ fq_TB := fq_in 584 (by decide +kernel) rfl
theorem wd_585 : Cond.code my_Row_takeOldest cb_Row_takeOldest 2 (some .int) ∈ fq_TB := fq_in 585 (by decide +kernel) rfl
theorem wd_737 : Cond.instanceMethod my_Row_get ∈ fq_TB := fq_in 737 (by decide +kernel) rfl
theorem wd_738 : Cond.selects cn_Row my_Row_get my_Row_get ∈ fq_TB := fq_in 738 (by decide +kernel) rfl
theorem wd_739 : Cond.code my_Row_get cb_Row_get 2 (some .int) ∈ fq_TB := fq_in 739 (by decide +kernel) rfl
/-! A row of numbers in a ring of n places, from place i on. -/
theorem rw_md {a n : Nat} (h : a < 2 * n) : a % n = if a < n then a else a - n := by
  split
  · exact Nat.mod_eq_of_lt (by assumption)
  · rw [Nat.mod_eq_sub_mod (by omega)]
    exact Nat.mod_eq_of_lt (by omega)
def rw_ok (n : Nat) (f : Nat → Int32) (i : Nat) (L : List Int32) : Prop := 0 < n ∧ n ≤ 5000 ∧ i < n ∧ L.length ≤ n ∧ ∀ k, k < L.length → f ((i + k) % n) = L.getD k 0
theorem rw_nil {n : Nat} {f : Nat → Int32} (h0 : 0 < n) (h : n ≤ 5000) : rw_ok n f 0 [] := ⟨h0, h, h0, Nat.zero_le _, fun k hk => absurd hk (Nat.not_lt_zero k)⟩
theorem rw_add {n : Nat} {f : Nat → Int32} {i : Nat} {L : List Int32} {x : Int32} (h : rw_ok n f i L) (hr : L.length < n) : rw_ok n (upd f ((i + L.length) % n) x) i (L ++ [x]) := by
  obtain ⟨h0, h1, h2, h3, h4⟩ := h
  refine ⟨h0, h1, h2, by simp; omega, fun k hk => ?_⟩
  simp at hk
  by_cases e : k = L.length
  · subst e
    rw [pk_us]
    simp [List.getD_eq_getElem?_getD]
  · rw [pk_un, h4 k (by omega)]
    · simp only [List.getD_eq_getElem?_getD]
      rw [List.getElem?_append_left (by omega)]
    · rw [rw_md (by omega), rw_md (by omega)]
      split <;> split <;> omega
theorem rw_hd {n : Nat} {f : Nat → Int32} {i : Nat} {L : List Int32} {x : Int32} (h : rw_ok n f i (x :: L)) : f i = x ∧ rw_ok n f ((i + 1) % n) L := by
  obtain ⟨h0, h1, h2, h3, h4⟩ := h
  simp at h3
  refine ⟨?_, h0, h1, Nat.mod_lt _ h0, by omega, fun k hk => ?_⟩
  · have h := h4 0 (by simp)
    rw [Nat.add_zero, Nat.mod_eq_of_lt h2] at h
    exact h
  · have h := h4 (k + 1) (by simp; omega)
    rw [show ((i + 1) % n + k) % n = (i + (k + 1)) % n by rw [Nat.mod_add_mod]; congr 1; omega, h]
    rfl

def rw_put (n : Nat) (L : List Int32) (x : Int32) : List Int32 := if L.length < n then L ++ [x] else L
theorem rw_put_lt {n : Nat} {L : List Int32} {x : Int32} (h : L.length < n) : rw_put n L x = L ++ [x] := if_pos h
theorem rw_put_ge {n : Nat} {L : List Int32} {x : Int32} (h : ¬ L.length < n) : rw_put n L x = L := if_neg h
def rw_get (L : List Int32) (x : Int32) : Int32 := if x < 0 then 0 else L.getD x.toNatClampNeg 0
theorem rw_getN {L : List Int32} {k : Nat} (h : k < 2 ^ 31) : rw_get L (nI k) = L.getD k 0 := by rw [rw_get, if_neg (nI_pos h), nI_clamp h]
theorem rw_get0 {L : List Int32} {x : Int32} (hL : L.length < 2 ^ 31) (h : x < 0 ∨ ¬ x < nI L.length) : (0 : Int32) = rw_get L x := by
  unfold rw_get
  split
  · rfl
  · rename_i hx
    obtain ⟨k, hk, rfl⟩ := nI_of hx
    rcases h with h | h
    · exact absurd h hx
    · rw [nI_ltI hk hL] at h
      rw [nI_clamp hk, List.getD_eq_getElem?_getD, List.getElem?_eq_none (by omega)]
      rfl
theorem rw_tl {n : Nat} {f : Nat → Int32} {i : Nat} {L : List Int32} (h : rw_ok n f i L) (hL : 0 < L.length) : f i = L.headD 0 ∧ rw_ok n f ((i + 1) % n) L.tail ∧ nI L.length - 1 = nI L.tail.length := by
  cases L with
  | nil => exact absurd hL (Nat.lt_irrefl 0)
  | cons x L => exact ⟨(rw_hd h).1, (rw_hd h).2, nI_pred _⟩

theorem dc_Row_init_0 : decode cb_Row_init 0 = .ok (.aload_n 0, 1) := by decide +kernel
theorem dc_Row_init_1 : decode cb_Row_init 1 = .ok (.invokespecial 1, 3) := by decide +kernel
theorem dc_Row_init_4 : decode cb_Row_init 4 = .ok (.aload_n 0, 1) := by decide +kernel
theorem dc_Row_init_5 : decode cb_Row_init 5 = .ok (.iload_n 1, 1) := by decide +kernel
theorem dc_Row_init_6 : decode cb_Row_init 6 = .ok (.newarray .int, 2) := by decide +kernel
theorem dc_Row_init_8 : decode cb_Row_init 8 = .ok (.putfield 7, 3) := by decide +kernel
theorem dc_Row_init_11 : decode cb_Row_init 11 = .ok (.return_, 1) := by decide +kernel
theorem yk_Row_init : fq_Y my_Row_init cb_Row_init 2 none 1 := ⟨wd_92, wd_31, by decide +kernel⟩
theorem dc_Row_size_0 : decode cb_Row_size 0 = .ok (.aload_n 0, 1) := by decide +kernel
theorem dc_Row_size_1 : decode cb_Row_size 1 = .ok (.getfield 13, 3) := by decide +kernel
theorem dc_Row_size_4 : decode cb_Row_size 4 = .ok (.ireturn, 1) := by decide +kernel
theorem yk_Row_size : fq_Y my_Row_size cb_Row_size 1 (some .int) 0 := ⟨wd_576, wd_31, by decide +kernel⟩
theorem dc_Row_hasRoom_0 : decode cb_Row_hasRoom 0 = .ok (.aload_n 0, 1) := by decide +kernel
theorem dc_Row_hasRoom_1 : decode cb_Row_hasRoom 1 = .ok (.getfield 13, 3) := by decide +kernel
theorem dc_Row_hasRoom_4 : decode cb_Row_hasRoom 4 = .ok (.aload_n 0, 1) := by decide +kernel
theorem dc_Row_hasRoom_5 : decode cb_Row_hasRoom 5 = .ok (.getfield 7, 3) := by decide +kernel
theorem dc_Row_hasRoom_8 : decode cb_Row_hasRoom 8 = .ok (.arraylength, 1) := by decide +kernel
theorem dc_Row_hasRoom_9 : decode cb_Row_hasRoom 9 = .ok (.if_icmp .ge 7, 3) := by decide +kernel
theorem dc_Row_hasRoom_12 : decode cb_Row_hasRoom 12 = .ok (.iconst 1, 1) := by decide +kernel
theorem dc_Row_hasRoom_13 : decode cb_Row_hasRoom 13 = .ok (.goto 4, 3) := by decide +kernel
theorem dc_Row_hasRoom_16 : decode cb_Row_hasRoom 16 = .ok (.iconst 0, 1) := by decide +kernel
theorem dc_Row_hasRoom_17 : decode cb_Row_hasRoom 17 = .ok (.ireturn, 1) := by decide +kernel
theorem yk_Row_hasRoom : fq_Y my_Row_hasRoom cb_Row_hasRoom 1 (some .boolean) 0 := ⟨wd_560, wd_31, by decide +kernel⟩
theorem dc_Row_empty_0 : decode cb_Row_empty 0 = .ok (.aload_n 0, 1) := by decide +kernel
theorem dc_Row_empty_1 : decode cb_Row_empty 1 = .ok (.iconst 0, 1) := by decide +kernel
theorem dc_Row_empty_2 : decode cb_Row_empty 2 = .ok (.putfield 17, 3) := by decide +kernel
theorem dc_Row_empty_5 : decode cb_Row_empty 5 = .ok (.aload_n 0, 1) := by decide +kernel
theorem dc_Row_empty_6 : decode cb_Row_empty 6 = .ok (.iconst 0, 1) := by decide +kernel
theorem dc_Row_empty_7 : decode cb_Row_empty 7 = .ok (.putfield 13, 3) := by decide +kernel
theorem dc_Row_empty_10 : decode cb_Row_empty 10 = .ok (.return_, 1) := by decide +kernel
theorem yk_Row_empty : fq_Y my_Row_empty cb_Row_empty 1 none 0 := ⟨wd_511, wd_31, by decide +kernel⟩
theorem dc_Row_add_0 : decode cb_Row_add 0 = .ok (.aload_n 0, 1) := by decide +kernel
theorem dc_Row_add_1 : decode cb_Row_add 1 = .ok (.invokevirtual 20, 3) := by decide +kernel
theorem dc_Row_add_4 : decode cb_Row_add 4 = .ok (.ifCond .eq 34, 3) := by decide +kernel
theorem dc_Row_add_7 : decode cb_Row_add 7 = .ok (.aload_n 0, 1) := by decide +kernel
theorem dc_Row_add_8 : decode cb_Row_add 8 = .ok (.getfield 7, 3) := by decide +kernel
theorem dc_Row_add_11 : decode cb_Row_add 11 = .ok (.aload_n 0, 1) := by decide +kernel
theorem dc_Row_add_12 : decode cb_Row_add 12 = .ok (.getfield 17, 3) := by decide +kernel
theorem dc_Row_add_15 : decode cb_Row_add 15 = .ok (.aload_n 0, 1) := by decide +kernel
theorem dc_Row_add_16 : decode cb_Row_add 16 = .ok (.getfield 13, 3) := by decide +kernel
theorem dc_Row_add_19 : decode cb_Row_add 19 = .ok (.iadd, 1) := by decide +kernel
theorem dc_Row_add_20 : decode cb_Row_add 20 = .ok (.aload_n 0, 1) := by decide +kernel
theorem dc_Row_add_21 : decode cb_Row_add 21 = .ok (.getfield 7, 3) := by decide +kernel
theorem dc_Row_add_24 : decode cb_Row_add 24 = .ok (.arraylength, 1) := by decide +kernel
theorem dc_Row_add_25 : decode cb_Row_add 25 = .ok (.irem, 1) := by decide +kernel
theorem dc_Row_add_26 : decode cb_Row_add 26 = .ok (.iload_n 1, 1) := by decide +kernel
theorem dc_Row_add_27 : decode cb_Row_add 27 = .ok (.iastore, 1) := by decide +kernel
theorem dc_Row_add_28 : decode cb_Row_add 28 = .ok (.aload_n 0, 1) := by decide +kernel
theorem dc_Row_add_29 : decode cb_Row_add 29 = .ok (.dup, 1) := by decide +kernel
theorem dc_Row_add_30 : decode cb_Row_add 30 = .ok (.getfield 13, 3) := by decide +kernel
theorem dc_Row_add_33 : decode cb_Row_add 33 = .ok (.iconst 1, 1) := by decide +kernel
theorem dc_Row_add_34 : decode cb_Row_add 34 = .ok (.iadd, 1) := by decide +kernel
theorem dc_Row_add_35 : decode cb_Row_add 35 = .ok (.putfield 13, 3) := by decide +kernel
theorem dc_Row_add_38 : decode cb_Row_add 38 = .ok (.return_, 1) := by decide +kernel
theorem yk_Row_add : fq_Y my_Row_add cb_Row_add 2 none 1 := ⟨wd_556, wd_31, by decide +kernel⟩
theorem dc_Row_takeOldest_0 : decode cb_Row_takeOldest 0 = .ok (.aload_n 0, 1) := by decide +kernel
theorem dc_Row_takeOldest_1 : decode cb_Row_takeOldest 1 = .ok (.getfield 13, 3) := by decide +kernel
theorem dc_Row_takeOldest_4 : decode cb_Row_takeOldest 4 = .ok (.ifCond .ne 5, 3) := by decide +kernel
theorem dc_Row_takeOldest_7 : decode cb_Row_takeOldest 7 = .ok (.iconst 0, 1) := by decide +kernel
theorem dc_Row_takeOldest_8 : decode cb_Row_takeOldest 8 = .ok (.ireturn, 1) := by decide +kernel
theorem dc_Row_takeOldest_9 : decode cb_Row_takeOldest 9 = .ok (.aload_n 0, 1) := by decide +kernel
theorem dc_Row_takeOldest_10 : decode cb_Row_takeOldest 10 = .ok (.getfield 7, 3) := by decide +kernel
theorem dc_Row_takeOldest_13 : decode cb_Row_takeOldest 13 = .ok (.aload_n 0, 1) := by decide +kernel
theorem dc_Row_takeOldest_14 : decode cb_Row_takeOldest 14 = .ok (.getfield 17, 3) := by decide +kernel
theorem dc_Row_takeOldest_17 : decode cb_Row_takeOldest 17 = .ok (.iaload, 1) := by decide +kernel
theorem dc_Row_takeOldest_18 : decode cb_Row_takeOldest 18 = .ok (.istore_n 1, 1) := by decide +kernel
theorem dc_Row_takeOldest_19 : decode cb_Row_takeOldest 19 = .ok (.aload_n 0, 1) := by decide +kernel
theorem dc_Row_takeOldest_20 : decode cb_Row_takeOldest 20 = .ok (.aload_n 0, 1) := by decide +kernel
theorem dc_Row_takeOldest_21 : decode cb_Row_takeOldest 21 = .ok (.getfield 17, 3) := by decide +kernel
theorem dc_Row_takeOldest_24 : decode cb_Row_takeOldest 24 = .ok (.iconst 1, 1) := by decide +kernel
theorem dc_Row_takeOldest_25 : decode cb_Row_takeOldest 25 = .ok (.iadd, 1) := by decide +kernel
theorem dc_Row_takeOldest_26 : decode cb_Row_takeOldest 26 = .ok (.aload_n 0, 1) := by decide +kernel
theorem dc_Row_takeOldest_27 : decode cb_Row_takeOldest 27 = .ok (.getfield 7, 3) := by decide +kernel
theorem dc_Row_takeOldest_30 : decode cb_Row_takeOldest 30 = .ok (.arraylength, 1) := by decide +kernel
theorem dc_Row_takeOldest_31 : decode cb_Row_takeOldest 31 = .ok (.irem, 1) := by decide +kernel
theorem dc_Row_takeOldest_32 : decode cb_Row_takeOldest 32 = .ok (.putfield 17, 3) := by decide +kernel
theorem dc_Row_takeOldest_35 : decode cb_Row_takeOldest 35 = .ok (.aload_n 0, 1) := by decide +kernel
theorem dc_Row_takeOldest_36 : decode cb_Row_takeOldest 36 = .ok (.dup, 1) := by decide +kernel
theorem dc_Row_takeOldest_37 : decode cb_Row_takeOldest 37 = .ok (.getfield 13, 3) := by decide +kernel
theorem dc_Row_takeOldest_40 : decode cb_Row_takeOldest 40 = .ok (.iconst 1, 1) := by decide +kernel
theorem dc_Row_takeOldest_41 : decode cb_Row_takeOldest 41 = .ok (.isub, 1) := by decide +kernel
theorem dc_Row_takeOldest_42 : decode cb_Row_takeOldest 42 = .ok (.putfield 13, 3) := by decide +kernel
theorem dc_Row_takeOldest_45 : decode cb_Row_takeOldest 45 = .ok (.iload_n 1, 1) := by decide +kernel
theorem dc_Row_takeOldest_46 : decode cb_Row_takeOldest 46 = .ok (.ireturn, 1) := by decide +kernel
theorem yk_Row_takeOldest : fq_Y my_Row_takeOldest cb_Row_takeOldest 2 (some .int) 0 := ⟨wd_585, wd_31, by decide +kernel⟩
theorem dc_Row_get_0 : decode cb_Row_get 0 = .ok (.iload_n 1, 1) := by decide +kernel
theorem dc_Row_get_1 : decode cb_Row_get 1 = .ok (.ifCond .lt 11, 3) := by decide +kernel
theorem dc_Row_get_4 : decode cb_Row_get 4 = .ok (.iload_n 1, 1) := by decide +kernel
theorem dc_Row_get_5 : decode cb_Row_get 5 = .ok (.aload_n 0, 1) := by decide +kernel
theorem dc_Row_get_6 : decode cb_Row_get 6 = .ok (.getfield 13, 3) := by decide +kernel
theorem dc_Row_get_9 : decode cb_Row_get 9 = .ok (.if_icmp .lt 7, 3) := by decide +kernel
theorem dc_Row_get_12 : decode cb_Row_get 12 = .ok (.iconst 0, 1) := by decide +kernel
theorem dc_Row_get_13 : decode cb_Row_get 13 = .ok (.goto 20, 3) := by decide +kernel
theorem dc_Row_get_16 : decode cb_Row_get 16 = .ok (.aload_n 0, 1) := by decide +kernel
theorem dc_Row_get_17 : decode cb_Row_get 17 = .ok (.getfield 7, 3) := by decide +kernel
theorem dc_Row_get_20 : decode cb_Row_get 20 = .ok (.aload_n 0, 1) := by decide +kernel
theorem dc_Row_get_21 : decode cb_Row_get 21 = .ok (.getfield 17, 3) := by decide +kernel
theorem dc_Row_get_24 : decode cb_Row_get 24 = .ok (.iload_n 1, 1) := by decide +kernel
theorem dc_Row_get_25 : decode cb_Row_get 25 = .ok (.iadd, 1) := by decide +kernel
theorem dc_Row_get_26 : decode cb_Row_get 26 = .ok (.aload_n 0, 1) := by decide +kernel
theorem dc_Row_get_27 : decode cb_Row_get 27 = .ok (.getfield 7, 3) := by decide +kernel
theorem dc_Row_get_30 : decode cb_Row_get 30 = .ok (.arraylength, 1) := by decide +kernel
theorem dc_Row_get_31 : decode cb_Row_get 31 = .ok (.irem, 1) := by decide +kernel
theorem dc_Row_get_32 : decode cb_Row_get 32 = .ok (.iaload, 1) := by decide +kernel
theorem dc_Row_get_33 : decode cb_Row_get 33 = .ok (.ireturn, 1) := by decide +kernel
theorem yk_Row_get : fq_Y my_Row_get cb_Row_get 2 (some .int) 1 := ⟨wd_739, wd_31, by decide +kernel⟩
set_option maxHeartbeats 4000000 in
set_option maxRecDepth 100000 in
theorem ct_Row_init (l : Launch) (D : va_G) (cI cO : ClassId) (tE : Nat) (h n : Nat) (hn : n ≤ 5000) (sz : Nat) : Met l my_Row_init (fq_w my_Row_init cb_Row_init 2 none) ({ frames := 1, cells := 1, slots := n, locals := 12 }) (va_Pc ([.ref h, .int (nI n)]) (fq_Pre D cI cO tE sz ([(h, .inr (0, [.null, .int 0, .int 0]))]))) (va_Qv (S := va_W) (fun w => ∃ q : Nat, w = [(h, .inr (0, [.ref q, .int 0, .int 0])), (q, .inl (cI, n, .inl (fun _ => 0)))]) (fq_Bw D (va_A ([(h, .inr (0, [.null, .int 0, .int 0]))]) sz)) (va_A ([(h, .inr (0, [.null, .int 0, .int 0]))]) sz)) (1) (n) (va_A ([(h, .inr (0, [.null, .int 0, .int 0]))]) sz) := by
  refine fq_open (by decide +kernel) (Nat.le_of_ble_eq_true rfl) ?_
  intro pg ev s mt below meth cd ls K hret hlk hin hK hZ hP hD hA hS hl
  generalize va_A ([(h, .inr (0, [.null, .int 0, .int 0]))]) sz = A at hZ hD hA hS ⊢
  have K : fq_Ctx pg mt cd cb_Row_init 2 s _ cn_Row := K
  have hin : meth.name = "<init>" := hin
  have hl : lv_has ls 2 [(0, .ref h), (1, .int (nI n))] := hl
  refine lv_aload_n K.1 K.2.1 dc_Row_init_0 rfl (lv_at hl 0 rfl) ?_
  refine W.objInit K.1 K.2.1 K.2.2.2.1 (K.2.2.2.2 _ wd_93) (K.2.2.2.2 _ wd_54) (K.2.2.2.2 _ wd_55) rfl (by rw [K.2.2.1]; exact hl.1) rfl dc_Row_init_1 (Nat.le_of_ble_eq_true rfl) (Nat.le_of_ble_eq_true rfl) ?_
  refine W.eq (g2 := F0 mt 4 ls []) rfl ?_
  refine lv_aload_n K.1 K.2.1 dc_Row_init_4 rfl (lv_at hl 0 rfl) ?_
  refine lv_iload_n K.1 K.2.1 dc_Row_init_5 rfl (lv_at hl 1 rfl) ?_
  refine fq_newI K hK wd_104 hP hD hS hA n rfl (by omega) (Nat.le_of_ble_eq_true rfl) (by show 0 + n ≤ n; omega) dc_Row_init_6 (fun q1 H hP hD hS => ?_)
  have hP : va_P D fq_cl ([(h, .inr (0, [.null, .int 0, .int 0])), (q1, .inl (cI, n, .inl (fun _ => 0)))]) _ := hP
  have hD : va_D A ([(h, .inr (0, [.null, .int 0, .int 0])), (q1, .inl (cI, n, .inl (fun _ => 0)))]) := hD
  refine fq_putF K hK cl_Row hP hD hS hin 0 0 rfl (by decide) wd_94 rfl rfl rfl rfl (Nat.le_of_ble_eq_true rfl) dc_Row_init_8 (fun H locs hP hD hS => ?_)
  have hP : va_P D fq_cl ([(h, .inr (0, [.ref q1, .int 0, .int 0])), (q1, .inl (cI, n, .inl (fun _ => 0)))]) _ := hP
  have hD : va_D A ([(h, .inr (0, [.ref q1, .int 0, .int 0])), (q1, .inl (cI, n, .inl (fun _ => 0)))]) := hD
  exact fq_retv K hret hlk hS hP hD ⟨_, rfl⟩ dc_Row_init_11 (Nat.le_of_ble_eq_true rfl) (by omega)
set_option maxHeartbeats 4000000 in
set_option maxRecDepth 100000 in
theorem ct_Row_size (l : Launch) (D : va_G) (cI cO : ClassId) (tE : Nat) (h a n : Nat) (f : Nat → Int32) (i : Nat) (L : List Int32) (hrow : rw_ok n f i L) (sz : Nat) : Met l my_Row_size (fq_w my_Row_size cb_Row_size 1 (some .int)) ({ frames := 0, cells := 0, slots := 0, locals := 0 }) (va_Pc ([.ref h]) (fq_Pre D cI cO tE sz ([(h, .inr (0, [.ref a, .int (nI i), .int (nI L.length)])), (a, .inl (cI, n, .inl f))]))) (va_Qi (S := va_W) (fun r w => w = [(h, .inr (0, [.ref a, .int (nI i), .int (nI L.length)])), (a, .inl (cI, n, .inl f))] ∧ r = nI L.length) (fq_Bw D (va_A ([(h, .inr (0, [.ref a, .int (nI i), .int (nI L.length)])), (a, .inl (cI, n, .inl f))]) sz)) (va_A ([(h, .inr (0, [.ref a, .int (nI i), .int (nI L.length)])), (a, .inl (cI, n, .inl f))]) sz)) (0) (0) (va_A ([(h, .inr (0, [.ref a, .int (nI i), .int (nI L.length)])), (a, .inl (cI, n, .inl f))]) sz) := by
  refine fq_open (by decide +kernel) (Nat.le_of_ble_eq_true rfl) ?_
  intro pg ev s mt below meth cd ls K hret hlk hin hK hZ hP hD hA hS hl
  generalize va_A ([(h, .inr (0, [.ref a, .int (nI i), .int (nI L.length)])), (a, .inl (cI, n, .inl f))]) sz = A at hZ hD hA hS ⊢
  have K : fq_Ctx pg mt cd cb_Row_size 1 s _ cn_Row := K
  have hl : lv_has ls 1 [(0, .ref h)] := hl
  refine lv_aload_n K.1 K.2.1 dc_Row_size_0 rfl (lv_at hl 0 rfl) ?_
  refine fq_get K hK cl_Row hP 0 2 rfl (by decide) wd_96 rfl dc_Row_size_1 ?_
  exact fq_reti K hret hlk hS hP hD ⟨rfl, rfl⟩ dc_Row_size_4 (Nat.le_of_ble_eq_true rfl) (Nat.le_of_ble_eq_true rfl)
set_option maxHeartbeats 4000000 in
set_option maxRecDepth 100000 in
theorem ct_Row_hasRoom (l : Launch) (D : va_G) (cI cO : ClassId) (tE : Nat) (h a n : Nat) (f : Nat → Int32) (i : Nat) (L : List Int32) (hrow : rw_ok n f i L) (sz : Nat) : Met l my_Row_hasRoom (fq_w my_Row_hasRoom cb_Row_hasRoom 1 (some .boolean)) ({ frames := 0, cells := 0, slots := 0, locals := 0 }) (va_Pc ([.ref h]) (fq_Pre D cI cO tE sz ([(h, .inr (0, [.ref a, .int (nI i), .int (nI L.length)])), (a, .inl (cI, n, .inl f))]))) (va_Qi (S := va_W) (fun r w => w = [(h, .inr (0, [.ref a, .int (nI i), .int (nI L.length)])), (a, .inl (cI, n, .inl f))] ∧ r = if L.length < n then 1 else 0) (fq_Bw D (va_A ([(h, .inr (0, [.ref a, .int (nI i), .int (nI L.length)])), (a, .inl (cI, n, .inl f))]) sz)) (va_A ([(h, .inr (0, [.ref a, .int (nI i), .int (nI L.length)])), (a, .inl (cI, n, .inl f))]) sz)) (0) (0) (va_A ([(h, .inr (0, [.ref a, .int (nI i), .int (nI L.length)])), (a, .inl (cI, n, .inl f))]) sz) := by
  refine fq_open (by decide +kernel) (Nat.le_of_ble_eq_true rfl) ?_
  intro pg ev s mt below meth cd ls K hret hlk hin hK hZ hP hD hA hS hl
  generalize va_A ([(h, .inr (0, [.ref a, .int (nI i), .int (nI L.length)])), (a, .inl (cI, n, .inl f))]) sz = A at hZ hD hA hS ⊢
  have K : fq_Ctx pg mt cd cb_Row_hasRoom 1 s _ cn_Row := K
  have hl : lv_has ls 1 [(0, .ref h)] := hl
  obtain ⟨h0, h1, h2, h3, h4⟩ := id hrow
  refine lv_aload_n K.1 K.2.1 dc_Row_hasRoom_0 rfl (lv_at hl 0 rfl) ?_
  refine fq_get K hK cl_Row hP 0 2 rfl (by decide) wd_96 rfl dc_Row_hasRoom_1 ?_
  refine lv_aload_n K.1 K.2.1 dc_Row_hasRoom_4 rfl (lv_at hl 0 rfl) ?_
  refine fq_get K hK cl_Row hP 0 0 rfl (by decide) wd_94 rfl dc_Row_hasRoom_5 ?_
  refine fq_len K hK hP 1 rfl dc_Row_hasRoom_8 ?_
  refine lv_icmp_ge (tgt := 16) K.1 K.2.1 dc_Row_hasRoom_9 rfl (fun b9 => ?_) (fun b9 => ?_)
  · skip
    refine lv_iconst (v := 0) K.1 K.2.1 dc_Row_hasRoom_16 (by decide) ?_
    exact fq_retz K hret hlk hS hP hD (by first | exact Or.inl rfl | exact Or.inr rfl) ⟨rfl, by rw [nI_leI (by omega) (by omega)] at b9; first | rw [if_pos (by omega)] | rw [if_neg (by omega)]⟩ dc_Row_hasRoom_17 (Nat.le_of_ble_eq_true rfl) (Nat.le_of_ble_eq_true rfl)
  · skip
    refine lv_iconst (v := 1) K.1 K.2.1 dc_Row_hasRoom_12 (by decide) ?_
    refine lv_goto (tgt := 17) K.1 K.2.1 dc_Row_hasRoom_13 rfl ?_
    exact fq_retz K hret hlk hS hP hD (by first | exact Or.inl rfl | exact Or.inr rfl) ⟨rfl, by rw [nI_leI (by omega) (by omega)] at b9; first | rw [if_pos (by omega)] | rw [if_neg (by omega)]⟩ dc_Row_hasRoom_17 (Nat.le_of_ble_eq_true rfl) (Nat.le_of_ble_eq_true rfl)
set_option maxHeartbeats 4000000 in
set_option maxRecDepth 100000 in
theorem ct_Row_empty (l : Launch) (D : va_G) (cI cO : ClassId) (tE : Nat) (h a n : Nat) (f : Nat → Int32) (i : Nat) (L : List Int32)  (sz : Nat) : Met l my_Row_empty (fq_w my_Row_empty cb_Row_empty 1 none) ({ frames := 0, cells := 0, slots := 0, locals := 0 }) (va_Pc ([.ref h]) (fq_Pre D cI cO tE sz ([(h, .inr (0, [.ref a, .int (nI i), .int (nI L.length)])), (a, .inl (cI, n, .inl f))]))) (va_Qv (S := va_W) (fun w => w = [(h, .inr (0, [.ref a, .int 0, .int 0])), (a, .inl (cI, n, .inl f))]) (fq_Bw D (va_A ([(h, .inr (0, [.ref a, .int (nI i), .int (nI L.length)])), (a, .inl (cI, n, .inl f))]) sz)) (va_A ([(h, .inr (0, [.ref a, .int (nI i), .int (nI L.length)])), (a, .inl (cI, n, .inl f))]) sz)) (0) (0) (va_A ([(h, .inr (0, [.ref a, .int (nI i), .int (nI L.length)])), (a, .inl (cI, n, .inl f))]) sz) := by
  refine fq_open (by decide +kernel) (Nat.le_of_ble_eq_true rfl) ?_
  intro pg ev s mt below meth cd ls K hret hlk hin hK hZ hP hD hA hS hl
  generalize va_A ([(h, .inr (0, [.ref a, .int (nI i), .int (nI L.length)])), (a, .inl (cI, n, .inl f))]) sz = A at hZ hD hA hS ⊢
  have K : fq_Ctx pg mt cd cb_Row_empty 1 s _ cn_Row := K
  have hl : lv_has ls 1 [(0, .ref h)] := hl
  refine lv_aload_n K.1 K.2.1 dc_Row_empty_0 rfl (lv_at hl 0 rfl) ?_
  refine lv_iconst (v := 0) K.1 K.2.1 dc_Row_empty_1 (by decide) ?_
  refine fq_put K hK cl_Row hP hD hS 0 1 rfl (by decide) wd_95 rfl rfl rfl (Nat.le_of_ble_eq_true rfl) dc_Row_empty_2 (fun H locs hP hD hS => ?_)
  have hP : va_P D fq_cl ([(h, .inr (0, [.ref a, .int 0, .int (nI L.length)])), (a, .inl (cI, n, .inl f))]) _ := hP
  have hD : va_D A ([(h, .inr (0, [.ref a, .int 0, .int (nI L.length)])), (a, .inl (cI, n, .inl f))]) := hD
  refine lv_aload_n K.1 K.2.1 dc_Row_empty_5 rfl (lv_at hl 0 rfl) ?_
  refine lv_iconst (v := 0) K.1 K.2.1 dc_Row_empty_6 (by decide) ?_
  refine fq_put K hK cl_Row hP hD hS 0 2 rfl (by decide) wd_96 rfl rfl rfl (Nat.le_of_ble_eq_true rfl) dc_Row_empty_7 (fun H locs hP hD hS => ?_)
  have hP : va_P D fq_cl ([(h, .inr (0, [.ref a, .int 0, .int 0])), (a, .inl (cI, n, .inl f))]) _ := hP
  have hD : va_D A ([(h, .inr (0, [.ref a, .int 0, .int 0])), (a, .inl (cI, n, .inl f))]) := hD
  exact fq_retv K hret hlk hS hP hD rfl dc_Row_empty_10 (Nat.le_of_ble_eq_true rfl) (Nat.le_of_ble_eq_true rfl)
set_option maxHeartbeats 4000000 in
set_option maxRecDepth 100000 in
theorem ct_Row_add (l : Launch) (D : va_G) (cI cO : ClassId) (tE : Nat) (h a n : Nat) (f : Nat → Int32) (i : Nat) (L : List Int32) (x : Int32) (hrow : rw_ok n f i L) (sz : Nat) : Met l my_Row_add (fq_w my_Row_add cb_Row_add 2 none) ({ frames := 1, cells := 0, slots := 0, locals := 20 }) (va_Pc ([.ref h, .int x]) (fq_Pre D cI cO tE sz ([(h, .inr (0, [.ref a, .int (nI i), .int (nI L.length)])), (a, .inl (cI, n, .inl f))]))) (va_Qv (S := va_W) (fun w => ∃ g : Nat → Int32, w = [(h, .inr (0, [.ref a, .int (nI i), .int (nI (rw_put n L x).length)])), (a, .inl (cI, n, .inl g))] ∧ rw_ok n g i (rw_put n L x)) (fq_Bw D (va_A ([(h, .inr (0, [.ref a, .int (nI i), .int (nI L.length)])), (a, .inl (cI, n, .inl f))]) sz)) (va_A ([(h, .inr (0, [.ref a, .int (nI i), .int (nI L.length)])), (a, .inl (cI, n, .inl f))]) sz)) (0) (0) (va_A ([(h, .inr (0, [.ref a, .int (nI i), .int (nI L.length)])), (a, .inl (cI, n, .inl f))]) sz) := by
  refine fq_open (by decide +kernel) (Nat.le_of_ble_eq_true rfl) ?_
  intro pg ev s mt below meth cd ls K hret hlk hin hK hZ hP hD hA hS hl
  generalize va_A ([(h, .inr (0, [.ref a, .int (nI i), .int (nI L.length)])), (a, .inl (cI, n, .inl f))]) sz = A at hZ hD hA hS ⊢
  have K : fq_Ctx pg mt cd cb_Row_add 2 s _ cn_Row := K
  have hl : lv_has ls 2 [(0, .ref h), (1, .int x)] := hl
  obtain ⟨h0, h1, h2, h3, h4⟩ := id hrow
  refine lv_aload_n K.1 K.2.1 dc_Row_add_0 rfl (lv_at hl 0 rfl) ?_
  have hc := fq_cut.of (wc := [(h, .inr (0, [.ref a, .int (nI i), .int (nI L.length)])), (a, .inl (cI, n, .inl f))]) hP hD hS hA [0, 1] (by decide) rfl
  refine fq_ci (wr := []) (fq_rV K hK hZ hS hc (ct_Row_hasRoom l D cI cO tE h a n f i L (by first | assumption | omega) _) yk_Row_hasRoom wd_558 wd_559 wd_557 0 rfl rfl rfl ⟨⟨rfl, rfl⟩, ⟨Nat.le_of_ble_eq_true rfl, Nat.le_of_ble_eq_true rfl⟩, ⟨Nat.le_of_ble_eq_true rfl, Nat.le_of_ble_eq_true rfl⟩⟩ hl.1 rfl (Nat.le_of_ble_eq_true rfl) dc_Row_add_1) hP hD hS hc [0, 1] [] rfl rfl (by decide) (by decide) (fun r1 w H locs hw1 hP hD hS => ?_)
  obtain ⟨rfl, rfl⟩ := hw1
  have hP : va_P D fq_cl ([(h, .inr (0, [.ref a, .int (nI i), .int (nI L.length)])), (a, .inl (cI, n, .inl f))]) _ := hP
  have hD : va_D A ([(h, .inr (0, [.ref a, .int (nI i), .int (nI L.length)])), (a, .inl (cI, n, .inl f))]) := hD
  refine lv_if_eq (tgt := 38) K.1 K.2.1 dc_Row_add_4 rfl (fun b4 => ?_) (fun b4 => ?_)
  · skip
    have hlt : ¬ L.length < n := fun z => by rw [if_pos z] at b4; exact absurd b4 (by decide)
    exact fq_retv K hret hlk hS hP hD ⟨f, by rw [rw_put_ge hlt], by rw [rw_put_ge hlt]; exact hrow⟩ dc_Row_add_38 (Nat.le_of_ble_eq_true rfl) (Nat.le_of_ble_eq_true rfl)
  · skip
    have hlt : L.length < n := Decidable.not_not.mp (fun z => b4 (if_neg z))
    refine lv_aload_n K.1 K.2.1 dc_Row_add_7 rfl (lv_at hl 0 rfl) ?_
    refine fq_get K hK cl_Row hP 0 0 rfl (by decide) wd_94 rfl dc_Row_add_8 ?_
    refine lv_aload_n K.1 K.2.1 dc_Row_add_11 rfl (lv_at hl 0 rfl) ?_
    refine fq_get K hK cl_Row hP 0 1 rfl (by decide) wd_95 rfl dc_Row_add_12 ?_
    refine lv_aload_n K.1 K.2.1 dc_Row_add_15 rfl (lv_at hl 0 rfl) ?_
    refine fq_get K hK cl_Row hP 0 2 rfl (by decide) wd_96 rfl dc_Row_add_16 ?_
    refine lv_iadd K.1 K.2.1 dc_Row_add_19 ?_
    refine lv_aload_n K.1 K.2.1 dc_Row_add_20 rfl (lv_at hl 0 rfl) ?_
    refine fq_get K hK cl_Row hP 0 0 rfl (by decide) wd_94 rfl dc_Row_add_21 ?_
    refine fq_len K hK hP 1 rfl dc_Row_add_24 ?_
    refine lv_irem K.1 K.2.1 dc_Row_add_25 (nI_ne0 (by omega) (by omega)) ?_
    refine fq_asi (y := nI ((i + L.length) % n)) (by rw [nI_add]; exact pk_rem (by omega) (by omega) (by omega)) ?_
    refine lv_iload_n K.1 K.2.1 dc_Row_add_26 rfl (lv_at hl 1 rfl) ?_
    refine fq_ast K hK hP hD hS 1 rfl (vp_in_nI (Nat.mod_lt _ h0) (by omega)) dc_Row_add_27 (fun H locs hP hD hS => ?_)
    rw [nI_clamp (by have := Nat.mod_lt (i + L.length) h0; omega)] at hP hD
    have hP : va_P D fq_cl ([(h, .inr (0, [.ref a, .int (nI i), .int (nI L.length)])), (a, .inl (cI, n, .inl (upd f ((i + L.length) % n) x)))]) _ := hP
    have hD : va_D A ([(h, .inr (0, [.ref a, .int (nI i), .int (nI L.length)])), (a, .inl (cI, n, .inl (upd f ((i + L.length) % n) x)))]) := hD
    refine lv_aload_n K.1 K.2.1 dc_Row_add_28 rfl (lv_at hl 0 rfl) ?_
    refine lv_dup K.1 K.2.1 dc_Row_add_29 rfl ?_
    refine fq_get K hK cl_Row hP 0 2 rfl (by decide) wd_96 rfl dc_Row_add_30 ?_
    refine lv_iconst (v := 1) K.1 K.2.1 dc_Row_add_33 (by decide) ?_
    refine lv_iadd K.1 K.2.1 dc_Row_add_34 ?_
    refine fq_asi (y := nI (rw_put n L x).length) (by rw [rw_put_lt hlt, nI_1, List.length_append]; rfl) ?_
    refine fq_put K hK cl_Row hP hD hS 0 2 rfl (by decide) wd_96 rfl rfl rfl (Nat.le_of_ble_eq_true rfl) dc_Row_add_35 (fun H locs hP hD hS => ?_)
    have hP : va_P D fq_cl ([(h, .inr (0, [.ref a, .int (nI i), .int (nI (rw_put n L x).length)])), (a, .inl (cI, n, .inl (upd f ((i + L.length) % n) x)))]) _ := hP
    have hD : va_D A ([(h, .inr (0, [.ref a, .int (nI i), .int (nI (rw_put n L x).length)])), (a, .inl (cI, n, .inl (upd f ((i + L.length) % n) x)))]) := hD
    exact fq_retv K hret hlk hS hP hD ⟨_, rfl, by rw [rw_put_lt hlt]; exact rw_add hrow hlt⟩ dc_Row_add_38 (Nat.le_of_ble_eq_true rfl) (Nat.le_of_ble_eq_true rfl)
set_option maxHeartbeats 4000000 in
set_option maxRecDepth 100000 in
theorem ct_Row_takeOldest (l : Launch) (D : va_G) (cI cO : ClassId) (tE : Nat) (h a n : Nat) (f : Nat → Int32) (i : Nat) (L : List Int32) (hrow : rw_ok n f i L) (sz : Nat) : Met l my_Row_takeOldest (fq_w my_Row_takeOldest cb_Row_takeOldest 2 (some .int)) ({ frames := 0, cells := 0, slots := 0, locals := 0 }) (va_Pc ([.ref h]) (fq_Pre D cI cO tE sz ([(h, .inr (0, [.ref a, .int (nI i), .int (nI L.length)])), (a, .inl (cI, n, .inl f))]))) (va_Qi (S := va_W) (fun r w => ∃ j : Nat, w = [(h, .inr (0, [.ref a, .int (nI j), .int (nI L.tail.length)])), (a, .inl (cI, n, .inl f))] ∧ r = L.headD 0 ∧ rw_ok n f j L.tail) (fq_Bw D (va_A ([(h, .inr (0, [.ref a, .int (nI i), .int (nI L.length)])), (a, .inl (cI, n, .inl f))]) sz)) (va_A ([(h, .inr (0, [.ref a, .int (nI i), .int (nI L.length)])), (a, .inl (cI, n, .inl f))]) sz)) (0) (0) (va_A ([(h, .inr (0, [.ref a, .int (nI i), .int (nI L.length)])), (a, .inl (cI, n, .inl f))]) sz) := by
  refine fq_open (by decide +kernel) (Nat.le_of_ble_eq_true rfl) ?_
  intro pg ev s mt below meth cd ls K hret hlk hin hK hZ hP hD hA hS hl
  generalize va_A ([(h, .inr (0, [.ref a, .int (nI i), .int (nI L.length)])), (a, .inl (cI, n, .inl f))]) sz = A at hZ hD hA hS ⊢
  have K : fq_Ctx pg mt cd cb_Row_takeOldest 2 s _ cn_Row := K
  have hl : lv_has ls 2 [(0, .ref h)] := hl
  obtain ⟨h0, h1, h2, h3, h4⟩ := id hrow
  refine lv_aload_n K.1 K.2.1 dc_Row_takeOldest_0 rfl (lv_at hl 0 rfl) ?_
  refine fq_get K hK cl_Row hP 0 2 rfl (by decide) wd_96 rfl dc_Row_takeOldest_1 ?_
  refine lv_if_ne (tgt := 9) K.1 K.2.1 dc_Row_takeOldest_4 rfl (fun b4 => ?_) (fun b4 => ?_)
  · skip
    have hL : 0 < L.length := Nat.pos_of_ne_zero (fun z => b4 (by rw [z, nI_0]))
    obtain ⟨k1, k2, k3⟩ := rw_tl hrow hL
    refine lv_aload_n K.1 K.2.1 dc_Row_takeOldest_9 rfl (lv_at hl 0 rfl) ?_
    refine fq_get K hK cl_Row hP 0 0 rfl (by decide) wd_94 rfl dc_Row_takeOldest_10 ?_
    refine lv_aload_n K.1 K.2.1 dc_Row_takeOldest_13 rfl (lv_at hl 0 rfl) ?_
    refine fq_get K hK cl_Row hP 0 1 rfl (by decide) wd_95 rfl dc_Row_takeOldest_14 ?_
    refine fq_ald K hK hP 1 rfl (vp_in_nI h2 (by omega)) dc_Row_takeOldest_17 ?_
    refine fq_asi (y := f i) (by rw [nI_clamp (by omega)]) ?_
    refine lv_topi (fun v1 e_v1 => ?_)
    refine lv_istore_n K.1 K.2.1 dc_Row_takeOldest_18 rfl hl (by decide) rfl (fun ls hl => ?_)
    have hl : lv_has ls 2 [(1, .int v1), (0, .ref h)] := hl
    refine lv_aload_n K.1 K.2.1 dc_Row_takeOldest_19 rfl (lv_at hl 1 rfl) ?_
    refine lv_aload_n K.1 K.2.1 dc_Row_takeOldest_20 rfl (lv_at hl 1 rfl) ?_
    refine fq_get K hK cl_Row hP 0 1 rfl (by decide) wd_95 rfl dc_Row_takeOldest_21 ?_
    refine lv_iconst (v := 1) K.1 K.2.1 dc_Row_takeOldest_24 (by decide) ?_
    refine lv_iadd K.1 K.2.1 dc_Row_takeOldest_25 ?_
    refine lv_aload_n K.1 K.2.1 dc_Row_takeOldest_26 rfl (lv_at hl 1 rfl) ?_
    refine fq_get K hK cl_Row hP 0 0 rfl (by decide) wd_94 rfl dc_Row_takeOldest_27 ?_
    refine fq_len K hK hP 1 rfl dc_Row_takeOldest_30 ?_
    refine lv_irem K.1 K.2.1 dc_Row_takeOldest_31 (nI_ne0 (by omega) (by omega)) ?_
    refine fq_asi (y := nI ((i + 1) % n)) (by rw [nI_1]; exact pk_rem (by omega) (by omega) (by omega)) ?_
    refine fq_put K hK cl_Row hP hD hS 0 1 rfl (by decide) wd_95 rfl rfl rfl (Nat.le_of_ble_eq_true rfl) dc_Row_takeOldest_32 (fun H locs hP hD hS => ?_)
    have hP : va_P D fq_cl ([(h, .inr (0, [.ref a, .int (nI ((i + 1) % n)), .int (nI L.length)])), (a, .inl (cI, n, .inl f))]) _ := hP
    have hD : va_D A ([(h, .inr (0, [.ref a, .int (nI ((i + 1) % n)), .int (nI L.length)])), (a, .inl (cI, n, .inl f))]) := hD
    refine lv_aload_n K.1 K.2.1 dc_Row_takeOldest_35 rfl (lv_at hl 1 rfl) ?_
    refine lv_dup K.1 K.2.1 dc_Row_takeOldest_36 rfl ?_
    refine fq_get K hK cl_Row hP 0 2 rfl (by decide) wd_96 rfl dc_Row_takeOldest_37 ?_
    refine lv_iconst (v := 1) K.1 K.2.1 dc_Row_takeOldest_40 (by decide) ?_
    refine lv_isub K.1 K.2.1 dc_Row_takeOldest_41 ?_
    refine fq_asi (y := nI L.tail.length) (k3) ?_
    refine fq_put K hK cl_Row hP hD hS 0 2 rfl (by decide) wd_96 rfl rfl rfl (Nat.le_of_ble_eq_true rfl) dc_Row_takeOldest_42 (fun H locs hP hD hS => ?_)
    have hP : va_P D fq_cl ([(h, .inr (0, [.ref a, .int (nI ((i + 1) % n)), .int (nI L.tail.length)])), (a, .inl (cI, n, .inl f))]) _ := hP
    have hD : va_D A ([(h, .inr (0, [.ref a, .int (nI ((i + 1) % n)), .int (nI L.tail.length)])), (a, .inl (cI, n, .inl f))]) := hD
    refine lv_iload_n K.1 K.2.1 dc_Row_takeOldest_45 rfl (lv_at hl 0 rfl) ?_
    exact fq_reti K hret hlk hS hP hD ⟨_, rfl, e_v1.trans k1, k2⟩ dc_Row_takeOldest_46 (Nat.le_of_ble_eq_true rfl) (Nat.le_of_ble_eq_true rfl)
  · skip
    have hL : L = [] := List.eq_nil_of_length_eq_zero ((nI_eq (by omega) (by omega)).mp (b4.trans nI_0.symm))
    refine lv_iconst (v := 0) K.1 K.2.1 dc_Row_takeOldest_7 (by decide) ?_
    exact fq_reti K hret hlk hS hP hD ⟨i, by rw [hL]; rfl, by rw [hL]; rfl, by rw [hL] at hrow ⊢; exact hrow⟩ dc_Row_takeOldest_8 (Nat.le_of_ble_eq_true rfl) (Nat.le_of_ble_eq_true rfl)
set_option maxHeartbeats 4000000 in
set_option maxRecDepth 100000 in
theorem ct_Row_get (l : Launch) (D : va_G) (cI cO : ClassId) (tE : Nat) (h a n : Nat) (f : Nat → Int32) (i : Nat) (L : List Int32) (x : Int32) (hrow : rw_ok n f i L) (sz : Nat) : Met l my_Row_get (fq_w my_Row_get cb_Row_get 2 (some .int)) ({ frames := 0, cells := 0, slots := 0, locals := 0 }) (va_Pc ([.ref h, .int x]) (fq_Pre D cI cO tE sz ([(h, .inr (0, [.ref a, .int (nI i), .int (nI L.length)])), (a, .inl (cI, n, .inl f))]))) (va_Qi (S := va_W) (fun r w => w = [(h, .inr (0, [.ref a, .int (nI i), .int (nI L.length)])), (a, .inl (cI, n, .inl f))] ∧ r = rw_get L x) (fq_Bw D (va_A ([(h, .inr (0, [.ref a, .int (nI i), .int (nI L.length)])), (a, .inl (cI, n, .inl f))]) sz)) (va_A ([(h, .inr (0, [.ref a, .int (nI i), .int (nI L.length)])), (a, .inl (cI, n, .inl f))]) sz)) (0) (0) (va_A ([(h, .inr (0, [.ref a, .int (nI i), .int (nI L.length)])), (a, .inl (cI, n, .inl f))]) sz) := by
  refine fq_open (by decide +kernel) (Nat.le_of_ble_eq_true rfl) ?_
  intro pg ev s mt below meth cd ls K hret hlk hin hK hZ hP hD hA hS hl
  generalize va_A ([(h, .inr (0, [.ref a, .int (nI i), .int (nI L.length)])), (a, .inl (cI, n, .inl f))]) sz = A at hZ hD hA hS ⊢
  have K : fq_Ctx pg mt cd cb_Row_get 2 s _ cn_Row := K
  have hl : lv_has ls 2 [(0, .ref h), (1, .int x)] := hl
  obtain ⟨h0, h1, h2, h3, h4⟩ := id hrow
  refine lv_iload_n K.1 K.2.1 dc_Row_get_0 rfl (lv_at hl 1 rfl) ?_
  refine lv_if_lt (tgt := 12) K.1 K.2.1 dc_Row_get_1 rfl (fun b1 => ?_) (fun b1 => ?_)
  · skip
    refine lv_iconst (v := 0) K.1 K.2.1 dc_Row_get_12 (by decide) ?_
    refine lv_goto (tgt := 33) K.1 K.2.1 dc_Row_get_13 rfl ?_
    exact fq_reti K hret hlk hS hP hD ⟨rfl, rw_get0 (by omega) (by first | exact Or.inl b1 | exact Or.inr b9)⟩ dc_Row_get_33 (Nat.le_of_ble_eq_true rfl) (Nat.le_of_ble_eq_true rfl)
  · skip
    refine lv_iload_n K.1 K.2.1 dc_Row_get_4 rfl (lv_at hl 1 rfl) ?_
    refine lv_aload_n K.1 K.2.1 dc_Row_get_5 rfl (lv_at hl 0 rfl) ?_
    refine fq_get K hK cl_Row hP 0 2 rfl (by decide) wd_96 rfl dc_Row_get_6 ?_
    refine lv_icmp_lt (tgt := 16) K.1 K.2.1 dc_Row_get_9 rfl (fun b9 => ?_) (fun b9 => ?_)
    · skip
      obtain ⟨k, hk, hx⟩ := nI_of b1
      have hkl : k < L.length := (nI_ltI hk (by omega)).mp (hx ▸ b9)
      refine lv_aload_n K.1 K.2.1 dc_Row_get_16 rfl (lv_at hl 0 rfl) ?_
      refine fq_get K hK cl_Row hP 0 0 rfl (by decide) wd_94 rfl dc_Row_get_17 ?_
      refine lv_aload_n K.1 K.2.1 dc_Row_get_20 rfl (lv_at hl 0 rfl) ?_
      refine fq_get K hK cl_Row hP 0 1 rfl (by decide) wd_95 rfl dc_Row_get_21 ?_
      refine lv_iload_n K.1 K.2.1 dc_Row_get_24 rfl (lv_at hl 1 rfl) ?_
      refine lv_iadd K.1 K.2.1 dc_Row_get_25 ?_
      refine lv_aload_n K.1 K.2.1 dc_Row_get_26 rfl (lv_at hl 0 rfl) ?_
      refine fq_get K hK cl_Row hP 0 0 rfl (by decide) wd_94 rfl dc_Row_get_27 ?_
      refine fq_len K hK hP 1 rfl dc_Row_get_30 ?_
      refine lv_irem K.1 K.2.1 dc_Row_get_31 (nI_ne0 (by omega) (by omega)) ?_
      refine fq_asi (y := nI ((i + k) % n)) (by rw [hx, nI_add]; exact pk_rem (by omega) (by omega) (by omega)) ?_
      refine fq_ald K hK hP 1 rfl (vp_in_nI (Nat.mod_lt _ h0) (by omega)) dc_Row_get_32 ?_
      refine fq_asi (y := f ((i + k) % n)) (by rw [nI_clamp (by have := Nat.mod_lt (i + k) h0; omega)]) ?_
      exact fq_reti K hret hlk hS hP hD ⟨rfl, by rw [h4 k hkl, hx, rw_getN (by omega)]⟩ dc_Row_get_33 (Nat.le_of_ble_eq_true rfl) (Nat.le_of_ble_eq_true rfl)
    · skip
      refine lv_iconst (v := 0) K.1 K.2.1 dc_Row_get_12 (by decide) ?_
      refine lv_goto (tgt := 33) K.1 K.2.1 dc_Row_get_13 rfl ?_
      exact fq_reti K hret hlk hS hP hD ⟨rfl, rw_get0 (by omega) (by first | exact Or.inl b1 | exact Or.inr b9)⟩ dc_Row_get_33 (Nat.le_of_ble_eq_true rfl) (Nat.le_of_ble_eq_true rfl)
