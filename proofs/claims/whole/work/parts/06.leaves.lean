theorem wd_26 : Cond.initialized cn_FP ∈ fq_TB := fq_in 26 (by decide +kernel) rfl
theorem wd_33 : Cond.initialized cn_Layout ∈ fq_TB := fq_in 33 (by decide +kernel) rfl
theorem wd_35 : Cond.initialized cn_Ma ∈ fq_TB := fq_in 35 (by decide +kernel) rfl
theorem wd_36 : Cond.initialized cn_Mo ∈ fq_TB := fq_in 36 (by decide +kernel) rfl
theorem wd_44 : Cond.initialized cn_Recent ∈ fq_TB := fq_in 44 (by decide +kernel) rfl
theorem wd_124 : Cond.instanceMethod my_Layout_init ∈ fq_TB := fq_in 124 (by decide +kernel) rfl
theorem wd_125 : Cond.code my_Layout_init cb_Layout_init 1 none ∈ fq_TB := fq_in 125 (by decide +kernel) rfl
theorem wd_126 : Cond.methodLink cn_Layout 1 my_Oj_init ∈ fq_TB := fq_in 126 (by decide +kernel) rfl
theorem wd_127 : Cond.fieldLink cn_Layout 7 cn_Layout "width" "I" ∈ fq_TB := fq_in 127 (by decide +kernel) rfl
theorem wd_130 : Cond.fieldLink cn_Layout 13 cn_Layout "highFirst" "Z" ∈ fq_TB := fq_in 130 (by decide +kernel) rfl
theorem wd_341 : Cond.static my_FP_near ∈ fq_TB := fq_in 341 (by decide +kernel) rfl
theorem wd_342 : Cond.code my_FP_near cb_FP_near 4 (some .int) ∈ fq_TB := fq_in 342 (by decide +kernel) rfl
theorem wd_343 : Cond.constantLong cn_FP 219 2 ∈ fq_TB := fq_in 343 (by decide +kernel) rfl
theorem wd_344 : Cond.methodLink cn_FP 221 my_Ma_floorDiv ∈ fq_TB := fq_in 344 (by decide +kernel) rfl
theorem wd_345 : Cond.static my_Ma_floorDiv ∈ fq_TB := fq_in 345 (by decide +kernel) rfl
theorem wd_346 : Cond.code my_Ma_floorDiv cb_Ma_floorDiv 6 (some .long) ∈ fq_TB := fq_in 346 (by decide +kernel) rfl
theorem wd_380 : Cond.instanceMethod my_Recent_init ∈ fq_TB := fq_in 380 (by decide +kernel) rfl
theorem wd_381 : Cond.code my_Recent_init cb_Recent_init 1 none ∈ fq_TB := fq_in 381 (by decide +kernel) rfl
theorem wd_382 : Cond.methodLink cn_Recent 1 my_Oj_init ∈ fq_TB := fq_in 382 (by decide +kernel) rfl
theorem wd_383 : Cond.fieldLink cn_Recent 9 cn_Recent "cells" "[I" ∈ fq_TB := fq_in 383 (by decide +kernel) rfl
theorem wd_384 : Cond.fieldLink cn_Recent 13 cn_Recent "count" "I" ∈ fq_TB := fq_in 384 (by decide +kernel) rfl
theorem wd_455 : Cond.instanceMethod my_Layout_choose ∈ fq_TB := fq_in 455 (by decide +kernel) rfl
theorem wd_456 : Cond.selects cn_Layout my_Layout_choose my_Layout_choose ∈ fq_TB := fq_in 456 (by decide +kernel) rfl
theorem wd_457 : Cond.code my_Layout_choose cb_Layout_choose 3 none ∈ fq_TB := fq_in 457 (by decide +kernel) rfl
theorem wd_527 : Cond.instanceMethod my_Recent_forget ∈ fq_TB := fq_in 527 (by decide +kernel) rfl
theorem wd_528 : Cond.selects cn_Recent my_Recent_forget my_Recent_forget ∈ fq_TB := fq_in 528 (by decide +kernel) rfl
theorem wd_529 : Cond.code my_Recent_forget cb_Recent_forget 1 none ∈ fq_TB := fq_in 529 (by decide +kernel) rfl
theorem wd_598 : Cond.instanceMethod my_Layout_shiftOf ∈ fq_TB := fq_in 598 (by decide +kernel) rfl
theorem wd_599 : Cond.selects cn_Layout my_Layout_shiftOf my_Layout_shiftOf ∈ fq_TB := fq_in 599 (by decide +kernel) rfl
theorem wd_600 : Cond.code my_Layout_shiftOf cb_Layout_shiftOf 2 (some .int) ∈ fq_TB := fq_in 600 (by decide +kernel) rfl
theorem wd_623 : Cond.instanceMethod my_Recent_put ∈ fq_TB := fq_in 623 (by decide +kernel) rfl
theorem wd_624 : Cond.selects cn_Recent my_Recent_put my_Recent_put ∈ fq_TB := fq_in 624 (by decide +kernel) rfl
theorem wd_625 : Cond.code my_Recent_put cb_Recent_put 2 none ∈ fq_TB := fq_in 625 (by decide +kernel) rfl
theorem wd_627 : Cond.instanceMethod my_Recent_count ∈ fq_TB := fq_in 627 (by decide +kernel) rfl
theorem wd_628 : Cond.selects cn_Recent my_Recent_count my_Recent_count ∈ fq_TB := fq_in 628 (by decide +kernel) rfl
theorem wd_629 : Cond.code my_Recent_count cb_Recent_count 1 (some .int) ∈ fq_TB := fq_in 629 (by decide +kernel) rfl
theorem wd_654 : Cond.static my_FP_clipped ∈ fq_TB := fq_in 654 (by decide +kernel) rfl
theorem wd_655 : Cond.code my_FP_clipped cb_FP_clipped 2 (some .int) ∈ fq_TB := fq_in 655 (by decide +kernel) rfl
theorem wd_656 : Cond.constantLong cn_FP 225 (-8388608) ∈ fq_TB := fq_in 656 (by decide +kernel) rfl
theorem wd_657 : Cond.constantLong cn_FP 227 8388607 ∈ fq_TB := fq_in 657 (by decide +kernel) rfl
theorem wd_658 : Cond.methodLink cn_FP 229 my_Ma_min2 ∈ fq_TB := fq_in 658 (by decide +kernel) rfl
theorem wd_659 : Cond.static my_Ma_min2 ∈ fq_TB := fq_in 659 (by decide +kernel) rfl
theorem wd_660 : Cond.code my_Ma_min2 cb_Ma_min2 4 (some .long) ∈ fq_TB := fq_in 660 (by decide +kernel) rfl
theorem wd_661 : Cond.methodLink cn_FP 231 my_Ma_max2 ∈ fq_TB := fq_in 661 (by decide +kernel) rfl
theorem wd_662 : Cond.static my_Ma_max2 ∈ fq_TB := fq_in 662 (by decide +kernel) rfl
theorem wd_663 : Cond.code my_Ma_max2 cb_Ma_max2 4 (some .long) ∈ fq_TB := fq_in 663 (by decide +kernel) rfl
theorem wd_668 : Cond.instanceMethod my_Recent_at ∈ fq_TB := fq_in 668 (by decide +kernel) rfl
theorem wd_669 : Cond.selects cn_Recent my_Recent_at my_Recent_at ∈ fq_TB := fq_in 669 (by decide +kernel) rfl
theorem wd_670 : Cond.code my_Recent_at cb_Recent_at 2 (some .int) ∈ fq_TB := fq_in 670 (by decide +kernel) rfl
theorem wd_747 : Cond.static my_Ma_floorDiv2 ∈ fq_TB := fq_in 747 (by decide +kernel) rfl
theorem wd_748 : Cond.code my_Ma_floorDiv2 cb_Ma_floorDiv2 3 (some .int) ∈ fq_TB := fq_in 748 (by decide +kernel) rfl
theorem wd_864 : Cond.static my_Mo_near ∈ fq_TB := fq_in 864 (by decide +kernel) rfl
theorem wd_865 : Cond.code my_Mo_near cb_Mo_near 4 (some .int) ∈ fq_TB := fq_in 865 (by decide +kernel) rfl
theorem wd_866 : Cond.constantLong cn_Mo 38 2 ∈ fq_TB := fq_in 866 (by decide +kernel) rfl
theorem wd_867 : Cond.methodLink cn_Mo 40 my_Mo_floor ∈ fq_TB := fq_in 867 (by decide +kernel) rfl
theorem wd_868 : Cond.static my_Mo_floor ∈ fq_TB := fq_in 868 (by decide +kernel) rfl
theorem wd_869 : Cond.code my_Mo_floor cb_Mo_floor 6 (some .long) ∈ fq_TB := fq_in 869 (by decide +kernel) rfl
theorem wd_954 : Cond.static my_Mo_clipped ∈ fq_TB := fq_in 954 (by decide +kernel) rfl
theorem wd_955 : Cond.code my_Mo_clipped cb_Mo_clipped 2 (some .int) ∈ fq_TB := fq_in 955 (by decide +kernel) rfl
theorem wd_956 : Cond.constantLong cn_Mo 44 (-8388608) ∈ fq_TB := fq_in 956 (by decide +kernel) rfl
theorem wd_957 : Cond.constant cn_Mo 46 (-8388608) ∈ fq_TB := fq_in 957 (by decide +kernel) rfl
theorem wd_958 : Cond.constantLong cn_Mo 47 8388607 ∈ fq_TB := fq_in 958 (by decide +kernel) rfl
theorem wd_959 : Cond.constant cn_Mo 49 8388607 ∈ fq_TB := fq_in 959 (by decide +kernel) rfl
/-! The document's numbers as whole numbers: what a stage makes of the samples that came, and how many. -/
def fm_clip (v : Int) : Int := if v < -8388608 then -8388608 else if 8388607 < v then 8388607 else v
def fm_in (v : Int) : Prop := -8388608 ≤ v ∧ v ≤ 8388607
theorem fm_clip_in (v : Int) : fm_in (fm_clip v) := by
  unfold fm_clip fm_in
  split
  · omega
  · split <;> omega
theorem fm_clip_id {v : Int} (h : fm_in v) : fm_clip v = v := by
  unfold fm_clip
  unfold fm_in at h
  rw [if_neg (by omega), if_neg (by omega)]
/-- a sample by its place; 0 where there is none -/
def fm_x (xs : List Int) (i : Int) : Int := if i < 0 then 0 else xs.getD i.toNat 0
theorem fm_x_neg {xs : List Int} {i : Int} (h : i < 0) : fm_x xs i = 0 := if_pos h
theorem fm_x_ge {xs : List Int} {i : Int} (h : (xs.length : Int) ≤ i) : fm_x xs i = 0 := by
  unfold fm_x
  split
  · rfl
  · simp only [List.getD_eq_getElem?_getD]
    rw [List.getElem?_eq_none (by omega)]
    rfl
theorem fm_x_nat (xs : List Int) (i : Nat) : fm_x xs (i : Int) = xs.getD i 0 := by
  unfold fm_x
  rw [if_neg (by omega)]
  rfl
theorem fm_x_app {xs zs : List Int} {i : Int} (h : i < xs.length) : fm_x (xs ++ zs) i = fm_x xs i := by
  unfold fm_x
  split
  · rfl
  · simp only [List.getD_eq_getElem?_getD]
    rw [List.getElem?_append_left (by omega)]
theorem fm_x_in {xs : List Int} (h : ∀ v ∈ xs, fm_in v) (i : Int) : fm_in (fm_x xs i) := by
  unfold fm_x
  split
  · unfold fm_in; omega
  · simp only [List.getD_eq_getElem?_getD]
    cases hq : xs[i.toNat]? with
    | none => show fm_in 0; unfold fm_in; omega
    | some v => exact h v (List.mem_of_getElem? hq)
/-- a section's last two answers behind i of them -/
def fm_sec (b0 b1 b2 a1 a2 : Int) (xs : List Int) : Nat → Int × Int
  | 0 => (0, 0)
  | i + 1 => (fm_clip ((b0 * fm_x xs (i : Int) + b1 * fm_x xs ((i : Int) - 1) + b2 * fm_x xs ((i : Int) - 2) - a1 * (fm_sec b0 b1 b2 a1 a2 xs i).1 - a2 * (fm_sec b0 b1 b2 a1 a2 xs i).2) / 16384), (fm_sec b0 b1 b2 a1 a2 xs i).1)
def fm_sum (f : Nat → Int) : Nat → Int
  | 0 => 0
  | n + 1 => fm_sum f n + f n
theorem fm_sum_congr {f g : Nat → Int} : ∀ {n : Nat}, (∀ k, k < n → f k = g k) → fm_sum f n = fm_sum g n
  | 0, _ => rfl
  | n + 1, h => by
    show fm_sum f n + f n = fm_sum g n + g n
    rw [fm_sum_congr (fun k hk => h k (by omega)), h n (by omega)]
def fm_wt (shape : Int) (len k : Nat) : Int := if shape = 0 then 1 else if shape = 2 then ((k : Int) + 1) * ((len : Int) - k) else if (k : Int) + 1 < (len : Int) - k then (k : Int) + 1 else (len : Int) - k
def fm_u (up : Int) (xs : List Int) (place : Int) : Int := if 0 ≤ place ∧ place % up = 0 then fm_x xs (place / up) else 0
def fm_far (r : Int) (k : Nat) : Int := r - (if (k : Int) - (r - 1) < 0 then -((k : Int) - (r - 1)) else (k : Int) - (r - 1))
def fm_max (a b : Int) : Int := if b < a then a else b
/-- a stage: kind 0 section, 1 gain, 2 window, 3 resampler; and its five numbers -/
abbrev fm_S : Type := Nat × Int × Int × Int × Int × Int
def fm_y (sp : fm_S) (xs : List Int) (i : Nat) : Int :=
  if sp.1 = 0 then (fm_sec sp.2.1 sp.2.2.1 sp.2.2.2.1 sp.2.2.2.2.1 sp.2.2.2.2.2 xs (i + 1)).1
  else if sp.1 = 1 then fm_clip (sp.2.1 * fm_x xs (i : Int) / 256)
  else if sp.1 = 2 then fm_sum (fun k => fm_wt sp.2.1 sp.2.2.1.toNat k * fm_x xs ((i : Int) - k)) sp.2.2.1.toNat / fm_sum (fm_wt sp.2.1 sp.2.2.1.toNat) sp.2.2.1.toNat
  else fm_clip (sp.2.1 * fm_sum (fun k => fm_far (fm_max sp.2.1 sp.2.2.1) k * fm_u sp.2.1 xs ((i : Int) * sp.2.2.1 - k)) (2 * fm_max sp.2.1 sp.2.2.1 - 1).toNat / (fm_max sp.2.1 sp.2.2.1 * fm_max sp.2.1 sp.2.2.1))
def fm_m (sp : fm_S) (fl : Bool) (n : Nat) : Nat :=
  if n = 0 ∨ sp.1 < 2 then n
  else if sp.1 = 2 then (if fl then n + sp.2.2.1.toNat - 1 else n)
  else if fl then (n * sp.2.1.toNat + 2 * (fm_max sp.2.1 sp.2.2.1).toNat - 3) / sp.2.2.1.toNat + 1
  else (n * sp.2.1.toNat + sp.2.2.1.toNat - 1) / sp.2.2.1.toNat
/-- what a stage may be -/
def fm_ok (sp : fm_S) : Prop :=
  sp.1 ≤ 3 ∧ (sp.1 = 0 → (-65536 ≤ sp.2.1 ∧ sp.2.1 ≤ 65536) ∧ (-65536 ≤ sp.2.2.1 ∧ sp.2.2.1 ≤ 65536) ∧ (-65536 ≤ sp.2.2.2.1 ∧ sp.2.2.2.1 ≤ 65536) ∧ (-65536 ≤ sp.2.2.2.2.1 ∧ sp.2.2.2.2.1 ≤ 65536) ∧ (-65536 ≤ sp.2.2.2.2.2 ∧ sp.2.2.2.2.2 ≤ 65536))
  ∧ (sp.1 = 1 → -1024 ≤ sp.2.1 ∧ sp.2.1 ≤ 1024)
  ∧ (sp.1 = 2 → (sp.2.1 = 0 ∨ sp.2.1 = 1 ∨ sp.2.1 = 2) ∧ 1 ≤ sp.2.2.1 ∧ sp.2.2.1 ≤ 8)
  ∧ (sp.1 = 3 → (1 ≤ sp.2.1 ∧ sp.2.1 ≤ 4) ∧ 1 ≤ sp.2.2.1 ∧ sp.2.2.1 ≤ 4)
def fm_o (sp : fm_S) (fl : Bool) (xs : List Int) : List Int := (List.range (fm_m sp fl xs.length)).map (fm_y sp xs)
def fm_O : List fm_S → Bool → List Int → List Int
  | [], _, xs => xs
  | sp :: r, fl, xs => fm_O r fl (fm_o sp fl xs)
theorem fm_o_length (sp : fm_S) (fl : Bool) (xs : List Int) : (fm_o sp fl xs).length = fm_m sp fl xs.length := by
  simp [fm_o]
theorem fm_sec_app {b0 b1 b2 a1 a2 : Int} {xs zs : List Int} : ∀ {i : Nat}, i ≤ xs.length → fm_sec b0 b1 b2 a1 a2 (xs ++ zs) i = fm_sec b0 b1 b2 a1 a2 xs i
  | 0, _ => rfl
  | i + 1, h => by
    have ih := fm_sec_app (b0 := b0) (b1 := b1) (b2 := b2) (a1 := a1) (a2 := a2) (xs := xs) (zs := zs) (i := i) (by omega)
    show (_, _) = (_, _)
    rw [ih, fm_x_app (by omega), fm_x_app (by omega), fm_x_app (by omega)]
theorem fm_u_app {up : Int} {xs zs : List Int} {p : Int} (hu : 1 ≤ up) (h : p < xs.length * up) : fm_u up (xs ++ zs) p = fm_u up xs p := by
  unfold fm_u
  split
  · exact fm_x_app (Int.ediv_lt_of_lt_mul (by omega) h)
  · rfl
/-- what is made before the flush rests on what came before alone -/
theorem fm_y_app {sp : fm_S} (hok : fm_ok sp) {xs zs : List Int} {i : Nat} (h : i < fm_m sp false xs.length) : fm_y sp (xs ++ zs) i = fm_y sp xs i := by
  obtain ⟨h3, -, -, hw, hr⟩ := hok
  unfold fm_m at h
  unfold fm_y
  by_cases k0 : sp.1 = 0
  · rw [if_pos k0, if_pos k0]
    rw [if_pos (Or.inr (by omega))] at h
    rw [fm_sec_app (by omega)]
  rw [if_neg k0, if_neg k0]
  by_cases k1 : sp.1 = 1
  · rw [if_pos k1, if_pos k1]
    rw [if_pos (Or.inr (by omega))] at h
    rw [fm_x_app (by omega)]
  rw [if_neg k1, if_neg k1]
  by_cases k2 : sp.1 = 2
  · rw [if_pos k2, if_pos k2]
    have h' : i < xs.length := by
      by_cases hz : xs.length = 0 ∨ sp.1 < 2
      · rw [if_pos hz] at h; exact h
      · rw [if_neg hz, if_pos k2, if_neg (by decide)] at h
        exact h
    rw [fm_sum_congr (fun k _ => by rw [fm_x_app (by omega)])]
  rw [if_neg k2, if_neg k2]
  have k3 : sp.1 = 3 := by omega
  obtain ⟨⟨u1, u4⟩, d1, d4⟩ := hr k3
  by_cases hz : xs.length = 0 ∨ sp.1 < 2
  · rw [if_pos hz] at h; omega
  · rw [if_neg hz, if_neg k2, if_neg (by decide)] at h
    have hx : (i : Int) * sp.2.2.1 < xs.length * sp.2.1 := by
      have e1 : sp.2.1 = (sp.2.1.toNat : Int) := by omega
      have e2 : sp.2.2.1 = (sp.2.2.1.toNat : Int) := by omega
      have h5 := (Nat.lt_div_iff_mul_lt (by omega)).mp h
      rw [e1, e2]
      have : i * sp.2.2.1.toNat < xs.length * sp.2.1.toNat := by omega
      exact_mod_cast this
    rw [fm_sum_congr (fun k _ => by rw [fm_u_app u1 (by omega)])]
theorem fm_m_le {sp : fm_S} (hok : fm_ok sp) {n k : Nat} (fl : Bool) (h : n ≤ k) : fm_m sp false n ≤ fm_m sp fl k := by
  obtain ⟨h3, -, -, hw, hr⟩ := hok
  unfold fm_m
  by_cases hk : sp.1 < 2
  · rw [if_pos (Or.inr hk), if_pos (Or.inr hk)]; exact h
  by_cases h0 : n = 0
  · rw [if_pos (Or.inl h0)]; omega
  rw [if_neg (show ¬ (n = 0 ∨ sp.1 < 2) by omega), if_neg (show ¬ (k = 0 ∨ sp.1 < 2) by omega)]
  by_cases k2 : sp.1 = 2
  · obtain ⟨-, l1, l8⟩ := hw k2
    rw [if_pos k2, if_pos k2, if_neg (by decide)]
    split <;> omega
  · obtain ⟨⟨u1, u4⟩, d1, d4⟩ := hr (by omega)
    rw [if_neg k2, if_neg k2, if_neg (by decide)]
    have hm : n * sp.2.1.toNat ≤ k * sp.2.1.toNat := Nat.mul_le_mul_right _ h
    have hd : 0 < sp.2.2.1.toNat := by omega
    have hmx : sp.2.1.toNat ≤ (fm_max sp.2.1 sp.2.2.1).toNat ∧ sp.2.2.1.toNat ≤ (fm_max sp.2.1 sp.2.2.1).toNat := by
      unfold fm_max
      split <;> omega
    split
    · have hn : 1 ≤ n * sp.2.1.toNat := Nat.mul_pos (by omega) (by omega)
      have e1 : (n * sp.2.1.toNat + sp.2.2.1.toNat - 1) = (n * sp.2.1.toNat - 1) + sp.2.2.1.toNat := by omega
      rw [e1, Nat.add_div_right _ hd]
      exact Nat.succ_le_succ (Nat.div_le_div_right (by omega))
    · exact Nat.div_le_div_right (by omega)
/-- what came before stays, what is new stands behind it -/
theorem fm_o_app {sp : fm_S} (hok : fm_ok sp) (fl : Bool) (xs zs : List Int) : fm_o sp fl (xs ++ zs) = fm_o sp false xs ++ (fm_o sp fl (xs ++ zs)).drop (fm_m sp false xs.length) := by
  have h : (fm_o sp fl (xs ++ zs)).take (fm_m sp false xs.length) = fm_o sp false xs := by
    unfold fm_o
    rw [← List.map_take, List.take_range, Nat.min_eq_left (fm_m_le hok fl (by simp))]
    exact List.map_congr_left (fun i hi => fm_y_app hok (List.mem_range.mp hi))
  conv => lhs; rw [← List.take_append_drop (fm_m sp false xs.length) (fm_o sp fl (xs ++ zs)), h]
def fm_d (sp : fm_S) (fl : Bool) (xs zs : List Int) : List Int := (fm_o sp fl (xs ++ zs)).drop (fm_m sp false xs.length)
/-- what comes out at the end of the chain when zs come in behind xs -/
def fm_N : List fm_S → Bool → List Int → List Int → List Int
  | [], _, _, zs => zs
  | sp :: r, fl, xs, zs => fm_N r fl (fm_o sp false xs) (fm_d sp fl xs zs)
theorem fm_O_app (fl : Bool) : ∀ (sps : List fm_S), (∀ sp ∈ sps, fm_ok sp) → ∀ (xs zs : List Int), fm_O sps fl (xs ++ zs) = fm_O sps false xs ++ fm_N sps fl xs zs
  | [], _, xs, zs => rfl
  | sp :: r, h, xs, zs => by
    show fm_O r fl (fm_o sp fl (xs ++ zs)) = fm_O r false (fm_o sp false xs) ++ fm_N r fl (fm_o sp false xs) (fm_d sp fl xs zs)
    rw [fm_o_app (h sp List.mem_cons_self) fl xs zs]
    exact fm_O_app fl r (fun q hq => h q (List.mem_cons_of_mem _ hq)) _ _
/-- what the flush lets out, stage by stage -/
def fm_G : List fm_S → List Int → List Int
  | [], _ => []
  | sp :: r, xs => fm_N r false (fm_o sp false xs) (fm_d sp true xs []) ++ fm_G r (fm_o sp true xs)
theorem fm_O_flush : ∀ (sps : List fm_S), (∀ sp ∈ sps, fm_ok sp) → ∀ (xs : List Int), fm_O sps true xs = fm_O sps false xs ++ fm_G sps xs
  | [], _, xs => (List.append_nil xs).symm
  | sp :: r, h, xs => by
    have h1 := fm_o_app (h sp List.mem_cons_self) true xs []
    rw [List.append_nil] at h1
    have h2 := fm_O_flush r (fun q hq => h q (List.mem_cons_of_mem _ hq)) (fm_o sp true xs)
    show fm_O r true (fm_o sp true xs) = fm_O r false (fm_o sp false xs) ++ (fm_N r false (fm_o sp false xs) (fm_d sp true xs []) ++ fm_G r (fm_o sp true xs))
    rw [h2, ← List.append_assoc]
    congr 1
    rw [h1]
    show fm_O r false (fm_o sp false xs ++ _) = _
    rw [fm_O_app false r (fun q hq => h q (List.mem_cons_of_mem _ hq))]
    unfold fm_d
    rw [List.append_nil]

/-! numbers -/
theorem fn_td {a b : Int} (hb : 0 < b) : (b ∣ a ∧ a.tdiv b = a / b) ∨ (¬ b ∣ a ∧ 0 ≤ a ∧ a.tdiv b = a / b) ∨ (¬ b ∣ a ∧ a < 0 ∧ a.tdiv b = a / b + 1) := by
  have e := Int.tdiv_eq_ediv (a := a) (b := b)
  by_cases h1 : b ∣ a
  · rw [if_pos (Or.inr h1)] at e
    exact Or.inl ⟨h1, by omega⟩
  · by_cases h2 : 0 ≤ a
    · rw [if_pos (Or.inl h2)] at e
      exact Or.inr (Or.inl ⟨h1, h2, by omega⟩)
    · rw [if_neg (fun z => z.elim h2 h1), Int.sign_eq_one_of_pos hb] at e
      exact Or.inr (Or.inr ⟨h1, by omega, e⟩)
theorem fn_dle {a b : Int} (hb : 0 < b) (ha : a < 0) : a ≤ a / b ∧ a / b < 0 := by
  refine ⟨Int.le_ediv_of_mul_le hb ?_, Int.ediv_neg_of_neg_of_pos ha hb⟩
  have h := Int.mul_le_mul_of_nonpos_left (a := a) (b := b) (c := 1) (by omega) (by omega)
  omega
theorem fn_mul1 {a b : Int} (hb : 0 < b) (ha : a < 0) : a ≤ (a / b + 1) * b ∧ (a / b + 1) * b ≤ 0 := by
  have h1 := Int.ediv_mul_add_emod a b
  have h2 := Int.emod_nonneg a (b := b) (by omega)
  have h3 := Int.emod_lt_of_pos a hb
  have h4 := (fn_dle hb ha).2
  have h5 := Int.mul_nonpos_of_nonpos_of_nonneg (a := a / b + 1) (b := b) (by omega) (by omega)
  rw [Int.add_mul, Int.one_mul] at h5 ⊢
  omega
theorem fn_xor {x y : Int64} (hy : 0 < y.toInt) : 0 ≤ x ^^^ y ↔ 0 ≤ x.toInt := by
  rw [Kit.i64_nonneg]
  have e : (x ^^^ y).toBitVec.msb = (x.toBitVec.msb ^^ y.toBitVec.msb) := by rw [Int64.toBitVec_xor, BitVec.msb_xor]
  rw [BitVec.msb_eq_toInt, BitVec.msb_eq_toInt, BitVec.msb_eq_toInt, Int64.toInt_toBitVec, Int64.toInt_toBitVec, Int64.toInt_toBitVec, decide_eq_false (p := y.toInt < 0) (by omega), Bool.xor_false] at e
  have e2 := decide_eq_decide.mp e
  omega
theorem fn_div {x y : Int64} (hy : 0 < y.toInt) : (x / y).toInt = x.toInt.tdiv y.toInt := Kit.i64_div (fun z => by omega)
theorem fn_fd1 {x y : Int64} (hy : 0 < y.toInt) (h : 0 ≤ x ^^^ y) : (x / y).toInt = x.toInt / y.toInt := by
  rw [fn_xor hy] at h
  rw [fn_div hy]
  rcases fn_td (a := x.toInt) hy with z | z | z <;> omega
theorem fn_fd2 {x y : Int64} (hy : 0 < y.toInt) (h : x / y * y = x) : (x / y).toInt = x.toInt / y.toInt := by
  rw [fn_div hy]
  rcases fn_td (a := x.toInt) hy with z | z | ⟨z1, z2, z3⟩
  · exact z.2
  · exact z.2.2
  · exfalso
    have hx := Int64.le_toInt x
    have hm := fn_mul1 hy z2
    have e : (x / y * y).toInt = x.toInt.tdiv y.toInt * y.toInt := by
      rw [Kit.i64_mul (by rw [fn_div hy, z3]; omega) (by rw [fn_div hy, z3]; omega), fn_div hy]
    rw [h] at e
    exact z1 (e ▸ Int.dvd_mul_left _ _)
theorem fn_fd3 {x y : Int64} (hy : 0 < y.toInt) (h1 : ¬ 0 ≤ x ^^^ y) (h2 : ¬ x / y * y = x) : (x / y - 1).toInt = x.toInt / y.toInt := by
  rw [fn_xor hy] at h1
  have hx := Int64.le_toInt x
  have hd := fn_dle hy (by omega : x.toInt < 0)
  have h1' : (1 : Int64).toInt = 1 := by decide
  rcases fn_td (a := x.toInt) hy with ⟨z1, z2⟩ | z | ⟨z1, z2, z3⟩
  · exfalso
    apply h2
    apply Int64.toInt.inj
    have e : x.toInt / y.toInt * y.toInt = x.toInt := Int.ediv_mul_cancel z1
    rw [Kit.i64_mul (by rw [fn_div hy, z2, e]; exact hx) (by rw [fn_div hy, z2, e]; exact Int64.toInt_lt x), fn_div hy, z2, e]
  · omega
  · rw [Kit.i64_sub (by rw [fn_div hy, z3, h1']; omega) (by rw [fn_div hy, z3, h1']; omega), fn_div hy, z3, h1']
    omega
theorem fn_fm1 {x y : Int64} (hy : 0 < y.toInt) (h : 0 ≤ x - x / y * y) : (x / y).toInt = x.toInt / y.toInt := by
  rw [Kit.i64_nonneg, Kit.i64_rem, Int.tmod_eq_emod] at h
  rw [fn_div hy]
  rcases fn_td (a := x.toInt) hy with z | z | ⟨z1, z2, z3⟩
  · exact z.2
  · exact z.2.2
  · rw [if_neg (fun z => z.elim (by omega) z1)] at h
    have := Int.emod_lt_of_pos x.toInt hy
    omega
theorem fn_fm2 {x y : Int64} (hy : 0 < y.toInt) (h : ¬ 0 ≤ x - x / y * y) : (x / y - 1).toInt = x.toInt / y.toInt := by
  rw [Kit.i64_nonneg, Kit.i64_rem, Int.tmod_eq_emod] at h
  have hx := Int64.le_toInt x
  have h1' : (1 : Int64).toInt = 1 := by decide
  have hn := Int.emod_nonneg x.toInt (b := y.toInt) (by omega)
  rcases fn_td (a := x.toInt) hy with ⟨z1, z2⟩ | ⟨z1, z2, z3⟩ | ⟨z1, z2, z3⟩
  · rw [if_pos (Or.inr z1)] at h; omega
  · rw [if_pos (Or.inl z2)] at h; omega
  · have hd := fn_dle hy z2
    rw [Kit.i64_sub (by rw [fn_div hy, z3, h1']; omega) (by rw [fn_div hy, z3, h1']; omega), fn_div hy, z3, h1']
    omega
theorem fn_xori {x y : Int32} (hy : 0 < y.toInt) : 0 ≤ x ^^^ y ↔ 0 ≤ x.toInt := by
  rw [Kit.i32_nonneg]
  have e : (x ^^^ y).toBitVec.msb = (x.toBitVec.msb ^^ y.toBitVec.msb) := by rw [Int32.toBitVec_xor, BitVec.msb_xor]
  rw [BitVec.msb_eq_toInt, BitVec.msb_eq_toInt, BitVec.msb_eq_toInt, Int32.toInt_toBitVec, Int32.toInt_toBitVec, Int32.toInt_toBitVec, decide_eq_false (p := y.toInt < 0) (by omega), Bool.xor_false] at e
  have e2 := decide_eq_decide.mp e
  omega
theorem fn_divi {x y : Int32} (hy : 0 < y.toInt) : (x / y).toInt = x.toInt.tdiv y.toInt := Kit.i32_div (fun z => by omega)
theorem fn_fi1 {x y : Int32} (hy : 0 < y.toInt) (h : 0 ≤ x ^^^ y) : (x / y).toInt = x.toInt / y.toInt := by
  rw [fn_xori hy] at h
  rw [fn_divi hy]
  rcases fn_td (a := x.toInt) hy with z | z | z <;> omega
theorem fn_fi2 {x y : Int32} (hy : 0 < y.toInt) (h : x / y * y = x) : (x / y).toInt = x.toInt / y.toInt := by
  rw [fn_divi hy]
  rcases fn_td (a := x.toInt) hy with z | z | ⟨z1, z2, z3⟩
  · exact z.2
  · exact z.2.2
  · exfalso
    have hx := Int32.le_toInt x
    have hm := fn_mul1 hy z2
    have e : (x / y * y).toInt = x.toInt.tdiv y.toInt * y.toInt := by
      rw [Kit.i32_mul (by rw [fn_divi hy, z3]; omega) (by rw [fn_divi hy, z3]; omega), fn_divi hy]
    rw [h] at e
    exact z1 (e ▸ Int.dvd_mul_left _ _)
theorem fn_fi3 {x y : Int32} (hy : 0 < y.toInt) (h1 : ¬ 0 ≤ x ^^^ y) (h2 : ¬ x / y * y = x) : (x / y - 1).toInt = x.toInt / y.toInt := by
  rw [fn_xori hy] at h1
  have hx := Int32.le_toInt x
  have hd := fn_dle hy (by omega : x.toInt < 0)
  have h1' : (1 : Int32).toInt = 1 := by decide
  rcases fn_td (a := x.toInt) hy with ⟨z1, z2⟩ | z | ⟨z1, z2, z3⟩
  · exfalso
    apply h2
    apply Int32.toInt.inj
    have e : x.toInt / y.toInt * y.toInt = x.toInt := Int.ediv_mul_cancel z1
    rw [Kit.i32_mul (by rw [fn_divi hy, z2, e]; exact hx) (by rw [fn_divi hy, z2, e]; exact Int32.toInt_lt x), fn_divi hy, z2, e]
  · omega
  · rw [Kit.i32_sub (by rw [fn_divi hy, z3, h1']; omega) (by rw [fn_divi hy, z3, h1']; omega), fn_divi hy, z3, h1']
    omega
theorem fn_clip1 (x : Int64) : (if (if (8388607 : Int64) < x then 8388607 else x) < (-8388608 : Int64) then (-8388608 : Int64) else (if (8388607 : Int64) < x then 8388607 else x)).toInt32.toInt = fm_clip x.toInt := by
  have e1 : (8388607 : Int64).toInt = 8388607 := by decide
  have e2 : (-8388608 : Int64).toInt = -8388608 := by decide
  unfold fm_clip
  by_cases h1 : (8388607 : Int64) < x
  · rw [if_pos h1, if_neg (by decide)]
    rw [Int64.lt_iff_toInt_lt, e1] at h1
    rw [if_neg (by omega), if_pos h1]
    decide
  · rw [if_neg h1]
    rw [Int64.lt_iff_toInt_lt, e1] at h1
    by_cases h2 : x < (-8388608 : Int64)
    · rw [if_pos h2]
      rw [Int64.lt_iff_toInt_lt, e2] at h2
      rw [if_pos h2]; decide
    · rw [if_neg h2]
      rw [Int64.lt_iff_toInt_lt, e2] at h2
      rw [if_neg h2, if_neg h1, Kit.i32_of_i64 (by omega) (by omega)]
theorem fn_clip2 {x : Int64} (h : ¬ (-8388608 : Int64) ≤ x) : (-8388608 : Int32).toInt = fm_clip x.toInt := by
  rw [Int64.le_iff_toInt_le, show (-8388608 : Int64).toInt = -8388608 by decide] at h
  rw [fm_clip, if_pos (by omega)]
  decide
theorem fn_clip3 {x : Int64} (h : ¬ x ≤ (8388607 : Int64)) : (8388607 : Int32).toInt = fm_clip x.toInt := by
  rw [Int64.le_iff_toInt_le, show (8388607 : Int64).toInt = 8388607 by decide] at h
  rw [fm_clip, if_neg (by omega), if_pos (by omega)]
  decide
theorem fn_clip4 {x : Int64} (h : (-8388608 : Int64) ≤ x) (h2 : x ≤ (8388607 : Int64)) : x.toInt32.toInt = fm_clip x.toInt := by
  rw [Int64.le_iff_toInt_le, show (8388607 : Int64).toInt = 8388607 by decide] at h2
  rw [Int64.le_iff_toInt_le, show (-8388608 : Int64).toInt = -8388608 by decide] at h
  rw [fm_clip, if_neg (by omega), if_neg (by omega), Kit.i32_of_i64 (by omega) (by omega)]
def fn_nr (x y : Int64) : Prop := 0 < y.toInt ∧ y.toInt < 2 ^ 61 ∧ -2 ^ 61 ≤ x.toInt ∧ x.toInt < 2 ^ 61 ∧ -2 ^ 31 ≤ (2 * x.toInt + y.toInt) / (2 * y.toInt) ∧ (2 * x.toInt + y.toInt) / (2 * y.toInt) < 2 ^ 31
theorem fn_two {y : Int64} (h1 : -2 ^ 61 ≤ y.toInt) (h2 : y.toInt < 2 ^ 61) : (2 * y).toInt = 2 * y.toInt := by
  have e : (2 : Int64).toInt = 2 := by decide
  rw [Kit.i64_mul (by rw [e]; omega) (by rw [e]; omega), e]
theorem fn_nr2 {x y : Int64} (h : fn_nr x y) : 0 < (2 * y).toInt := by
  obtain ⟨h1, h2, h3, h4, h5, h6⟩ := h
  rw [fn_two (by omega) h2]; omega
theorem fn_nr3 {x y r : Int64} (h : fn_nr x y) (e : r.toInt = (2 * x + y).toInt / (2 * y).toInt) : r.toInt32.toInt = (2 * x.toInt + y.toInt) / (2 * y.toInt) := by
  obtain ⟨h1, h2, h3, h4, h5, h6⟩ := h
  rw [fn_two (by omega) h2, Kit.i64_add (by rw [fn_two h3 h4]; omega) (by rw [fn_two h3 h4]; omega), fn_two h3 h4] at e
  rw [Kit.i32_of_i64 (by omega) (by omega), e]
/-! the last eight -/
def rc_ok (f : Nat → Int32) (xs : List Int) : Prop := xs.length < 2000000 ∧ ∀ i, i < xs.length → xs.length ≤ i + 8 → (f (i % 8)).toInt = xs.getD i 0
theorem rc_rem {k : Nat} (h : k < 2 ^ 31) : nI k - nI k / 8 * 8 = nI (k % 8) := pk_rem h (by decide) (by decide)
theorem rc_nil {f : Nat → Int32} : rc_ok f [] := ⟨by decide, fun i h => absurd h (Nat.not_lt_zero i)⟩
theorem rc_put {f : Nat → Int32} {xs : List Int} {x : Int32} (h : rc_ok f xs) (hl : xs.length < 1000000 := by assumption) : rc_ok (upd f (xs.length % 8) x) (xs ++ [x.toInt]) := by
  refine ⟨by simp; omega, fun i h1 h2 => ?_⟩
  simp at h1 h2
  by_cases e : i = xs.length
  · subst e
    rw [pk_us]
    simp [List.getD_eq_getElem?_getD]
  · rw [pk_un (by omega), h.2 i (by omega) (by omega)]
    simp only [List.getD_eq_getElem?_getD]
    rw [List.getElem?_append_left (by omega)]
def rc_at (xs : List Int) (i : Int) : Int := if i < 0 ∨ (xs.length : Int) ≤ i ∨ i < (xs.length : Int) - 8 then 0 else xs.getD i.toNat 0
theorem rc_at_x {xs : List Int} {i : Int} (h : (xs.length : Int) - 8 ≤ i) : rc_at xs i = fm_x xs i := by
  unfold rc_at
  by_cases h1 : i < 0
  · rw [if_pos (Or.inl h1), fm_x_neg h1]
  · by_cases h2 : (xs.length : Int) ≤ i
    · rw [if_pos (Or.inr (Or.inl h2)), fm_x_ge h2]
    · rw [if_neg (by omega)]
      unfold fm_x
      rw [if_neg h1]
theorem rc_sub {n : Nat} (h : n < 2000000) : (nI n - 8).toInt = (n : Int) - 8 := by
  have e : (8 : Int32).toInt = 8 := by decide
  rw [Kit.i32_sub (by rw [nI_toInt (by omega), e]; omega) (by rw [nI_toInt (by omega), e]; omega), nI_toInt (by omega), e]
theorem rc_at0 {f : Nat → Int32} {xs : List Int} {x : Int32} (h : rc_ok f xs) (hx : x < 0 ∨ nI xs.length ≤ x ∨ ¬ nI xs.length - 8 ≤ x) : (0 : Int32).toInt = rc_at xs x.toInt := by
  have hl := h.1
  rw [Int32.lt_iff_toInt_lt, Int32.le_iff_toInt_le, Int32.le_iff_toInt_le, nI_toInt (by omega), rc_sub hl, Int32.toInt_zero] at hx
  rw [rc_at, if_pos (by omega)]
  rfl
theorem rc_at1 {f : Nat → Int32} {xs : List Int} {x : Int32} {k : Nat} (h : rc_ok f xs) (hk : k < 2 ^ 31) (hx : x = nI k) (h2 : ¬ nI xs.length ≤ x) (h3 : nI xs.length - 8 ≤ x) : (f (k % 8)).toInt = rc_at xs x.toInt := by
  have hl := h.1
  rw [Int32.le_iff_toInt_le, rc_sub hl, hx, nI_toInt hk] at h3
  rw [hx, nI_leI (by omega) hk] at h2
  rw [hx, nI_toInt hk, rc_at, if_neg (by omega), h.2 k (by omega) (by omega)]
  rfl
/-! truth values, layouts -/
def fq_b (b : Bool) : Int32 := if b then 1 else 0
theorem fq_bn (b : Bool) : narrow .boolean (.int (fq_b b)) = .int (fq_b b) := by cases b <;> rfl
theorem fq_bf (b : Bool) : fits .boolean (.int (fq_b b)) = true := by cases b <;> rfl
theorem fq_b0 {b : Bool} (h : fq_b b = 0) : b = false := by cases b with
  | false => rfl
  | true => exact absurd h (by decide)
theorem fq_b1 {b : Bool} (h : ¬ fq_b b = 0) : b = true := by cases b with
  | true => rfl
  | false => exact absurd rfl h
def ly_sh (w : Nat) (b : Bool) (k : Nat) : Nat := 8 * (if b then w - 1 - k else k)
theorem ly_sh1 {w k : Nat} {b : Bool} (h : b = true) : 8 * nI (w - 1 - k) = nI (ly_sh w b k) := by
  rw [ly_sh, if_pos h]; exact pk_mul 8 _
theorem ly_sh0 {w k : Nat} {b : Bool} (h : b = false) : 8 * nI k = nI (ly_sh w b k) := by
  rw [ly_sh, if_neg (by rw [h]; decide)]; exact pk_mul 8 _
theorem ly_sub {w k : Nat} (h : k < w) : nI w - 1 - nI k = nI (w - 1 - k) := by
  have e : nI w - 1 = nI (w - 1) := pk_sub (a := w) (b := 1) (by omega)
  rw [e, pk_sub (by omega)]
theorem ly_div {w : Nat} (h : w < 1000) : nI (8 * w) / 8 = nI w := by
  have e := pk_div (a := 8 * w) (d := 8) (by omega) (by decide) (by decide)
  rw [Nat.mul_div_cancel_left w (by decide)] at e
  exact e

theorem dc_Ma_floorDiv_0 : decode cb_Ma_floorDiv 0 = .ok (.lload_n 0, 1) := by decide +kernel
theorem dc_Ma_floorDiv_1 : decode cb_Ma_floorDiv 1 = .ok (.lload_n 2, 1) := by decide +kernel
theorem dc_Ma_floorDiv_2 : decode cb_Ma_floorDiv 2 = .ok (.ldiv, 1) := by decide +kernel
theorem dc_Ma_floorDiv_3 : decode cb_Ma_floorDiv 3 = .ok (.lstore 4, 2) := by decide +kernel
theorem dc_Ma_floorDiv_5 : decode cb_Ma_floorDiv 5 = .ok (.lload_n 0, 1) := by decide +kernel
theorem dc_Ma_floorDiv_6 : decode cb_Ma_floorDiv 6 = .ok (.lload_n 2, 1) := by decide +kernel
theorem dc_Ma_floorDiv_7 : decode cb_Ma_floorDiv 7 = .ok (.lxor, 1) := by decide +kernel
theorem dc_Ma_floorDiv_8 : decode cb_Ma_floorDiv 8 = .ok (.lconst 0, 1) := by decide +kernel
theorem dc_Ma_floorDiv_9 : decode cb_Ma_floorDiv 9 = .ok (.lcmp, 1) := by decide +kernel
theorem dc_Ma_floorDiv_10 : decode cb_Ma_floorDiv 10 = .ok (.ifCond .ge 17, 3) := by decide +kernel
theorem dc_Ma_floorDiv_13 : decode cb_Ma_floorDiv 13 = .ok (.lload 4, 2) := by decide +kernel
theorem dc_Ma_floorDiv_15 : decode cb_Ma_floorDiv 15 = .ok (.lload_n 2, 1) := by decide +kernel
theorem dc_Ma_floorDiv_16 : decode cb_Ma_floorDiv 16 = .ok (.lmul, 1) := by decide +kernel
theorem dc_Ma_floorDiv_17 : decode cb_Ma_floorDiv 17 = .ok (.lload_n 0, 1) := by decide +kernel
theorem dc_Ma_floorDiv_18 : decode cb_Ma_floorDiv 18 = .ok (.lcmp, 1) := by decide +kernel
theorem dc_Ma_floorDiv_19 : decode cb_Ma_floorDiv 19 = .ok (.ifCond .eq 8, 3) := by decide +kernel
theorem dc_Ma_floorDiv_22 : decode cb_Ma_floorDiv 22 = .ok (.lload 4, 2) := by decide +kernel
theorem dc_Ma_floorDiv_24 : decode cb_Ma_floorDiv 24 = .ok (.lconst 1, 1) := by decide +kernel
theorem dc_Ma_floorDiv_25 : decode cb_Ma_floorDiv 25 = .ok (.lsub, 1) := by decide +kernel
theorem dc_Ma_floorDiv_26 : decode cb_Ma_floorDiv 26 = .ok (.lreturn, 1) := by decide +kernel
theorem dc_Ma_floorDiv_27 : decode cb_Ma_floorDiv 27 = .ok (.lload 4, 2) := by decide +kernel
theorem dc_Ma_floorDiv_29 : decode cb_Ma_floorDiv 29 = .ok (.lreturn, 1) := by decide +kernel
theorem yk_Ma_floorDiv : fq_Y my_Ma_floorDiv cb_Ma_floorDiv 6 (some .long) 2 := ⟨wd_346, wd_35, by decide +kernel⟩
theorem dc_Ma_floorDiv2_0 : decode cb_Ma_floorDiv2 0 = .ok (.iload_n 0, 1) := by decide +kernel
theorem dc_Ma_floorDiv2_1 : decode cb_Ma_floorDiv2 1 = .ok (.iload_n 1, 1) := by decide +kernel
theorem dc_Ma_floorDiv2_2 : decode cb_Ma_floorDiv2 2 = .ok (.idiv, 1) := by decide +kernel
theorem dc_Ma_floorDiv2_3 : decode cb_Ma_floorDiv2 3 = .ok (.istore_n 2, 1) := by decide +kernel
theorem dc_Ma_floorDiv2_4 : decode cb_Ma_floorDiv2 4 = .ok (.iload_n 0, 1) := by decide +kernel
theorem dc_Ma_floorDiv2_5 : decode cb_Ma_floorDiv2 5 = .ok (.iload_n 1, 1) := by decide +kernel
theorem dc_Ma_floorDiv2_6 : decode cb_Ma_floorDiv2 6 = .ok (.ixor, 1) := by decide +kernel
theorem dc_Ma_floorDiv2_7 : decode cb_Ma_floorDiv2 7 = .ok (.ifCond .ge 14, 3) := by decide +kernel
theorem dc_Ma_floorDiv2_10 : decode cb_Ma_floorDiv2 10 = .ok (.iload_n 2, 1) := by decide +kernel
theorem dc_Ma_floorDiv2_11 : decode cb_Ma_floorDiv2 11 = .ok (.iload_n 1, 1) := by decide +kernel
theorem dc_Ma_floorDiv2_12 : decode cb_Ma_floorDiv2 12 = .ok (.imul, 1) := by decide +kernel
theorem dc_Ma_floorDiv2_13 : decode cb_Ma_floorDiv2 13 = .ok (.iload_n 0, 1) := by decide +kernel
theorem dc_Ma_floorDiv2_14 : decode cb_Ma_floorDiv2 14 = .ok (.if_icmp .eq 7, 3) := by decide +kernel
theorem dc_Ma_floorDiv2_17 : decode cb_Ma_floorDiv2 17 = .ok (.iload_n 2, 1) := by decide +kernel
theorem dc_Ma_floorDiv2_18 : decode cb_Ma_floorDiv2 18 = .ok (.iconst 1, 1) := by decide +kernel
theorem dc_Ma_floorDiv2_19 : decode cb_Ma_floorDiv2 19 = .ok (.isub, 1) := by decide +kernel
theorem dc_Ma_floorDiv2_20 : decode cb_Ma_floorDiv2 20 = .ok (.ireturn, 1) := by decide +kernel
theorem dc_Ma_floorDiv2_21 : decode cb_Ma_floorDiv2 21 = .ok (.iload_n 2, 1) := by decide +kernel
theorem dc_Ma_floorDiv2_22 : decode cb_Ma_floorDiv2 22 = .ok (.ireturn, 1) := by decide +kernel
theorem yk_Ma_floorDiv2 : fq_Y my_Ma_floorDiv2 cb_Ma_floorDiv2 3 (some .int) 2 := ⟨wd_748, wd_35, by decide +kernel⟩
theorem dc_FP_clipped_0 : decode cb_FP_clipped 0 = .ok (.ldc2_w 225, 3) := by decide +kernel
theorem dc_FP_clipped_3 : decode cb_FP_clipped 3 = .ok (.lload_n 0, 1) := by decide +kernel
theorem dc_FP_clipped_4 : decode cb_FP_clipped 4 = .ok (.ldc2_w 227, 3) := by decide +kernel
theorem dc_FP_clipped_7 : decode cb_FP_clipped 7 = .ok (.invokestatic 229, 3) := by decide +kernel
theorem dc_FP_clipped_10 : decode cb_FP_clipped 10 = .ok (.invokestatic 231, 3) := by decide +kernel
theorem dc_FP_clipped_13 : decode cb_FP_clipped 13 = .ok (.l2i, 1) := by decide +kernel
theorem dc_FP_clipped_14 : decode cb_FP_clipped 14 = .ok (.ireturn, 1) := by decide +kernel
theorem yk_FP_clipped : fq_Y my_FP_clipped cb_FP_clipped 2 (some .int) 1 := ⟨wd_655, wd_26, by decide +kernel⟩
theorem dc_FP_near_0 : decode cb_FP_near 0 = .ok (.ldc2_w 219, 3) := by decide +kernel
theorem dc_FP_near_3 : decode cb_FP_near 3 = .ok (.lload_n 0, 1) := by decide +kernel
theorem dc_FP_near_4 : decode cb_FP_near 4 = .ok (.lmul, 1) := by decide +kernel
theorem dc_FP_near_5 : decode cb_FP_near 5 = .ok (.lload_n 2, 1) := by decide +kernel
theorem dc_FP_near_6 : decode cb_FP_near 6 = .ok (.ladd, 1) := by decide +kernel
theorem dc_FP_near_7 : decode cb_FP_near 7 = .ok (.ldc2_w 219, 3) := by decide +kernel
theorem dc_FP_near_10 : decode cb_FP_near 10 = .ok (.lload_n 2, 1) := by decide +kernel
theorem dc_FP_near_11 : decode cb_FP_near 11 = .ok (.lmul, 1) := by decide +kernel
theorem dc_FP_near_12 : decode cb_FP_near 12 = .ok (.invokestatic 221, 3) := by decide +kernel
theorem dc_FP_near_15 : decode cb_FP_near 15 = .ok (.l2i, 1) := by decide +kernel
theorem dc_FP_near_16 : decode cb_FP_near 16 = .ok (.ireturn, 1) := by decide +kernel
theorem yk_FP_near : fq_Y my_FP_near cb_FP_near 4 (some .int) 2 := ⟨wd_342, wd_26, by decide +kernel⟩
theorem dc_Mo_floor_0 : decode cb_Mo_floor 0 = .ok (.lload_n 0, 1) := by decide +kernel
theorem dc_Mo_floor_1 : decode cb_Mo_floor 1 = .ok (.lload_n 2, 1) := by decide +kernel
theorem dc_Mo_floor_2 : decode cb_Mo_floor 2 = .ok (.ldiv, 1) := by decide +kernel
theorem dc_Mo_floor_3 : decode cb_Mo_floor 3 = .ok (.lstore 4, 2) := by decide +kernel
theorem dc_Mo_floor_5 : decode cb_Mo_floor 5 = .ok (.lload_n 0, 1) := by decide +kernel
theorem dc_Mo_floor_6 : decode cb_Mo_floor 6 = .ok (.lload_n 2, 1) := by decide +kernel
theorem dc_Mo_floor_7 : decode cb_Mo_floor 7 = .ok (.lrem, 1) := by decide +kernel
theorem dc_Mo_floor_8 : decode cb_Mo_floor 8 = .ok (.lconst 0, 1) := by decide +kernel
theorem dc_Mo_floor_9 : decode cb_Mo_floor 9 = .ok (.lcmp, 1) := by decide +kernel
theorem dc_Mo_floor_10 : decode cb_Mo_floor 10 = .ok (.ifCond .ge 10, 3) := by decide +kernel
theorem dc_Mo_floor_13 : decode cb_Mo_floor 13 = .ok (.lload 4, 2) := by decide +kernel
theorem dc_Mo_floor_15 : decode cb_Mo_floor 15 = .ok (.lconst 1, 1) := by decide +kernel
theorem dc_Mo_floor_16 : decode cb_Mo_floor 16 = .ok (.lsub, 1) := by decide +kernel
theorem dc_Mo_floor_17 : decode cb_Mo_floor 17 = .ok (.goto 5, 3) := by decide +kernel
theorem dc_Mo_floor_20 : decode cb_Mo_floor 20 = .ok (.lload 4, 2) := by decide +kernel
theorem dc_Mo_floor_22 : decode cb_Mo_floor 22 = .ok (.lreturn, 1) := by decide +kernel
theorem yk_Mo_floor : fq_Y my_Mo_floor cb_Mo_floor 6 (some .long) 2 := ⟨wd_869, wd_36, by decide +kernel⟩
theorem dc_Mo_near_0 : decode cb_Mo_near 0 = .ok (.ldc2_w 38, 3) := by decide +kernel
theorem dc_Mo_near_3 : decode cb_Mo_near 3 = .ok (.lload_n 0, 1) := by decide +kernel
theorem dc_Mo_near_4 : decode cb_Mo_near 4 = .ok (.lmul, 1) := by decide +kernel
theorem dc_Mo_near_5 : decode cb_Mo_near 5 = .ok (.lload_n 2, 1) := by decide +kernel
theorem dc_Mo_near_6 : decode cb_Mo_near 6 = .ok (.ladd, 1) := by decide +kernel
theorem dc_Mo_near_7 : decode cb_Mo_near 7 = .ok (.ldc2_w 38, 3) := by decide +kernel
theorem dc_Mo_near_10 : decode cb_Mo_near 10 = .ok (.lload_n 2, 1) := by decide +kernel
theorem dc_Mo_near_11 : decode cb_Mo_near 11 = .ok (.lmul, 1) := by decide +kernel
theorem dc_Mo_near_12 : decode cb_Mo_near 12 = .ok (.invokestatic 40, 3) := by decide +kernel
theorem dc_Mo_near_15 : decode cb_Mo_near 15 = .ok (.l2i, 1) := by decide +kernel
theorem dc_Mo_near_16 : decode cb_Mo_near 16 = .ok (.ireturn, 1) := by decide +kernel
theorem yk_Mo_near : fq_Y my_Mo_near cb_Mo_near 4 (some .int) 2 := ⟨wd_865, wd_36, by decide +kernel⟩
theorem dc_Mo_clipped_0 : decode cb_Mo_clipped 0 = .ok (.lload_n 0, 1) := by decide +kernel
theorem dc_Mo_clipped_1 : decode cb_Mo_clipped 1 = .ok (.ldc2_w 44, 3) := by decide +kernel
theorem dc_Mo_clipped_4 : decode cb_Mo_clipped 4 = .ok (.lcmp, 1) := by decide +kernel
theorem dc_Mo_clipped_5 : decode cb_Mo_clipped 5 = .ok (.ifCond .ge 8, 3) := by decide +kernel
theorem dc_Mo_clipped_8 : decode cb_Mo_clipped 8 = .ok (.ldc 46, 2) := by decide +kernel
theorem dc_Mo_clipped_10 : decode cb_Mo_clipped 10 = .ok (.goto 18, 3) := by decide +kernel
theorem dc_Mo_clipped_13 : decode cb_Mo_clipped 13 = .ok (.lload_n 0, 1) := by decide +kernel
theorem dc_Mo_clipped_14 : decode cb_Mo_clipped 14 = .ok (.ldc2_w 47, 3) := by decide +kernel
theorem dc_Mo_clipped_17 : decode cb_Mo_clipped 17 = .ok (.lcmp, 1) := by decide +kernel
theorem dc_Mo_clipped_18 : decode cb_Mo_clipped 18 = .ok (.ifCond .le 8, 3) := by decide +kernel
theorem dc_Mo_clipped_21 : decode cb_Mo_clipped 21 = .ok (.ldc 49, 2) := by decide +kernel
theorem dc_Mo_clipped_23 : decode cb_Mo_clipped 23 = .ok (.goto 5, 3) := by decide +kernel
theorem dc_Mo_clipped_26 : decode cb_Mo_clipped 26 = .ok (.lload_n 0, 1) := by decide +kernel
theorem dc_Mo_clipped_27 : decode cb_Mo_clipped 27 = .ok (.l2i, 1) := by decide +kernel
theorem dc_Mo_clipped_28 : decode cb_Mo_clipped 28 = .ok (.ireturn, 1) := by decide +kernel
theorem yk_Mo_clipped : fq_Y my_Mo_clipped cb_Mo_clipped 2 (some .int) 1 := ⟨wd_955, wd_36, by decide +kernel⟩
theorem dc_Recent_init_0 : decode cb_Recent_init 0 = .ok (.aload_n 0, 1) := by decide +kernel
theorem dc_Recent_init_1 : decode cb_Recent_init 1 = .ok (.invokespecial 1, 3) := by decide +kernel
theorem dc_Recent_init_4 : decode cb_Recent_init 4 = .ok (.aload_n 0, 1) := by decide +kernel
theorem dc_Recent_init_5 : decode cb_Recent_init 5 = .ok (.bipush 8, 2) := by decide +kernel
theorem dc_Recent_init_7 : decode cb_Recent_init 7 = .ok (.newarray .int, 2) := by decide +kernel
theorem dc_Recent_init_9 : decode cb_Recent_init 9 = .ok (.putfield 9, 3) := by decide +kernel
theorem dc_Recent_init_12 : decode cb_Recent_init 12 = .ok (.return_, 1) := by decide +kernel
theorem yk_Recent_init : fq_Y my_Recent_init cb_Recent_init 1 none 0 := ⟨wd_381, wd_44, by decide +kernel⟩
theorem dc_Recent_count_0 : decode cb_Recent_count 0 = .ok (.aload_n 0, 1) := by decide +kernel
theorem dc_Recent_count_1 : decode cb_Recent_count 1 = .ok (.getfield 13, 3) := by decide +kernel
theorem dc_Recent_count_4 : decode cb_Recent_count 4 = .ok (.ireturn, 1) := by decide +kernel
theorem yk_Recent_count : fq_Y my_Recent_count cb_Recent_count 1 (some .int) 0 := ⟨wd_629, wd_44, by decide +kernel⟩
theorem dc_Recent_forget_0 : decode cb_Recent_forget 0 = .ok (.aload_n 0, 1) := by decide +kernel
theorem dc_Recent_forget_1 : decode cb_Recent_forget 1 = .ok (.iconst 0, 1) := by decide +kernel
theorem dc_Recent_forget_2 : decode cb_Recent_forget 2 = .ok (.putfield 13, 3) := by decide +kernel
theorem dc_Recent_forget_5 : decode cb_Recent_forget 5 = .ok (.return_, 1) := by decide +kernel
theorem yk_Recent_forget : fq_Y my_Recent_forget cb_Recent_forget 1 none 0 := ⟨wd_529, wd_44, by decide +kernel⟩
theorem dc_Recent_put_0 : decode cb_Recent_put 0 = .ok (.aload_n 0, 1) := by decide +kernel
theorem dc_Recent_put_1 : decode cb_Recent_put 1 = .ok (.getfield 9, 3) := by decide +kernel
theorem dc_Recent_put_4 : decode cb_Recent_put 4 = .ok (.aload_n 0, 1) := by decide +kernel
theorem dc_Recent_put_5 : decode cb_Recent_put 5 = .ok (.getfield 13, 3) := by decide +kernel
theorem dc_Recent_put_8 : decode cb_Recent_put 8 = .ok (.bipush 8, 2) := by decide +kernel
theorem dc_Recent_put_10 : decode cb_Recent_put 10 = .ok (.irem, 1) := by decide +kernel
theorem dc_Recent_put_11 : decode cb_Recent_put 11 = .ok (.iload_n 1, 1) := by decide +kernel
theorem dc_Recent_put_12 : decode cb_Recent_put 12 = .ok (.iastore, 1) := by decide +kernel
theorem dc_Recent_put_13 : decode cb_Recent_put 13 = .ok (.aload_n 0, 1) := by decide +kernel
theorem dc_Recent_put_14 : decode cb_Recent_put 14 = .ok (.dup, 1) := by decide +kernel
theorem dc_Recent_put_15 : decode cb_Recent_put 15 = .ok (.getfield 13, 3) := by decide +kernel
theorem dc_Recent_put_18 : decode cb_Recent_put 18 = .ok (.iconst 1, 1) := by decide +kernel
theorem dc_Recent_put_19 : decode cb_Recent_put 19 = .ok (.iadd, 1) := by decide +kernel
theorem dc_Recent_put_20 : decode cb_Recent_put 20 = .ok (.putfield 13, 3) := by decide +kernel
theorem dc_Recent_put_23 : decode cb_Recent_put 23 = .ok (.return_, 1) := by decide +kernel
theorem yk_Recent_put : fq_Y my_Recent_put cb_Recent_put 2 none 1 := ⟨wd_625, wd_44, by decide +kernel⟩
theorem dc_Recent_at_0 : decode cb_Recent_at 0 = .ok (.iload_n 1, 1) := by decide +kernel
theorem dc_Recent_at_1 : decode cb_Recent_at 1 = .ok (.ifCond .lt 22, 3) := by decide +kernel
theorem dc_Recent_at_4 : decode cb_Recent_at 4 = .ok (.iload_n 1, 1) := by decide +kernel
theorem dc_Recent_at_5 : decode cb_Recent_at 5 = .ok (.aload_n 0, 1) := by decide +kernel
theorem dc_Recent_at_6 : decode cb_Recent_at 6 = .ok (.getfield 13, 3) := by decide +kernel
theorem dc_Recent_at_9 : decode cb_Recent_at 9 = .ok (.if_icmp .ge 14, 3) := by decide +kernel
theorem dc_Recent_at_12 : decode cb_Recent_at 12 = .ok (.iload_n 1, 1) := by decide +kernel
theorem dc_Recent_at_13 : decode cb_Recent_at 13 = .ok (.aload_n 0, 1) := by decide +kernel
theorem dc_Recent_at_14 : decode cb_Recent_at 14 = .ok (.getfield 13, 3) := by decide +kernel
theorem dc_Recent_at_17 : decode cb_Recent_at 17 = .ok (.bipush 8, 2) := by decide +kernel
theorem dc_Recent_at_19 : decode cb_Recent_at 19 = .ok (.isub, 1) := by decide +kernel
theorem dc_Recent_at_20 : decode cb_Recent_at 20 = .ok (.if_icmp .ge 7, 3) := by decide +kernel
theorem dc_Recent_at_23 : decode cb_Recent_at 23 = .ok (.iconst 0, 1) := by decide +kernel
theorem dc_Recent_at_24 : decode cb_Recent_at 24 = .ok (.goto 12, 3) := by decide +kernel
theorem dc_Recent_at_27 : decode cb_Recent_at 27 = .ok (.aload_n 0, 1) := by decide +kernel
theorem dc_Recent_at_28 : decode cb_Recent_at 28 = .ok (.getfield 9, 3) := by decide +kernel
theorem dc_Recent_at_31 : decode cb_Recent_at 31 = .ok (.iload_n 1, 1) := by decide +kernel
theorem dc_Recent_at_32 : decode cb_Recent_at 32 = .ok (.bipush 8, 2) := by decide +kernel
theorem dc_Recent_at_34 : decode cb_Recent_at 34 = .ok (.irem, 1) := by decide +kernel
theorem dc_Recent_at_35 : decode cb_Recent_at 35 = .ok (.iaload, 1) := by decide +kernel
theorem dc_Recent_at_36 : decode cb_Recent_at 36 = .ok (.ireturn, 1) := by decide +kernel
theorem yk_Recent_at : fq_Y my_Recent_at cb_Recent_at 2 (some .int) 1 := ⟨wd_670, wd_44, by decide +kernel⟩
theorem dc_Layout_init_0 : decode cb_Layout_init 0 = .ok (.aload_n 0, 1) := by decide +kernel
theorem dc_Layout_init_1 : decode cb_Layout_init 1 = .ok (.invokespecial 1, 3) := by decide +kernel
theorem dc_Layout_init_4 : decode cb_Layout_init 4 = .ok (.aload_n 0, 1) := by decide +kernel
theorem dc_Layout_init_5 : decode cb_Layout_init 5 = .ok (.iconst 2, 1) := by decide +kernel
theorem dc_Layout_init_6 : decode cb_Layout_init 6 = .ok (.putfield 7, 3) := by decide +kernel
theorem dc_Layout_init_9 : decode cb_Layout_init 9 = .ok (.return_, 1) := by decide +kernel
theorem yk_Layout_init : fq_Y my_Layout_init cb_Layout_init 1 none 0 := ⟨wd_125, wd_33, by decide +kernel⟩
theorem dc_Layout_choose_0 : decode cb_Layout_choose 0 = .ok (.aload_n 0, 1) := by decide +kernel
theorem dc_Layout_choose_1 : decode cb_Layout_choose 1 = .ok (.iload_n 1, 1) := by decide +kernel
theorem dc_Layout_choose_2 : decode cb_Layout_choose 2 = .ok (.bipush 8, 2) := by decide +kernel
theorem dc_Layout_choose_4 : decode cb_Layout_choose 4 = .ok (.idiv, 1) := by decide +kernel
theorem dc_Layout_choose_5 : decode cb_Layout_choose 5 = .ok (.putfield 7, 3) := by decide +kernel
theorem dc_Layout_choose_8 : decode cb_Layout_choose 8 = .ok (.aload_n 0, 1) := by decide +kernel
theorem dc_Layout_choose_9 : decode cb_Layout_choose 9 = .ok (.iload_n 2, 1) := by decide +kernel
theorem dc_Layout_choose_10 : decode cb_Layout_choose 10 = .ok (.putfield 13, 3) := by decide +kernel
theorem dc_Layout_choose_13 : decode cb_Layout_choose 13 = .ok (.return_, 1) := by decide +kernel
theorem yk_Layout_choose : fq_Y my_Layout_choose cb_Layout_choose 3 none 2 := ⟨wd_457, wd_33, by decide +kernel⟩
theorem dc_Layout_shiftOf_0 : decode cb_Layout_shiftOf 0 = .ok (.bipush 8, 2) := by decide +kernel
theorem dc_Layout_shiftOf_2 : decode cb_Layout_shiftOf 2 = .ok (.aload_n 0, 1) := by decide +kernel
theorem dc_Layout_shiftOf_3 : decode cb_Layout_shiftOf 3 = .ok (.getfield 13, 3) := by decide +kernel
theorem dc_Layout_shiftOf_6 : decode cb_Layout_shiftOf 6 = .ok (.ifCond .eq 14, 3) := by decide +kernel
theorem dc_Layout_shiftOf_9 : decode cb_Layout_shiftOf 9 = .ok (.aload_n 0, 1) := by decide +kernel
theorem dc_Layout_shiftOf_10 : decode cb_Layout_shiftOf 10 = .ok (.getfield 7, 3) := by decide +kernel
theorem dc_Layout_shiftOf_13 : decode cb_Layout_shiftOf 13 = .ok (.iconst 1, 1) := by decide +kernel
theorem dc_Layout_shiftOf_14 : decode cb_Layout_shiftOf 14 = .ok (.isub, 1) := by decide +kernel
theorem dc_Layout_shiftOf_15 : decode cb_Layout_shiftOf 15 = .ok (.iload_n 1, 1) := by decide +kernel
theorem dc_Layout_shiftOf_16 : decode cb_Layout_shiftOf 16 = .ok (.isub, 1) := by decide +kernel
theorem dc_Layout_shiftOf_17 : decode cb_Layout_shiftOf 17 = .ok (.goto 4, 3) := by decide +kernel
theorem dc_Layout_shiftOf_20 : decode cb_Layout_shiftOf 20 = .ok (.iload_n 1, 1) := by decide +kernel
theorem dc_Layout_shiftOf_21 : decode cb_Layout_shiftOf 21 = .ok (.imul, 1) := by decide +kernel
theorem dc_Layout_shiftOf_22 : decode cb_Layout_shiftOf 22 = .ok (.ireturn, 1) := by decide +kernel
theorem yk_Layout_shiftOf : fq_Y my_Layout_shiftOf cb_Layout_shiftOf 2 (some .int) 1 := ⟨wd_600, wd_33, by decide +kernel⟩
set_option maxHeartbeats 4000000 in
set_option maxRecDepth 100000 in
theorem ct_Ma_floorDiv (l : Launch) (D : va_G) (cI cO : ClassId) (tE : Nat) (x y : Int64) (hy : 0 < y.toInt) (sz : Nat) : Met l my_Ma_floorDiv (fq_w my_Ma_floorDiv cb_Ma_floorDiv 6 (some .long)) ({ frames := 0, cells := 0, slots := 0, locals := 0 }) (va_Pc ([.long x, .long y]) (fq_Pre D cI cO tE sz ([]))) (va_Ql (S := va_W) (fun r w => w = [] ∧ r.toInt = x.toInt / y.toInt) (fq_Bw D (va_A ([]) sz)) (va_A ([]) sz)) (0) (0) (va_A ([]) sz) := by
  refine fq_open (by decide +kernel) (Nat.le_of_ble_eq_true rfl) ?_
  intro pg ev s mt below meth cd ls K hret hlk hin hK hZ hP hD hA hS hl
  generalize va_A ([]) sz = A at hZ hD hA hS ⊢
  have K : fq_Ctx pg mt cd cb_Ma_floorDiv 6 s _ cn_Ma := K
  have hl : lv_has ls 6 [(0, .long x), (2, .long y)] := hl
  refine lv_lload_n K.1 K.2.1 dc_Ma_floorDiv_0 rfl (lv_at hl 0 rfl) ?_
  refine lv_lload_n K.1 K.2.1 dc_Ma_floorDiv_1 rfl (lv_at hl 1 rfl) ?_
  refine lv_ldiv K.1 K.2.1 dc_Ma_floorDiv_2 (fun z => by rw [z] at hy; exact absurd hy (by decide)) ?_
  refine lv_topl (fun v1 e_v1 => ?_)
  refine lv_lstore K.1 K.2.1 dc_Ma_floorDiv_3 hl (by decide) rfl (fun ls hl => ?_)
  have hl : lv_has ls 6 [(4, .long v1), (0, .long x), (2, .long y)] := hl
  refine lv_lload_n K.1 K.2.1 dc_Ma_floorDiv_5 rfl (lv_at hl 1 rfl) ?_
  refine lv_lload_n K.1 K.2.1 dc_Ma_floorDiv_6 rfl (lv_at hl 2 rfl) ?_
  refine lv_lxor K.1 K.2.1 dc_Ma_floorDiv_7 ?_
  refine lv_lconst (v := 0) K.1 K.2.1 dc_Ma_floorDiv_8 (by decide) ?_
  refine W.lcmp K.1 K.2.1 dc_Ma_floorDiv_9 ?_
  refine lv_if_ge (tgt := 27) K.1 K.2.1 dc_Ma_floorDiv_10 rfl (fun b10 => ?_) (fun b10 => ?_)
  · skip
    rw [lg_cmp_ge] at b10
    refine lv_lload K.1 K.2.1 dc_Ma_floorDiv_27 (lv_at hl 0 rfl) ?_
    exact fq_retl K hret hlk hS hP hD ⟨rfl, by subst e_v1; first | exact fn_fd1 hy b10 | exact fn_fd2 hy b19⟩ dc_Ma_floorDiv_29 (Nat.le_of_ble_eq_true rfl) (Nat.le_of_ble_eq_true rfl)
  · skip
    rw [lg_cmp_ge] at b10
    refine lv_lload K.1 K.2.1 dc_Ma_floorDiv_13 (lv_at hl 0 rfl) ?_
    refine lv_lload_n K.1 K.2.1 dc_Ma_floorDiv_15 rfl (lv_at hl 2 rfl) ?_
    refine lv_lmul K.1 K.2.1 dc_Ma_floorDiv_16 ?_
    refine lv_lload_n K.1 K.2.1 dc_Ma_floorDiv_17 rfl (lv_at hl 1 rfl) ?_
    refine W.lcmp K.1 K.2.1 dc_Ma_floorDiv_18 ?_
    refine lv_if_eq (tgt := 27) K.1 K.2.1 dc_Ma_floorDiv_19 rfl (fun b19 => ?_) (fun b19 => ?_)
    · skip
      rw [lg_cmp_eq] at b19
      refine lv_lload K.1 K.2.1 dc_Ma_floorDiv_27 (lv_at hl 0 rfl) ?_
      exact fq_retl K hret hlk hS hP hD ⟨rfl, by subst e_v1; first | exact fn_fd1 hy b10 | exact fn_fd2 hy b19⟩ dc_Ma_floorDiv_29 (Nat.le_of_ble_eq_true rfl) (Nat.le_of_ble_eq_true rfl)
    · skip
      rw [lg_cmp_eq] at b19
      refine lv_lload K.1 K.2.1 dc_Ma_floorDiv_22 (lv_at hl 0 rfl) ?_
      refine lv_lconst (v := 1) K.1 K.2.1 dc_Ma_floorDiv_24 (by decide) ?_
      refine lv_lsub K.1 K.2.1 dc_Ma_floorDiv_25 ?_
      exact fq_retl K hret hlk hS hP hD ⟨rfl, by subst e_v1; exact fn_fd3 hy b10 b19⟩ dc_Ma_floorDiv_26 (Nat.le_of_ble_eq_true rfl) (Nat.le_of_ble_eq_true rfl)
set_option maxHeartbeats 4000000 in
set_option maxRecDepth 100000 in
theorem ct_Ma_floorDiv2 (l : Launch) (D : va_G) (cI cO : ClassId) (tE : Nat) (x y : Int32) (hy : 0 < y.toInt) (sz : Nat) : Met l my_Ma_floorDiv2 (fq_w my_Ma_floorDiv2 cb_Ma_floorDiv2 3 (some .int)) ({ frames := 0, cells := 0, slots := 0, locals := 0 }) (va_Pc ([.int x, .int y]) (fq_Pre D cI cO tE sz ([]))) (va_Qi (S := va_W) (fun r w => w = [] ∧ r.toInt = x.toInt / y.toInt) (fq_Bw D (va_A ([]) sz)) (va_A ([]) sz)) (0) (0) (va_A ([]) sz) := by
  refine fq_open (by decide +kernel) (Nat.le_of_ble_eq_true rfl) ?_
  intro pg ev s mt below meth cd ls K hret hlk hin hK hZ hP hD hA hS hl
  generalize va_A ([]) sz = A at hZ hD hA hS ⊢
  have K : fq_Ctx pg mt cd cb_Ma_floorDiv2 3 s _ cn_Ma := K
  have hl : lv_has ls 3 [(0, .int x), (1, .int y)] := hl
  refine lv_iload_n K.1 K.2.1 dc_Ma_floorDiv2_0 rfl (lv_at hl 0 rfl) ?_
  refine lv_iload_n K.1 K.2.1 dc_Ma_floorDiv2_1 rfl (lv_at hl 1 rfl) ?_
  refine lv_idiv K.1 K.2.1 dc_Ma_floorDiv2_2 (fun z => by rw [z] at hy; exact absurd hy (by decide)) ?_
  refine lv_topi (fun v1 e_v1 => ?_)
  refine lv_istore_n K.1 K.2.1 dc_Ma_floorDiv2_3 rfl hl (by decide) rfl (fun ls hl => ?_)
  have hl : lv_has ls 3 [(2, .int v1), (0, .int x), (1, .int y)] := hl
  refine lv_iload_n K.1 K.2.1 dc_Ma_floorDiv2_4 rfl (lv_at hl 1 rfl) ?_
  refine lv_iload_n K.1 K.2.1 dc_Ma_floorDiv2_5 rfl (lv_at hl 2 rfl) ?_
  refine lv_ixor K.1 K.2.1 dc_Ma_floorDiv2_6 ?_
  refine lv_if_ge (tgt := 21) K.1 K.2.1 dc_Ma_floorDiv2_7 rfl (fun b7 => ?_) (fun b7 => ?_)
  · skip
    refine lv_iload_n K.1 K.2.1 dc_Ma_floorDiv2_21 rfl (lv_at hl 0 rfl) ?_
    exact fq_reti K hret hlk hS hP hD ⟨rfl, by subst e_v1; first | exact fn_fi1 hy b7 | exact fn_fi2 hy b14⟩ dc_Ma_floorDiv2_22 (Nat.le_of_ble_eq_true rfl) (Nat.le_of_ble_eq_true rfl)
  · skip
    refine lv_iload_n K.1 K.2.1 dc_Ma_floorDiv2_10 rfl (lv_at hl 0 rfl) ?_
    refine lv_iload_n K.1 K.2.1 dc_Ma_floorDiv2_11 rfl (lv_at hl 2 rfl) ?_
    refine lv_imul K.1 K.2.1 dc_Ma_floorDiv2_12 ?_
    refine lv_iload_n K.1 K.2.1 dc_Ma_floorDiv2_13 rfl (lv_at hl 1 rfl) ?_
    refine lv_icmp_eq (tgt := 21) K.1 K.2.1 dc_Ma_floorDiv2_14 rfl (fun b14 => ?_) (fun b14 => ?_)
    · skip
      refine lv_iload_n K.1 K.2.1 dc_Ma_floorDiv2_21 rfl (lv_at hl 0 rfl) ?_
      exact fq_reti K hret hlk hS hP hD ⟨rfl, by subst e_v1; first | exact fn_fi1 hy b7 | exact fn_fi2 hy b14⟩ dc_Ma_floorDiv2_22 (Nat.le_of_ble_eq_true rfl) (Nat.le_of_ble_eq_true rfl)
    · skip
      refine lv_iload_n K.1 K.2.1 dc_Ma_floorDiv2_17 rfl (lv_at hl 0 rfl) ?_
      refine lv_iconst (v := 1) K.1 K.2.1 dc_Ma_floorDiv2_18 (by decide) ?_
      refine lv_isub K.1 K.2.1 dc_Ma_floorDiv2_19 ?_
      exact fq_reti K hret hlk hS hP hD ⟨rfl, by subst e_v1; exact fn_fi3 hy b7 b14⟩ dc_Ma_floorDiv2_20 (Nat.le_of_ble_eq_true rfl) (Nat.le_of_ble_eq_true rfl)
set_option maxHeartbeats 4000000 in
set_option maxRecDepth 100000 in
theorem ct_Mo_floor (l : Launch) (D : va_G) (cI cO : ClassId) (tE : Nat) (x y : Int64) (hy : 0 < y.toInt) (sz : Nat) : Met l my_Mo_floor (fq_w my_Mo_floor cb_Mo_floor 6 (some .long)) ({ frames := 0, cells := 0, slots := 0, locals := 0 }) (va_Pc ([.long x, .long y]) (fq_Pre D cI cO tE sz ([]))) (va_Ql (S := va_W) (fun r w => w = [] ∧ r.toInt = x.toInt / y.toInt) (fq_Bw D (va_A ([]) sz)) (va_A ([]) sz)) (0) (0) (va_A ([]) sz) := by
  refine fq_open (by decide +kernel) (Nat.le_of_ble_eq_true rfl) ?_
  intro pg ev s mt below meth cd ls K hret hlk hin hK hZ hP hD hA hS hl
  generalize va_A ([]) sz = A at hZ hD hA hS ⊢
  have K : fq_Ctx pg mt cd cb_Mo_floor 6 s _ cn_Mo := K
  have hl : lv_has ls 6 [(0, .long x), (2, .long y)] := hl
  refine lv_lload_n K.1 K.2.1 dc_Mo_floor_0 rfl (lv_at hl 0 rfl) ?_
  refine lv_lload_n K.1 K.2.1 dc_Mo_floor_1 rfl (lv_at hl 1 rfl) ?_
  refine lv_ldiv K.1 K.2.1 dc_Mo_floor_2 (fun z => by rw [z] at hy; exact absurd hy (by decide)) ?_
  refine lv_topl (fun v1 e_v1 => ?_)
  refine lv_lstore K.1 K.2.1 dc_Mo_floor_3 hl (by decide) rfl (fun ls hl => ?_)
  have hl : lv_has ls 6 [(4, .long v1), (0, .long x), (2, .long y)] := hl
  refine lv_lload_n K.1 K.2.1 dc_Mo_floor_5 rfl (lv_at hl 1 rfl) ?_
  refine lv_lload_n K.1 K.2.1 dc_Mo_floor_6 rfl (lv_at hl 2 rfl) ?_
  refine lv_lrem K.1 K.2.1 dc_Mo_floor_7 (fun z => by rw [z] at hy; exact absurd hy (by decide)) ?_
  refine lv_lconst (v := 0) K.1 K.2.1 dc_Mo_floor_8 (by decide) ?_
  refine W.lcmp K.1 K.2.1 dc_Mo_floor_9 ?_
  refine lv_if_ge (tgt := 20) K.1 K.2.1 dc_Mo_floor_10 rfl (fun b10 => ?_) (fun b10 => ?_)
  · skip
    rw [lg_cmp_ge] at b10
    refine lv_lload K.1 K.2.1 dc_Mo_floor_20 (lv_at hl 0 rfl) ?_
    exact fq_retl K hret hlk hS hP hD ⟨rfl, by subst e_v1; first | exact fn_fm1 hy b10 | exact fn_fm2 hy b10⟩ dc_Mo_floor_22 (Nat.le_of_ble_eq_true rfl) (Nat.le_of_ble_eq_true rfl)
  · skip
    rw [lg_cmp_ge] at b10
    refine lv_lload K.1 K.2.1 dc_Mo_floor_13 (lv_at hl 0 rfl) ?_
    refine lv_lconst (v := 1) K.1 K.2.1 dc_Mo_floor_15 (by decide) ?_
    refine lv_lsub K.1 K.2.1 dc_Mo_floor_16 ?_
    refine lv_goto (tgt := 22) K.1 K.2.1 dc_Mo_floor_17 rfl ?_
    exact fq_retl K hret hlk hS hP hD ⟨rfl, by subst e_v1; first | exact fn_fm1 hy b10 | exact fn_fm2 hy b10⟩ dc_Mo_floor_22 (Nat.le_of_ble_eq_true rfl) (Nat.le_of_ble_eq_true rfl)
set_option maxHeartbeats 4000000 in
set_option maxRecDepth 100000 in
theorem ct_FP_clipped (l : Launch) (D : va_G) (cI cO : ClassId) (tE : Nat) (x : Int64) (sz : Nat) : Met l my_FP_clipped (fq_w my_FP_clipped cb_FP_clipped 2 (some .int)) ({ frames := 1, cells := 0, slots := 0, locals := 17 }) (va_Pc ([.long x]) (fq_Pre D cI cO tE sz ([]))) (va_Qi (S := va_W) (fun r w => w = [] ∧ r.toInt = fm_clip x.toInt) (fq_Bw D (va_A ([]) sz)) (va_A ([]) sz)) (0) (0) (va_A ([]) sz) := by
  refine fq_open (by decide +kernel) (Nat.le_of_ble_eq_true rfl) ?_
  intro pg ev s mt below meth cd ls K hret hlk hin hK hZ hP hD hA hS hl
  generalize va_A ([]) sz = A at hZ hD hA hS ⊢
  have K : fq_Ctx pg mt cd cb_FP_clipped 2 s _ cn_FP := K
  have hl : lv_has ls 2 [(0, .long x)] := hl
  refine lv_ldc2 (v := (-8388608)) K.1 K.2.1 K.2.2.2.1 (K.2.2.2.2 _ wd_656) dc_FP_clipped_0 ?_
  refine lv_lload_n K.1 K.2.1 dc_FP_clipped_3 rfl (lv_at hl 0 rfl) ?_
  refine lv_ldc2 (v := 8388607) K.1 K.2.1 K.2.2.2.1 (K.2.2.2.2 _ wd_657) dc_FP_clipped_4 ?_
  refine va_mmin_long K.1 K.2.1 (K.2.2.1.trans hl.1.symm) K.2.2.2.1 (K.2.2.2.2 _ wd_658) (K.2.2.2.2 _ wd_659) (K.2.2.2.2 _ wd_35) (K.2.2.2.2 _ wd_660) (Nat.le_of_ble_eq_true rfl) (Nat.le_of_ble_eq_true rfl) (Nat.le_of_ble_eq_true rfl) (Nat.le_of_ble_eq_true rfl) dc_FP_clipped_7 ?_
  refine va_mmax_long K.1 K.2.1 (K.2.2.1.trans hl.1.symm) K.2.2.2.1 (K.2.2.2.2 _ wd_661) (K.2.2.2.2 _ wd_662) (K.2.2.2.2 _ wd_35) (K.2.2.2.2 _ wd_663) (Nat.le_of_ble_eq_true rfl) (Nat.le_of_ble_eq_true rfl) (Nat.le_of_ble_eq_true rfl) (Nat.le_of_ble_eq_true rfl) dc_FP_clipped_10 ?_
  refine lv_l2i K.1 K.2.1 dc_FP_clipped_13 rfl ?_
  exact fq_reti K hret hlk hS hP hD ⟨rfl, fn_clip1 x⟩ dc_FP_clipped_14 (Nat.le_of_ble_eq_true rfl) (Nat.le_of_ble_eq_true rfl)
set_option maxHeartbeats 4000000 in
set_option maxRecDepth 100000 in
theorem ct_Mo_clipped (l : Launch) (D : va_G) (cI cO : ClassId) (tE : Nat) (x : Int64) (sz : Nat) : Met l my_Mo_clipped (fq_w my_Mo_clipped cb_Mo_clipped 2 (some .int)) ({ frames := 0, cells := 0, slots := 0, locals := 0 }) (va_Pc ([.long x]) (fq_Pre D cI cO tE sz ([]))) (va_Qi (S := va_W) (fun r w => w = [] ∧ r.toInt = fm_clip x.toInt) (fq_Bw D (va_A ([]) sz)) (va_A ([]) sz)) (0) (0) (va_A ([]) sz) := by
  refine fq_open (by decide +kernel) (Nat.le_of_ble_eq_true rfl) ?_
  intro pg ev s mt below meth cd ls K hret hlk hin hK hZ hP hD hA hS hl
  generalize va_A ([]) sz = A at hZ hD hA hS ⊢
  have K : fq_Ctx pg mt cd cb_Mo_clipped 2 s _ cn_Mo := K
  have hl : lv_has ls 2 [(0, .long x)] := hl
  refine lv_lload_n K.1 K.2.1 dc_Mo_clipped_0 rfl (lv_at hl 0 rfl) ?_
  refine lv_ldc2 (v := (-8388608)) K.1 K.2.1 K.2.2.2.1 (K.2.2.2.2 _ wd_956) dc_Mo_clipped_1 ?_
  refine W.lcmp K.1 K.2.1 dc_Mo_clipped_4 ?_
  refine lv_if_ge (tgt := 13) K.1 K.2.1 dc_Mo_clipped_5 rfl (fun b5 => ?_) (fun b5 => ?_)
  · skip
    rw [lg_cmp_ge] at b5
    refine lv_lload_n K.1 K.2.1 dc_Mo_clipped_13 rfl (lv_at hl 0 rfl) ?_
    refine lv_ldc2 (v := 8388607) K.1 K.2.1 K.2.2.2.1 (K.2.2.2.2 _ wd_958) dc_Mo_clipped_14 ?_
    refine W.lcmp K.1 K.2.1 dc_Mo_clipped_17 ?_
    refine lv_if_le (tgt := 26) K.1 K.2.1 dc_Mo_clipped_18 rfl (fun b18 => ?_) (fun b18 => ?_)
    · skip
      rw [lg_cmp_le] at b18
      refine lv_lload_n K.1 K.2.1 dc_Mo_clipped_26 rfl (lv_at hl 0 rfl) ?_
      refine lv_l2i K.1 K.2.1 dc_Mo_clipped_27 rfl ?_
      exact fq_reti K hret hlk hS hP hD ⟨rfl, by first | exact fn_clip2 b5 | exact fn_clip3 b18 | exact fn_clip4 b5 b18⟩ dc_Mo_clipped_28 (Nat.le_of_ble_eq_true rfl) (Nat.le_of_ble_eq_true rfl)
    · skip
      rw [lg_cmp_le] at b18
      refine lv_ldc (v := 8388607) K.1 K.2.1 K.2.2.2.1 (K.2.2.2.2 _ wd_959) dc_Mo_clipped_21 ?_
      refine lv_goto (tgt := 28) K.1 K.2.1 dc_Mo_clipped_23 rfl ?_
      exact fq_reti K hret hlk hS hP hD ⟨rfl, by first | exact fn_clip2 b5 | exact fn_clip3 b18 | exact fn_clip4 b5 b18⟩ dc_Mo_clipped_28 (Nat.le_of_ble_eq_true rfl) (Nat.le_of_ble_eq_true rfl)
  · skip
    rw [lg_cmp_ge] at b5
    refine lv_ldc (v := (-8388608)) K.1 K.2.1 K.2.2.2.1 (K.2.2.2.2 _ wd_957) dc_Mo_clipped_8 ?_
    refine lv_goto (tgt := 28) K.1 K.2.1 dc_Mo_clipped_10 rfl ?_
    exact fq_reti K hret hlk hS hP hD ⟨rfl, by first | exact fn_clip2 b5 | exact fn_clip3 b18 | exact fn_clip4 b5 b18⟩ dc_Mo_clipped_28 (Nat.le_of_ble_eq_true rfl) (Nat.le_of_ble_eq_true rfl)
set_option maxHeartbeats 4000000 in
set_option maxRecDepth 100000 in
theorem ct_FP_near (l : Launch) (D : va_G) (cI cO : ClassId) (tE : Nat) (x y : Int64) (hxy : fn_nr x y) (sz : Nat) : Met l my_FP_near (fq_w my_FP_near cb_FP_near 4 (some .int)) ({ frames := 1, cells := 0, slots := 0, locals := 25 }) (va_Pc ([.long x, .long y]) (fq_Pre D cI cO tE sz ([]))) (va_Qi (S := va_W) (fun r w => w = [] ∧ r.toInt = (2 * x.toInt + y.toInt) / (2 * y.toInt)) (fq_Bw D (va_A ([]) sz)) (va_A ([]) sz)) (0) (0) (va_A ([]) sz) := by
  refine fq_open (by decide +kernel) (Nat.le_of_ble_eq_true rfl) ?_
  intro pg ev s mt below meth cd ls K hret hlk hin hK hZ hP hD hA hS hl
  generalize va_A ([]) sz = A at hZ hD hA hS ⊢
  have K : fq_Ctx pg mt cd cb_FP_near 4 s _ cn_FP := K
  have hl : lv_has ls 4 [(0, .long x), (2, .long y)] := hl
  have hy : 0 < (2 * y).toInt := fn_nr2 hxy
  refine lv_ldc2 (v := 2) K.1 K.2.1 K.2.2.2.1 (K.2.2.2.2 _ wd_343) dc_FP_near_0 ?_
  refine lv_lload_n K.1 K.2.1 dc_FP_near_3 rfl (lv_at hl 0 rfl) ?_
  refine lv_lmul K.1 K.2.1 dc_FP_near_4 ?_
  refine lv_lload_n K.1 K.2.1 dc_FP_near_5 rfl (lv_at hl 1 rfl) ?_
  refine lv_ladd K.1 K.2.1 dc_FP_near_6 ?_
  refine lv_ldc2 (v := 2) K.1 K.2.1 K.2.2.2.1 (K.2.2.2.2 _ wd_343) dc_FP_near_7 ?_
  refine lv_lload_n K.1 K.2.1 dc_FP_near_10 rfl (lv_at hl 1 rfl) ?_
  refine lv_lmul K.1 K.2.1 dc_FP_near_11 ?_
  have hc := fq_cut.of (wc := []) hP hD hS hA [] (by decide) rfl
  refine fq_cl_ (wr := []) (fq_rS K hK hZ hS hc (ct_Ma_floorDiv l D cI cO tE ((2 * x) + y) (2 * y) hy _) yk_Ma_floorDiv wd_345 wd_344 ⟨⟨rfl, rfl⟩, ⟨Nat.le_of_ble_eq_true rfl, Nat.le_of_ble_eq_true rfl⟩, ⟨Nat.le_of_ble_eq_true rfl, Nat.le_of_ble_eq_true rfl⟩⟩ hl.1 rfl (Nat.le_of_ble_eq_true rfl) dc_FP_near_12) hP hD hS hc [] [] rfl rfl (by decide) (by decide) (fun r1 w H locs hw1 hP hD hS => ?_)
  obtain ⟨rfl, hd1⟩ := hw1
  have hP : va_P D fq_cl ([]) _ := hP
  have hD : va_D A ([]) := hD
  refine lv_l2i K.1 K.2.1 dc_FP_near_15 rfl ?_
  exact fq_reti K hret hlk hS hP hD ⟨rfl, fn_nr3 hxy hd1⟩ dc_FP_near_16 (Nat.le_of_ble_eq_true rfl) (Nat.le_of_ble_eq_true rfl)
set_option maxHeartbeats 4000000 in
set_option maxRecDepth 100000 in
theorem ct_Mo_near (l : Launch) (D : va_G) (cI cO : ClassId) (tE : Nat) (x y : Int64) (hxy : fn_nr x y) (sz : Nat) : Met l my_Mo_near (fq_w my_Mo_near cb_Mo_near 4 (some .int)) ({ frames := 1, cells := 0, slots := 0, locals := 25 }) (va_Pc ([.long x, .long y]) (fq_Pre D cI cO tE sz ([]))) (va_Qi (S := va_W) (fun r w => w = [] ∧ r.toInt = (2 * x.toInt + y.toInt) / (2 * y.toInt)) (fq_Bw D (va_A ([]) sz)) (va_A ([]) sz)) (0) (0) (va_A ([]) sz) := by
  refine fq_open (by decide +kernel) (Nat.le_of_ble_eq_true rfl) ?_
  intro pg ev s mt below meth cd ls K hret hlk hin hK hZ hP hD hA hS hl
  generalize va_A ([]) sz = A at hZ hD hA hS ⊢
  have K : fq_Ctx pg mt cd cb_Mo_near 4 s _ cn_Mo := K
  have hl : lv_has ls 4 [(0, .long x), (2, .long y)] := hl
  have hy : 0 < (2 * y).toInt := fn_nr2 hxy
  refine lv_ldc2 (v := 2) K.1 K.2.1 K.2.2.2.1 (K.2.2.2.2 _ wd_866) dc_Mo_near_0 ?_
  refine lv_lload_n K.1 K.2.1 dc_Mo_near_3 rfl (lv_at hl 0 rfl) ?_
  refine lv_lmul K.1 K.2.1 dc_Mo_near_4 ?_
  refine lv_lload_n K.1 K.2.1 dc_Mo_near_5 rfl (lv_at hl 1 rfl) ?_
  refine lv_ladd K.1 K.2.1 dc_Mo_near_6 ?_
  refine lv_ldc2 (v := 2) K.1 K.2.1 K.2.2.2.1 (K.2.2.2.2 _ wd_866) dc_Mo_near_7 ?_
  refine lv_lload_n K.1 K.2.1 dc_Mo_near_10 rfl (lv_at hl 1 rfl) ?_
  refine lv_lmul K.1 K.2.1 dc_Mo_near_11 ?_
  have hc := fq_cut.of (wc := []) hP hD hS hA [] (by decide) rfl
  refine fq_cl_ (wr := []) (fq_rS K hK hZ hS hc (ct_Mo_floor l D cI cO tE ((2 * x) + y) (2 * y) hy _) yk_Mo_floor wd_868 wd_867 ⟨⟨rfl, rfl⟩, ⟨Nat.le_of_ble_eq_true rfl, Nat.le_of_ble_eq_true rfl⟩, ⟨Nat.le_of_ble_eq_true rfl, Nat.le_of_ble_eq_true rfl⟩⟩ hl.1 rfl (Nat.le_of_ble_eq_true rfl) dc_Mo_near_12) hP hD hS hc [] [] rfl rfl (by decide) (by decide) (fun r1 w H locs hw1 hP hD hS => ?_)
  obtain ⟨rfl, hd1⟩ := hw1
  have hP : va_P D fq_cl ([]) _ := hP
  have hD : va_D A ([]) := hD
  refine lv_l2i K.1 K.2.1 dc_Mo_near_15 rfl ?_
  exact fq_reti K hret hlk hS hP hD ⟨rfl, fn_nr3 hxy hd1⟩ dc_Mo_near_16 (Nat.le_of_ble_eq_true rfl) (Nat.le_of_ble_eq_true rfl)
set_option maxHeartbeats 4000000 in
set_option maxRecDepth 100000 in
theorem ct_Recent_init (l : Launch) (D : va_G) (cI cO : ClassId) (tE : Nat) (h : Nat) (sz : Nat) : Met l my_Recent_init (fq_w my_Recent_init cb_Recent_init 1 none) ({ frames := 1, cells := 1, slots := 8, locals := 12 }) (va_Pc ([.ref h]) (fq_Pre D cI cO tE sz ([(h, .inr (1, [.null, .int 0]))]))) (va_Qv (S := va_W) (fun w => ∃ q : Nat, w = [(h, .inr (1, [.ref q, .int 0])), (q, .inl (cI, 8, .inl (fun _ => 0)))]) (fq_Bw D (va_A ([(h, .inr (1, [.null, .int 0]))]) sz)) (va_A ([(h, .inr (1, [.null, .int 0]))]) sz)) (1) (8) (va_A ([(h, .inr (1, [.null, .int 0]))]) sz) := by
  refine fq_open (by decide +kernel) (Nat.le_of_ble_eq_true rfl) ?_
  intro pg ev s mt below meth cd ls K hret hlk hin hK hZ hP hD hA hS hl
  generalize va_A ([(h, .inr (1, [.null, .int 0]))]) sz = A at hZ hD hA hS ⊢
  have K : fq_Ctx pg mt cd cb_Recent_init 1 s _ cn_Recent := K
  have hin : meth.name = "<init>" := hin
  have hl : lv_has ls 1 [(0, .ref h)] := hl
  refine lv_aload_n K.1 K.2.1 dc_Recent_init_0 rfl (lv_at hl 0 rfl) ?_
  refine W.objInit K.1 K.2.1 K.2.2.2.1 (K.2.2.2.2 _ wd_382) (K.2.2.2.2 _ wd_54) (K.2.2.2.2 _ wd_55) rfl (by rw [K.2.2.1]; exact hl.1) rfl dc_Recent_init_1 (Nat.le_of_ble_eq_true rfl) (Nat.le_of_ble_eq_true rfl) ?_
  refine W.eq (g2 := F0 mt 4 ls []) rfl ?_
  refine lv_aload_n K.1 K.2.1 dc_Recent_init_4 rfl (lv_at hl 0 rfl) ?_
  refine lv_bipush (v := 8) K.1 K.2.1 dc_Recent_init_5 (by decide) ?_
  refine fq_newI K hK wd_104 hP hD hS hA 8 (by decide) (by decide) (Nat.le_of_ble_eq_true rfl) (Nat.le_of_ble_eq_true rfl) dc_Recent_init_7 (fun q1 H hP hD hS => ?_)
  have hP : va_P D fq_cl ([(h, .inr (1, [.null, .int 0])), (q1, .inl (cI, 8, .inl (fun _ => 0)))]) _ := hP
  have hD : va_D A ([(h, .inr (1, [.null, .int 0])), (q1, .inl (cI, 8, .inl (fun _ => 0)))]) := hD
  refine fq_putF K hK cl_Recent hP hD hS hin 0 0 rfl (by decide) wd_383 rfl rfl rfl rfl (Nat.le_of_ble_eq_true rfl) dc_Recent_init_9 (fun H locs hP hD hS => ?_)
  have hP : va_P D fq_cl ([(h, .inr (1, [.ref q1, .int 0])), (q1, .inl (cI, 8, .inl (fun _ => 0)))]) _ := hP
  have hD : va_D A ([(h, .inr (1, [.ref q1, .int 0])), (q1, .inl (cI, 8, .inl (fun _ => 0)))]) := hD
  exact fq_retv K hret hlk hS hP hD ⟨_, rfl⟩ dc_Recent_init_12 (Nat.le_of_ble_eq_true rfl) (Nat.le_of_ble_eq_true rfl)
set_option maxHeartbeats 4000000 in
set_option maxRecDepth 100000 in
theorem ct_Recent_count (l : Launch) (D : va_G) (cI cO : ClassId) (tE : Nat) (h a : Nat) (f : Nat → Int32) (xs : List Int)  (sz : Nat) : Met l my_Recent_count (fq_w my_Recent_count cb_Recent_count 1 (some .int)) ({ frames := 0, cells := 0, slots := 0, locals := 0 }) (va_Pc ([.ref h]) (fq_Pre D cI cO tE sz ([(h, .inr (1, [.ref a, .int (nI xs.length)])), (a, .inl (cI, 8, .inl f))]))) (va_Qi (S := va_W) (fun r w => w = [(h, .inr (1, [.ref a, .int (nI xs.length)])), (a, .inl (cI, 8, .inl f))] ∧ r = nI xs.length) (fq_Bw D (va_A ([(h, .inr (1, [.ref a, .int (nI xs.length)])), (a, .inl (cI, 8, .inl f))]) sz)) (va_A ([(h, .inr (1, [.ref a, .int (nI xs.length)])), (a, .inl (cI, 8, .inl f))]) sz)) (0) (0) (va_A ([(h, .inr (1, [.ref a, .int (nI xs.length)])), (a, .inl (cI, 8, .inl f))]) sz) := by
  refine fq_open (by decide +kernel) (Nat.le_of_ble_eq_true rfl) ?_
  intro pg ev s mt below meth cd ls K hret hlk hin hK hZ hP hD hA hS hl
  generalize va_A ([(h, .inr (1, [.ref a, .int (nI xs.length)])), (a, .inl (cI, 8, .inl f))]) sz = A at hZ hD hA hS ⊢
  have K : fq_Ctx pg mt cd cb_Recent_count 1 s _ cn_Recent := K
  have hl : lv_has ls 1 [(0, .ref h)] := hl
  refine lv_aload_n K.1 K.2.1 dc_Recent_count_0 rfl (lv_at hl 0 rfl) ?_
  refine fq_get K hK cl_Recent hP 0 1 rfl (by decide) wd_384 rfl dc_Recent_count_1 ?_
  exact fq_reti K hret hlk hS hP hD ⟨rfl, rfl⟩ dc_Recent_count_4 (Nat.le_of_ble_eq_true rfl) (Nat.le_of_ble_eq_true rfl)
set_option maxHeartbeats 4000000 in
set_option maxRecDepth 100000 in
theorem ct_Recent_forget (l : Launch) (D : va_G) (cI cO : ClassId) (tE : Nat) (h a : Nat) (f : Nat → Int32) (xs : List Int)  (sz : Nat) : Met l my_Recent_forget (fq_w my_Recent_forget cb_Recent_forget 1 none) ({ frames := 0, cells := 0, slots := 0, locals := 0 }) (va_Pc ([.ref h]) (fq_Pre D cI cO tE sz ([(h, .inr (1, [.ref a, .int (nI xs.length)])), (a, .inl (cI, 8, .inl f))]))) (va_Qv (S := va_W) (fun w => w = [(h, .inr (1, [.ref a, .int 0])), (a, .inl (cI, 8, .inl f))]) (fq_Bw D (va_A ([(h, .inr (1, [.ref a, .int (nI xs.length)])), (a, .inl (cI, 8, .inl f))]) sz)) (va_A ([(h, .inr (1, [.ref a, .int (nI xs.length)])), (a, .inl (cI, 8, .inl f))]) sz)) (0) (0) (va_A ([(h, .inr (1, [.ref a, .int (nI xs.length)])), (a, .inl (cI, 8, .inl f))]) sz) := by
  refine fq_open (by decide +kernel) (Nat.le_of_ble_eq_true rfl) ?_
  intro pg ev s mt below meth cd ls K hret hlk hin hK hZ hP hD hA hS hl
  generalize va_A ([(h, .inr (1, [.ref a, .int (nI xs.length)])), (a, .inl (cI, 8, .inl f))]) sz = A at hZ hD hA hS ⊢
  have K : fq_Ctx pg mt cd cb_Recent_forget 1 s _ cn_Recent := K
  have hl : lv_has ls 1 [(0, .ref h)] := hl
  refine lv_aload_n K.1 K.2.1 dc_Recent_forget_0 rfl (lv_at hl 0 rfl) ?_
  refine lv_iconst (v := 0) K.1 K.2.1 dc_Recent_forget_1 (by decide) ?_
  refine fq_put K hK cl_Recent hP hD hS 0 1 rfl (by decide) wd_384 rfl rfl rfl (Nat.le_of_ble_eq_true rfl) dc_Recent_forget_2 (fun H locs hP hD hS => ?_)
  have hP : va_P D fq_cl ([(h, .inr (1, [.ref a, .int 0])), (a, .inl (cI, 8, .inl f))]) _ := hP
  have hD : va_D A ([(h, .inr (1, [.ref a, .int 0])), (a, .inl (cI, 8, .inl f))]) := hD
  exact fq_retv K hret hlk hS hP hD rfl dc_Recent_forget_5 (Nat.le_of_ble_eq_true rfl) (Nat.le_of_ble_eq_true rfl)
set_option maxHeartbeats 4000000 in
set_option maxRecDepth 100000 in
theorem ct_Recent_put (l : Launch) (D : va_G) (cI cO : ClassId) (tE : Nat) (h a : Nat) (f : Nat → Int32) (xs : List Int) (x : Int32) (hrc : rc_ok f xs) (hlt : xs.length < 1000000) (sz : Nat) : Met l my_Recent_put (fq_w my_Recent_put cb_Recent_put 2 none) ({ frames := 0, cells := 0, slots := 0, locals := 0 }) (va_Pc ([.ref h, .int x]) (fq_Pre D cI cO tE sz ([(h, .inr (1, [.ref a, .int (nI xs.length)])), (a, .inl (cI, 8, .inl f))]))) (va_Qv (S := va_W) (fun w => ∃ g : Nat → Int32, w = [(h, .inr (1, [.ref a, .int (nI (xs ++ [x.toInt]).length)])), (a, .inl (cI, 8, .inl g))] ∧ rc_ok g (xs ++ [x.toInt])) (fq_Bw D (va_A ([(h, .inr (1, [.ref a, .int (nI xs.length)])), (a, .inl (cI, 8, .inl f))]) sz)) (va_A ([(h, .inr (1, [.ref a, .int (nI xs.length)])), (a, .inl (cI, 8, .inl f))]) sz)) (0) (0) (va_A ([(h, .inr (1, [.ref a, .int (nI xs.length)])), (a, .inl (cI, 8, .inl f))]) sz) := by
  refine fq_open (by decide +kernel) (Nat.le_of_ble_eq_true rfl) ?_
  intro pg ev s mt below meth cd ls K hret hlk hin hK hZ hP hD hA hS hl
  generalize va_A ([(h, .inr (1, [.ref a, .int (nI xs.length)])), (a, .inl (cI, 8, .inl f))]) sz = A at hZ hD hA hS ⊢
  have K : fq_Ctx pg mt cd cb_Recent_put 2 s _ cn_Recent := K
  have hl : lv_has ls 2 [(0, .ref h), (1, .int x)] := hl
  refine lv_aload_n K.1 K.2.1 dc_Recent_put_0 rfl (lv_at hl 0 rfl) ?_
  refine fq_get K hK cl_Recent hP 0 0 rfl (by decide) wd_383 rfl dc_Recent_put_1 ?_
  refine lv_aload_n K.1 K.2.1 dc_Recent_put_4 rfl (lv_at hl 0 rfl) ?_
  refine fq_get K hK cl_Recent hP 0 1 rfl (by decide) wd_384 rfl dc_Recent_put_5 ?_
  refine lv_bipush (v := 8) K.1 K.2.1 dc_Recent_put_8 (by decide) ?_
  refine lv_irem K.1 K.2.1 dc_Recent_put_10 (by decide) ?_
  refine fq_asi (y := nI (xs.length % 8)) (rc_rem (by omega)) ?_
  refine lv_iload_n K.1 K.2.1 dc_Recent_put_11 rfl (lv_at hl 1 rfl) ?_
  refine fq_ast K hK hP hD hS 1 rfl (vp_in_nI (Nat.mod_lt _ (by decide)) (by decide)) dc_Recent_put_12 (fun H locs hP hD hS => ?_)
  rw [nI_clamp (by omega)] at hP hD
  have hP : va_P D fq_cl ([(h, .inr (1, [.ref a, .int (nI xs.length)])), (a, .inl (cI, 8, .inl (upd f (xs.length % 8) x)))]) _ := hP
  have hD : va_D A ([(h, .inr (1, [.ref a, .int (nI xs.length)])), (a, .inl (cI, 8, .inl (upd f (xs.length % 8) x)))]) := hD
  refine lv_aload_n K.1 K.2.1 dc_Recent_put_13 rfl (lv_at hl 0 rfl) ?_
  refine lv_dup K.1 K.2.1 dc_Recent_put_14 rfl ?_
  refine fq_get K hK cl_Recent hP 0 1 rfl (by decide) wd_384 rfl dc_Recent_put_15 ?_
  refine lv_iconst (v := 1) K.1 K.2.1 dc_Recent_put_18 (by decide) ?_
  refine lv_iadd K.1 K.2.1 dc_Recent_put_19 ?_
  refine fq_asi (y := nI (xs ++ [x.toInt]).length) (by rw [nI_1, List.length_append]; rfl) ?_
  refine fq_put K hK cl_Recent hP hD hS 0 1 rfl (by decide) wd_384 rfl rfl rfl (Nat.le_of_ble_eq_true rfl) dc_Recent_put_20 (fun H locs hP hD hS => ?_)
  have hP : va_P D fq_cl ([(h, .inr (1, [.ref a, .int (nI (xs ++ [x.toInt]).length)])), (a, .inl (cI, 8, .inl (upd f (xs.length % 8) x)))]) _ := hP
  have hD : va_D A ([(h, .inr (1, [.ref a, .int (nI (xs ++ [x.toInt]).length)])), (a, .inl (cI, 8, .inl (upd f (xs.length % 8) x)))]) := hD
  exact fq_retv K hret hlk hS hP hD ⟨_, rfl, rc_put hrc⟩ dc_Recent_put_23 (Nat.le_of_ble_eq_true rfl) (Nat.le_of_ble_eq_true rfl)
set_option maxHeartbeats 4000000 in
set_option maxRecDepth 100000 in
theorem ct_Recent_at (l : Launch) (D : va_G) (cI cO : ClassId) (tE : Nat) (h a : Nat) (f : Nat → Int32) (xs : List Int) (x : Int32) (hrc : rc_ok f xs) (sz : Nat) : Met l my_Recent_at (fq_w my_Recent_at cb_Recent_at 2 (some .int)) ({ frames := 0, cells := 0, slots := 0, locals := 0 }) (va_Pc ([.ref h, .int x]) (fq_Pre D cI cO tE sz ([(h, .inr (1, [.ref a, .int (nI xs.length)])), (a, .inl (cI, 8, .inl f))]))) (va_Qi (S := va_W) (fun r w => w = [(h, .inr (1, [.ref a, .int (nI xs.length)])), (a, .inl (cI, 8, .inl f))] ∧ r.toInt = rc_at xs x.toInt) (fq_Bw D (va_A ([(h, .inr (1, [.ref a, .int (nI xs.length)])), (a, .inl (cI, 8, .inl f))]) sz)) (va_A ([(h, .inr (1, [.ref a, .int (nI xs.length)])), (a, .inl (cI, 8, .inl f))]) sz)) (0) (0) (va_A ([(h, .inr (1, [.ref a, .int (nI xs.length)])), (a, .inl (cI, 8, .inl f))]) sz) := by
  refine fq_open (by decide +kernel) (Nat.le_of_ble_eq_true rfl) ?_
  intro pg ev s mt below meth cd ls K hret hlk hin hK hZ hP hD hA hS hl
  generalize va_A ([(h, .inr (1, [.ref a, .int (nI xs.length)])), (a, .inl (cI, 8, .inl f))]) sz = A at hZ hD hA hS ⊢
  have K : fq_Ctx pg mt cd cb_Recent_at 2 s _ cn_Recent := K
  have hl : lv_has ls 2 [(0, .ref h), (1, .int x)] := hl
  refine lv_iload_n K.1 K.2.1 dc_Recent_at_0 rfl (lv_at hl 1 rfl) ?_
  refine lv_if_lt (tgt := 23) K.1 K.2.1 dc_Recent_at_1 rfl (fun b1 => ?_) (fun b1 => ?_)
  · skip
    refine lv_iconst (v := 0) K.1 K.2.1 dc_Recent_at_23 (by decide) ?_
    refine lv_goto (tgt := 36) K.1 K.2.1 dc_Recent_at_24 rfl ?_
    exact fq_reti K hret hlk hS hP hD ⟨rfl, rc_at0 hrc (by first | exact Or.inl b1 | exact Or.inr (Or.inl b9) | exact Or.inr (Or.inr b20))⟩ dc_Recent_at_36 (Nat.le_of_ble_eq_true rfl) (Nat.le_of_ble_eq_true rfl)
  · skip
    refine lv_iload_n K.1 K.2.1 dc_Recent_at_4 rfl (lv_at hl 1 rfl) ?_
    refine lv_aload_n K.1 K.2.1 dc_Recent_at_5 rfl (lv_at hl 0 rfl) ?_
    refine fq_get K hK cl_Recent hP 0 1 rfl (by decide) wd_384 rfl dc_Recent_at_6 ?_
    refine lv_icmp_ge (tgt := 23) K.1 K.2.1 dc_Recent_at_9 rfl (fun b9 => ?_) (fun b9 => ?_)
    · skip
      refine lv_iconst (v := 0) K.1 K.2.1 dc_Recent_at_23 (by decide) ?_
      refine lv_goto (tgt := 36) K.1 K.2.1 dc_Recent_at_24 rfl ?_
      exact fq_reti K hret hlk hS hP hD ⟨rfl, rc_at0 hrc (by first | exact Or.inl b1 | exact Or.inr (Or.inl b9) | exact Or.inr (Or.inr b20))⟩ dc_Recent_at_36 (Nat.le_of_ble_eq_true rfl) (Nat.le_of_ble_eq_true rfl)
    · skip
      refine lv_iload_n K.1 K.2.1 dc_Recent_at_12 rfl (lv_at hl 1 rfl) ?_
      refine lv_aload_n K.1 K.2.1 dc_Recent_at_13 rfl (lv_at hl 0 rfl) ?_
      refine fq_get K hK cl_Recent hP 0 1 rfl (by decide) wd_384 rfl dc_Recent_at_14 ?_
      refine lv_bipush (v := 8) K.1 K.2.1 dc_Recent_at_17 (by decide) ?_
      refine lv_isub K.1 K.2.1 dc_Recent_at_19 ?_
      refine lv_icmp_ge (tgt := 27) K.1 K.2.1 dc_Recent_at_20 rfl (fun b20 => ?_) (fun b20 => ?_)
      · skip
        obtain ⟨k, hk, hx⟩ := nI_of b1
        refine lv_aload_n K.1 K.2.1 dc_Recent_at_27 rfl (lv_at hl 0 rfl) ?_
        refine fq_get K hK cl_Recent hP 0 0 rfl (by decide) wd_383 rfl dc_Recent_at_28 ?_
        refine lv_iload_n K.1 K.2.1 dc_Recent_at_31 rfl (lv_at hl 1 rfl) ?_
        refine lv_bipush (v := 8) K.1 K.2.1 dc_Recent_at_32 (by decide) ?_
        refine lv_irem K.1 K.2.1 dc_Recent_at_34 (by decide) ?_
        refine fq_asi (y := nI (k % 8)) (by rw [hx]; exact rc_rem hk) ?_
        refine fq_ald K hK hP 1 rfl (vp_in_nI (Nat.mod_lt _ (by decide)) (by decide)) dc_Recent_at_35 ?_
        refine fq_asi (y := f (k % 8)) (by rw [nI_clamp (by omega)]) ?_
        exact fq_reti K hret hlk hS hP hD ⟨rfl, rc_at1 hrc hk hx b9 b20⟩ dc_Recent_at_36 (Nat.le_of_ble_eq_true rfl) (Nat.le_of_ble_eq_true rfl)
      · skip
        refine lv_iconst (v := 0) K.1 K.2.1 dc_Recent_at_23 (by decide) ?_
        refine lv_goto (tgt := 36) K.1 K.2.1 dc_Recent_at_24 rfl ?_
        exact fq_reti K hret hlk hS hP hD ⟨rfl, rc_at0 hrc (by first | exact Or.inl b1 | exact Or.inr (Or.inl b9) | exact Or.inr (Or.inr b20))⟩ dc_Recent_at_36 (Nat.le_of_ble_eq_true rfl) (Nat.le_of_ble_eq_true rfl)
set_option maxHeartbeats 4000000 in
set_option maxRecDepth 100000 in
theorem ct_Layout_init (l : Launch) (D : va_G) (cI cO : ClassId) (tE : Nat) (h : Nat) (sz : Nat) : Met l my_Layout_init (fq_w my_Layout_init cb_Layout_init 1 none) ({ frames := 1, cells := 0, slots := 0, locals := 12 }) (va_Pc ([.ref h]) (fq_Pre D cI cO tE sz ([(h, .inr (7, [.int 0, .int 0]))]))) (va_Qv (S := va_W) (fun w => w = [(h, .inr (7, [.int 2, .int 0]))]) (fq_Bw D (va_A ([(h, .inr (7, [.int 0, .int 0]))]) sz)) (va_A ([(h, .inr (7, [.int 0, .int 0]))]) sz)) (0) (0) (va_A ([(h, .inr (7, [.int 0, .int 0]))]) sz) := by
  refine fq_open (by decide +kernel) (Nat.le_of_ble_eq_true rfl) ?_
  intro pg ev s mt below meth cd ls K hret hlk hin hK hZ hP hD hA hS hl
  generalize va_A ([(h, .inr (7, [.int 0, .int 0]))]) sz = A at hZ hD hA hS ⊢
  have K : fq_Ctx pg mt cd cb_Layout_init 1 s _ cn_Layout := K
  have hin : meth.name = "<init>" := hin
  have hl : lv_has ls 1 [(0, .ref h)] := hl
  refine lv_aload_n K.1 K.2.1 dc_Layout_init_0 rfl (lv_at hl 0 rfl) ?_
  refine W.objInit K.1 K.2.1 K.2.2.2.1 (K.2.2.2.2 _ wd_126) (K.2.2.2.2 _ wd_54) (K.2.2.2.2 _ wd_55) rfl (by rw [K.2.2.1]; exact hl.1) rfl dc_Layout_init_1 (Nat.le_of_ble_eq_true rfl) (Nat.le_of_ble_eq_true rfl) ?_
  refine W.eq (g2 := F0 mt 4 ls []) rfl ?_
  refine lv_aload_n K.1 K.2.1 dc_Layout_init_4 rfl (lv_at hl 0 rfl) ?_
  refine lv_iconst (v := 2) K.1 K.2.1 dc_Layout_init_5 (by decide) ?_
  refine fq_put K hK cl_Layout hP hD hS 0 0 rfl (by decide) wd_127 rfl rfl rfl (Nat.le_of_ble_eq_true rfl) dc_Layout_init_6 (fun H locs hP hD hS => ?_)
  have hP : va_P D fq_cl ([(h, .inr (7, [.int 2, .int 0]))]) _ := hP
  have hD : va_D A ([(h, .inr (7, [.int 2, .int 0]))]) := hD
  exact fq_retv K hret hlk hS hP hD rfl dc_Layout_init_9 (Nat.le_of_ble_eq_true rfl) (Nat.le_of_ble_eq_true rfl)
set_option maxHeartbeats 4000000 in
set_option maxRecDepth 100000 in
theorem ct_Layout_choose (l : Launch) (D : va_G) (cI cO : ClassId) (tE : Nat) (h w : Nat) (b : Bool) (w2 : Nat) (b2 : Bool) (hw2 : w2 < 1000) (sz : Nat) : Met l my_Layout_choose (fq_w my_Layout_choose cb_Layout_choose 3 none) ({ frames := 0, cells := 0, slots := 0, locals := 0 }) (va_Pc ([.ref h, .int (nI (8 * w2)), .int (fq_b b2)]) (fq_Pre D cI cO tE sz ([(h, .inr (7, [.int (nI w), .int (fq_b b)]))]))) (va_Qv (S := va_W) (fun w => w = [(h, .inr (7, [.int (nI w2), .int (fq_b b2)]))]) (fq_Bw D (va_A ([(h, .inr (7, [.int (nI w), .int (fq_b b)]))]) sz)) (va_A ([(h, .inr (7, [.int (nI w), .int (fq_b b)]))]) sz)) (0) (0) (va_A ([(h, .inr (7, [.int (nI w), .int (fq_b b)]))]) sz) := by
  refine fq_open (by decide +kernel) (Nat.le_of_ble_eq_true rfl) ?_
  intro pg ev s mt below meth cd ls K hret hlk hin hK hZ hP hD hA hS hl
  generalize va_A ([(h, .inr (7, [.int (nI w), .int (fq_b b)]))]) sz = A at hZ hD hA hS ⊢
  have K : fq_Ctx pg mt cd cb_Layout_choose 3 s _ cn_Layout := K
  have hl : lv_has ls 3 [(0, .ref h), (1, .int (nI (8 * w2))), (2, .int (fq_b b2))] := hl
  refine lv_aload_n K.1 K.2.1 dc_Layout_choose_0 rfl (lv_at hl 0 rfl) ?_
  refine lv_iload_n K.1 K.2.1 dc_Layout_choose_1 rfl (lv_at hl 1 rfl) ?_
  refine lv_bipush (v := 8) K.1 K.2.1 dc_Layout_choose_2 (by decide) ?_
  refine lv_idiv K.1 K.2.1 dc_Layout_choose_4 (by decide) ?_
  refine fq_asi (y := nI w2) (ly_div hw2) ?_
  refine fq_put K hK cl_Layout hP hD hS 0 0 rfl (by decide) wd_127 rfl rfl rfl (Nat.le_of_ble_eq_true rfl) dc_Layout_choose_5 (fun H locs hP hD hS => ?_)
  have hP : va_P D fq_cl ([(h, .inr (7, [.int (nI w2), .int (fq_b b)]))]) _ := hP
  have hD : va_D A ([(h, .inr (7, [.int (nI w2), .int (fq_b b)]))]) := hD
  refine lv_aload_n K.1 K.2.1 dc_Layout_choose_8 rfl (lv_at hl 0 rfl) ?_
  refine lv_iload_n K.1 K.2.1 dc_Layout_choose_9 rfl (lv_at hl 2 rfl) ?_
  refine fq_put K hK cl_Layout hP hD hS 0 1 rfl (by decide) wd_130 rfl (fq_bn b2) (fq_bf b2) (Nat.le_of_ble_eq_true rfl) dc_Layout_choose_10 (fun H locs hP hD hS => ?_)
  have hP : va_P D fq_cl ([(h, .inr (7, [.int (nI w2), .int (fq_b b2)]))]) _ := hP
  have hD : va_D A ([(h, .inr (7, [.int (nI w2), .int (fq_b b2)]))]) := hD
  exact fq_retv K hret hlk hS hP hD rfl dc_Layout_choose_13 (Nat.le_of_ble_eq_true rfl) (Nat.le_of_ble_eq_true rfl)
set_option maxHeartbeats 4000000 in
set_option maxRecDepth 100000 in
theorem ct_Layout_shiftOf (l : Launch) (D : va_G) (cI cO : ClassId) (tE : Nat) (h w : Nat) (b : Bool) (k : Nat) (hk : k < w) (hw : w < 1000) (sz : Nat) : Met l my_Layout_shiftOf (fq_w my_Layout_shiftOf cb_Layout_shiftOf 2 (some .int)) ({ frames := 0, cells := 0, slots := 0, locals := 0 }) (va_Pc ([.ref h, .int (nI k)]) (fq_Pre D cI cO tE sz ([(h, .inr (7, [.int (nI w), .int (fq_b b)]))]))) (va_Qi (S := va_W) (fun r w' => w' = [(h, .inr (7, [.int (nI w), .int (fq_b b)]))] ∧ r = nI (ly_sh w b k)) (fq_Bw D (va_A ([(h, .inr (7, [.int (nI w), .int (fq_b b)]))]) sz)) (va_A ([(h, .inr (7, [.int (nI w), .int (fq_b b)]))]) sz)) (0) (0) (va_A ([(h, .inr (7, [.int (nI w), .int (fq_b b)]))]) sz) := by
  refine fq_open (by decide +kernel) (Nat.le_of_ble_eq_true rfl) ?_
  intro pg ev s mt below meth cd ls K hret hlk hin hK hZ hP hD hA hS hl
  generalize va_A ([(h, .inr (7, [.int (nI w), .int (fq_b b)]))]) sz = A at hZ hD hA hS ⊢
  have K : fq_Ctx pg mt cd cb_Layout_shiftOf 2 s _ cn_Layout := K
  have hl : lv_has ls 2 [(0, .ref h), (1, .int (nI k))] := hl
  refine lv_bipush (v := 8) K.1 K.2.1 dc_Layout_shiftOf_0 (by decide) ?_
  refine lv_aload_n K.1 K.2.1 dc_Layout_shiftOf_2 rfl (lv_at hl 0 rfl) ?_
  refine fq_get K hK cl_Layout hP 0 1 rfl (by decide) wd_130 rfl dc_Layout_shiftOf_3 ?_
  refine lv_if_eq (tgt := 20) K.1 K.2.1 dc_Layout_shiftOf_6 rfl (fun b6 => ?_) (fun b6 => ?_)
  · skip
    have hb := fq_b0 b6
    refine lv_iload_n K.1 K.2.1 dc_Layout_shiftOf_20 rfl (lv_at hl 1 rfl) ?_
    refine lv_imul K.1 K.2.1 dc_Layout_shiftOf_21 ?_
    exact fq_reti K hret hlk hS hP hD ⟨rfl, ly_sh0 hb⟩ dc_Layout_shiftOf_22 (Nat.le_of_ble_eq_true rfl) (Nat.le_of_ble_eq_true rfl)
  · skip
    have hb := fq_b1 b6
    refine lv_aload_n K.1 K.2.1 dc_Layout_shiftOf_9 rfl (lv_at hl 0 rfl) ?_
    refine fq_get K hK cl_Layout hP 0 0 rfl (by decide) wd_127 rfl dc_Layout_shiftOf_10 ?_
    refine lv_iconst (v := 1) K.1 K.2.1 dc_Layout_shiftOf_13 (by decide) ?_
    refine lv_isub K.1 K.2.1 dc_Layout_shiftOf_14 ?_
    refine lv_iload_n K.1 K.2.1 dc_Layout_shiftOf_15 rfl (lv_at hl 1 rfl) ?_
    refine lv_isub K.1 K.2.1 dc_Layout_shiftOf_16 ?_
    refine fq_asi (y := nI (w - 1 - k)) (ly_sub hk) ?_
    refine lv_goto (tgt := 21) K.1 K.2.1 dc_Layout_shiftOf_17 rfl ?_
    refine lv_imul K.1 K.2.1 dc_Layout_shiftOf_21 ?_
    exact fq_reti K hret hlk hS hP hD ⟨rfl, ly_sh1 hb⟩ dc_Layout_shiftOf_22 (Nat.le_of_ble_eq_true rfl) (Nat.le_of_ble_eq_true rfl)
