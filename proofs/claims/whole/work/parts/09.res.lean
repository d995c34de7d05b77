theorem wd_9 : Cond.selects cn_Resampler my_Resampler_dueUpTo my_Resampler_dueUpTo ∈ fq_TB := fq_in 9 (by decide +kernel) rfl
theorem wd_45 : Cond.initialized cn_Resampler ∈ fq_TB := fq_in 45 (by decide +kernel) rfl
theorem wd_179 : Cond.static my_Ma_max ∈ fq_TB := fq_in 179 (by decide +kernel) rfl
theorem wd_180 : Cond.code my_Ma_max cb_Ma_max 2 (some .int) ∈ fq_TB := fq_in 180 (by decide +kernel) rfl
theorem wd_421 : Cond.instanceMethod my_Resampler_init ∈ fq_TB := fq_in 421 (by decide +kernel) rfl
theorem wd_422 : Cond.code my_Resampler_init cb_Resampler_init 4 none ∈ fq_TB := fq_in 422 (by decide +kernel) rfl
theorem wn_423 : Cond.methodLinkNest cn_Resampler 3 my_Stage_init cn_FP ∈ lw_tbl := List.mem_of_getElem? (i := 423) (by decide +kernel)
theorem wd_424 : Cond.classLink cn_Resampler 9 cn_Recent ∈ fq_TB := fq_in 424 (by decide +kernel) rfl
theorem wn_425 : Cond.methodLinkNest cn_Resampler 11 my_Recent_init cn_FP ∈ lw_tbl := List.mem_of_getElem? (i := 425) (by decide +kernel)
theorem wd_426 : Cond.methodLink cn_Resampler 18 my_Resampler_commonDivisor ∈ fq_TB := fq_in 426 (by decide +kernel) rfl
theorem wd_427 : Cond.static my_Resampler_commonDivisor ∈ fq_TB := fq_in 427 (by decide +kernel) rfl
theorem wd_428 : Cond.code my_Resampler_commonDivisor cb_Resampler_commonDivisor 3 (some .int) ∈ fq_TB := fq_in 428 (by decide +kernel) rfl
theorem wd_429 : Cond.methodLink cn_Resampler 29 my_Ma_max ∈ fq_TB := fq_in 429 (by decide +kernel) rfl
theorem wd_430 : Cond.fieldLink cn_Resampler 22 cn_Resampler "up" "I" ∈ fq_TB := fq_in 430 (by decide +kernel) rfl
theorem wd_431 : Cond.fieldLink cn_Resampler 26 cn_Resampler "down" "I" ∈ fq_TB := fq_in 431 (by decide +kernel) rfl
theorem wd_432 : Cond.fieldLink cn_Resampler 34 cn_Resampler "reach" "I" ∈ fq_TB := fq_in 432 (by decide +kernel) rfl
theorem wd_433 : Cond.fieldLink cn_Resampler 12 cn_Resampler "recent" "LFilterPipe$Recent;" ∈ fq_TB := fq_in 433 (by decide +kernel) rfl
theorem wd_434 : Cond.fieldLink cn_Resampler 49 cn_Resampler "next" "I" ∈ fq_TB := fq_in 434 (by decide +kernel) rfl
theorem wd_524 : Cond.instanceMethod my_Resampler_clear ∈ fq_TB := fq_in 524 (by decide +kernel) rfl
theorem wd_525 : Cond.code my_Resampler_clear cb_Resampler_clear 1 none ∈ fq_TB := fq_in 525 (by decide +kernel) rfl
theorem wd_526 : Cond.methodLink cn_Resampler 66 my_Recent_forget ∈ fq_TB := fq_in 526 (by decide +kernel) rfl
theorem wd_620 : Cond.instanceMethod my_Resampler_take ∈ fq_TB := fq_in 620 (by decide +kernel) rfl
theorem wd_621 : Cond.code my_Resampler_take cb_Resampler_take 2 (some .int) ∈ fq_TB := fq_in 621 (by decide +kernel) rfl
theorem wd_622 : Cond.methodLink cn_Resampler 37 my_Recent_put ∈ fq_TB := fq_in 622 (by decide +kernel) rfl
theorem wd_626 : Cond.methodLink cn_Resampler 41 my_Recent_count ∈ fq_TB := fq_in 626 (by decide +kernel) rfl
theorem wd_630 : Cond.methodLink cn_Resampler 45 my_Resampler_dueUpTo ∈ fq_TB := fq_in 630 (by decide +kernel) rfl
theorem wd_632 : Cond.instanceMethod my_Resampler_dueUpTo ∈ fq_TB := fq_in 632 (by decide +kernel) rfl
theorem wd_633 : Cond.code my_Resampler_dueUpTo cb_Resampler_dueUpTo 2 (some .int) ∈ fq_TB := fq_in 633 (by decide +kernel) rfl
theorem wd_665 : Cond.instanceMethod my_Resampler_make ∈ fq_TB := fq_in 665 (by decide +kernel) rfl
theorem wd_666 : Cond.code my_Resampler_make cb_Resampler_make 6 (some .int) ∈ fq_TB := fq_in 666 (by decide +kernel) rfl
theorem wd_667 : Cond.methodLink cn_Resampler 52 my_Recent_at ∈ fq_TB := fq_in 667 (by decide +kernel) rfl
theorem wd_671 : Cond.methodLink cn_Resampler 55 my_Ma_abs ∈ fq_TB := fq_in 671 (by decide +kernel) rfl
theorem wd_672 : Cond.static my_Ma_abs ∈ fq_TB := fq_in 672 (by decide +kernel) rfl
theorem wd_673 : Cond.code my_Ma_abs cb_Ma_abs 1 (some .int) ∈ fq_TB := fq_in 673 (by decide +kernel) rfl
theorem wd_674 : Cond.methodLink cn_Resampler 58 my_Ma_floorDiv ∈ fq_TB := fq_in 674 (by decide +kernel) rfl
theorem wn_675 : Cond.methodLinkNest cn_Resampler 62 my_FP_clipped cn_FP ∈ lw_tbl := List.mem_of_getElem? (i := 675) (by decide +kernel)
theorem wd_698 : Cond.instanceMethod my_Resampler_finish ∈ fq_TB := fq_in 698 (by decide +kernel) rfl
theorem wd_699 : Cond.code my_Resampler_finish cb_Resampler_finish 1 (some .int) ∈ fq_TB := fq_in 699 (by decide +kernel) rfl

def rs_g (a b : Nat) : Nat := if a % 4 = 0 ∧ b % 4 = 0 then 4 else if a % 3 = 0 ∧ b % 3 = 0 then 3 else if a % 2 = 0 ∧ b % 2 = 0 then 2 else 1
theorem rs_gs {a b k : Nat} (h : 1 ≤ k ∧ k ≤ 4 ∧ ∀ j, k < j → j ≤ 4 → ¬ (a % j = 0 ∧ b % j = 0)) (hk : 1 < k) (hn : ¬ a % k = 0 ∨ ¬ b % k = 0) : 1 ≤ k - 1 ∧ k - 1 ≤ 4 ∧ ∀ j, k - 1 < j → j ≤ 4 → ¬ (a % j = 0 ∧ b % j = 0) := by
  refine ⟨by omega, by omega, fun j h1 h2 h3 => ?_⟩
  by_cases e : j = k
  · subst e; exact hn.elim (fun z => z h3.1) (fun z => z h3.2)
  · exact h.2.2 j (by omega) h2 h3
theorem rs_gf {a b k : Nat} (h : 1 ≤ k ∧ k ≤ 4 ∧ ∀ j, k < j → j ≤ 4 → ¬ (a % j = 0 ∧ b % j = 0)) (hk : 1 < k) (h1 : a % k = 0) (h2 : b % k = 0) : k = rs_g a b := by
  unfold rs_g
  have c : k = 2 ∨ k = 3 ∨ k = 4 := by omega
  rcases c with rfl | rfl | rfl
  · rw [if_neg (h.2.2 4 (by decide) (by decide)), if_neg (h.2.2 3 (by decide) (by decide)), if_pos ⟨h1, h2⟩]
  · rw [if_neg (h.2.2 4 (by decide) (by decide)), if_pos ⟨h1, h2⟩]
  · rw [if_pos ⟨h1, h2⟩]
theorem rs_g1 {a b k : Nat} (h : 1 ≤ k ∧ k ≤ 4 ∧ ∀ j, k < j → j ≤ 4 → ¬ (a % j = 0 ∧ b % j = 0)) (hk : k = 1) : 1 = rs_g a b := by
  subst hk
  unfold rs_g
  rw [if_neg (h.2.2 4 (by decide) (by decide)), if_neg (h.2.2 3 (by decide) (by decide)), if_neg (h.2.2 2 (by decide) (by decide))]
theorem rs_gb {a b : Nat} (ha : 1 ≤ a ∧ a ≤ 4) (hb : 1 ≤ b ∧ b ≤ 4) : 1 ≤ rs_g a b ∧ rs_g a b ≤ 4 ∧ (1 ≤ a / rs_g a b ∧ a / rs_g a b ≤ 4) ∧ (1 ≤ b / rs_g a b ∧ b / rs_g a b ≤ 4) := by
  obtain ⟨a1, a4⟩ := ha
  obtain ⟨b1, b4⟩ := hb
  have ca : a = 1 ∨ a = 2 ∨ a = 3 ∨ a = 4 := by omega
  have cb : b = 1 ∨ b = 2 ∨ b = 3 ∨ b = 4 := by omega
  rcases ca with rfl | rfl | rfl | rfl <;> rcases cb with rfl | rfl | rfl | rfl <;> decide
def rs_r (u d : Nat) : Nat := if u < d then d else u
theorem rs_rb {u d : Nat} (hu : 1 ≤ u ∧ u ≤ 4) (hd : 1 ≤ d ∧ d ≤ 4) : 1 ≤ rs_r u d ∧ rs_r u d ≤ 4 := by
  unfold rs_r; split <;> omega
theorem rs_mx {u d : Nat} (hu : 1 ≤ u ∧ u ≤ 4) (hd : 1 ≤ d ∧ d ≤ 4) : (if nI u < nI d then nI d else nI u) = nI (rs_r u d) := by
  unfold rs_r
  by_cases c : u < d
  · rw [if_pos c, if_pos (nI_lt c (by omega))]
  · rw [if_neg c, if_neg (nI_nlt (by omega) (by omega))]
theorem rs_max (u d : Nat) : fm_max (u : Int) (d : Int) = (rs_r u d : Int) := by
  unfold fm_max rs_r
  split <;> split <;> omega
def rs_ok (u d : Nat) (f : Nat → Int32) (sp : fm_S) (xs : List Int) (m : Nat) : Prop :=
  sp = (3, (u : Int), (d : Int), 0, 0, 0) ∧ fm_ok sp ∧ (∀ v ∈ xs, fm_in v) ∧ rc_ok f xs ∧ m < 300000
def sg_res (cI : ClassId) (h : Nat) (sp : fm_S) (xs : List Int) (m : Nat) (ws : va_W) : Prop :=
  ∃ (u d hr ha : Nat) (f : Nat → Int32), ws = [(h, .inr (5, [.int (nI u), .int (nI d), .int (nI (rs_r u d)), .ref hr, .int (nI (m * d))])), (hr, .inr (1, [.ref ha, .int (nI xs.length)])), (ha, .inl (cI, 8, .inl f))] ∧ rs_ok u d f sp xs m
theorem rs_ud {u d : Nat} {f : Nat → Int32} {sp : fm_S} {xs : List Int} {m : Nat} (h : rs_ok u d f sp xs m) : (1 ≤ u ∧ u ≤ 4) ∧ (1 ≤ d ∧ d ≤ 4) := by
  have e := h.1
  have k := h.2.1.2.2.2.2 (by rw [e])
  have e2 : sp.2.1 = (u : Int) := by rw [e]
  have e3 : sp.2.2.1 = (d : Int) := by rw [e]
  omega
theorem rs_new {a b : Nat} (hg : 1 ≤ rs_g a b ∧ rs_g a b ≤ 4 ∧ (1 ≤ a / rs_g a b ∧ a / rs_g a b ≤ 4) ∧ (1 ≤ b / rs_g a b ∧ b / rs_g a b ≤ 4)) : rs_ok (a / rs_g a b) (b / rs_g a b) (fun _ => 0) (3, ((a / rs_g a b : Nat) : Int), ((b / rs_g a b : Nat) : Int), 0, 0, 0) [] 0 := by
  generalize a / rs_g a b = u at hg ⊢
  generalize b / rs_g a b = d at hg ⊢
  refine ⟨rfl, ⟨(by decide : 3 ≤ 3), fun z => absurd (show 3 = 0 from z) (by decide), fun z => absurd (show 3 = 1 from z) (by decide), fun z => absurd (show 3 = 2 from z) (by decide), fun _ => ⟨⟨?_, ?_⟩, ?_, ?_⟩⟩, fun _ z => absurd z List.not_mem_nil, rc_nil, by decide⟩
  · show (1 : Int) ≤ (u : Int); omega
  · show (u : Int) ≤ 4; omega
  · show (1 : Int) ≤ (d : Int); omega
  · show (d : Int) ≤ 4; omega
theorem rs_nil {u d : Nat} {f : Nat → Int32} {sp : fm_S} {xs : List Int} {m : Nat} (h : rs_ok u d f sp xs m) : rs_ok u d f sp [] 0 := ⟨h.1, h.2.1, fun _ z => absurd z List.not_mem_nil, rc_nil, by decide⟩
theorem rs_next {u d : Nat} {f : Nat → Int32} {sp : fm_S} {xs : List Int} {m n : Nat} (h : rs_ok u d f sp xs m) (hn : n < 300000) : rs_ok u d f sp xs n := ⟨h.1, h.2.1, h.2.2.1, h.2.2.2.1, hn⟩
theorem rs_tk {u d : Nat} {f f2 : Nat → Int32} {sp : fm_S} {xs : List Int} {m : Nat} {x : Int32} (h : rs_ok u d f sp xs m) (hx : fm_in x.toInt) (hr : rc_ok f2 (xs ++ [x.toInt])) : rs_ok u d f2 sp (xs ++ [x.toInt]) m := ⟨h.1, h.2.1, fm_in_app h.2.2.1 hx, hr, h.2.2.2.2⟩
theorem rs_due0 {t d m : Nat} (hd : 1 ≤ d) (h : ¬ m * d ≤ t) : (0 : Int32) = nI (t / d + 1 - m) := by
  have e : t / d < m := (Nat.div_lt_iff_lt_mul (by omega)).mpr (by omega)
  rw [show t / d + 1 - m = 0 by omega, nI_0]
theorem rs_due1 {t d m : Nat} (hd : 1 ≤ d) (h : m * d ≤ t) : (t - m * d) / d + 1 = t / d + 1 - m := by
  have e1 : t - m * d + m * d = t := Nat.sub_add_cancel h
  have e2 : (t - m * d + m * d) / d = (t - m * d) / d + m := Nat.add_mul_div_right _ _ (by omega)
  rw [e1] at e2
  generalize (t - m * d) / d = X at e2 ⊢
  generalize t / d = Y at e2 ⊢
  omega
theorem rs_mk {u d : Nat} {f : Nat → Int32} {sp : fm_S} {xs : List Int} {m : Nat} (h : rs_ok u d f sp xs m) (fl : Bool) {n : Nat} (hn : 0 < n) : fm_m sp fl n = if fl then (n * u + 2 * rs_r u d - 3) / d + 1 else (n * u + d - 1) / d := by
  have k3 : sp.1 = 3 := by rw [h.1]
  have e1 : sp.2.1 = (u : Int) := by rw [h.1]
  have e2 : sp.2.2.1 = (d : Int) := by rw [h.1]
  unfold fm_m
  rw [if_neg (by omega), if_neg (by omega), e1, e2, rs_max]
  rfl
theorem rs_take1 {u d : Nat} {f : Nat → Int32} {sp : fm_S} {xs : List Int} {m : Nat} (h : rs_ok u d f sp xs m) (h1 : 1 ≤ (xs.length + 1) * u) : ((xs.length + 1) * u - 1) / d + 1 - m = fm_m sp false (xs.length + 1) - m := by
  have hud := rs_ud h
  rw [rs_mk h false (by omega), if_neg (by decide), show (xs.length + 1) * u + d - 1 = ((xs.length + 1) * u - 1) + d by omega, Nat.add_div_right _ (by omega)]
theorem rs_fin0 {u d : Nat} {f : Nat → Int32} {sp : fm_S} {xs : List Int} {m : Nat} (h : rs_ok u d f sp xs m) (hn : xs.length = 0) : (0 : Int32) = nI (fm_m sp true xs.length - m) := by
  rw [hn, show fm_m sp true 0 = 0 from if_pos (Or.inl rfl), Nat.zero_sub, nI_0]
theorem rs_fin1 {u d : Nat} {f : Nat → Int32} {sp : fm_S} {xs : List Int} {m : Nat} (h : rs_ok u d f sp xs m) (hn : 0 < xs.length) : (xs.length * u + 2 * rs_r u d - 3) / d + 1 - m = fm_m sp true xs.length - m := by
  rw [rs_mk h true hn, if_pos rfl]
theorem rs_pl {m d k r : Nat} {p : Int32} (hmd : m * d ≤ 300000 * 4) (hk : k < 2 * r - 1) (hr : 1 ≤ r ∧ r ≤ 4) (e : p = nI (m * d) - nI k) : p.toInt = (m : Int) * d - k ∧ k ≤ 6 := by
  rw [e, pk_sub_toInt (by omega) (by omega), Int.natCast_mul]
  omega
theorem rs_rem {p : Int32} {u : Nat} (hu : 1 ≤ u ∧ u ≤ 4) : p - p / nI u * nI u = 0 ↔ p.toInt % (u : Int) = 0 := by
  have e1 : (nI u).toInt = (u : Int) := nI_toInt (by omega)
  have hd : (p / nI u).toInt = p.toInt.tdiv u := by rw [Kit.i32_div (fun z => by omega), e1]
  have hb := Int32.le_toInt p
  have hb2 := Int32.toInt_lt p
  have ht : p.toInt.tdiv u * u + p.toInt.tmod u = p.toInt := by rw [Int.mul_comm]; exact Int.mul_tdiv_add_tmod _ _
  have hm := tmod_bounds (a := p.toInt) (M := (u : Int)) (by omega)
  have hsgn : (p.toInt.tmod u = 0) ↔ p.toInt % (u : Int) = 0 := by
    rw [← Int.dvd_iff_emod_eq_zero, ← Int.dvd_iff_tmod_eq_zero]
  rw [← hsgn, ← Int32.toInt_inj, Int32.toInt_zero]
  have hx : -2 ^ 31 ≤ p.toInt.tdiv u * u ∧ p.toInt.tdiv u * u < 2 ^ 31 := by
    have := Int.tmod_nonneg (a := p.toInt) (u : Int)
    by_cases z : p.toInt < 0
    · have h2 := Int.tmod_nonneg (a := -p.toInt) (u : Int) (by omega)
      rw [Int.neg_tmod] at h2
      omega
    · have h2 := Int.tmod_nonneg (a := p.toInt) (u : Int) (by omega)
      omega
  have e2 : (p / nI u * nI u).toInt = p.toInt.tdiv u * u := by rw [Kit.i32_mul (by rw [hd, e1]; exact hx.1) (by rw [hd, e1]; exact hx.2), hd, e1]
  rw [Kit.i32_sub (by rw [e2]; omega) (by rw [e2]; omega), e2]
  omega
theorem rs_u0 {u d : Nat} {f : Nat → Int32} {sp : fm_S} {xs : List Int} {m k : Nat} {p : Int32} (h : rs_ok u d f sp xs m) (hp : p.toInt = (m : Int) * d - k ∧ k ≤ 6) (hz : ¬ p - p / nI u * nI u = 0) : (0 : Int32).toInt = fm_u (u : Int) xs ((m : Int) * d - k) := by
  rw [rs_rem (rs_ud h).1, hp.1] at hz
  unfold fm_u
  rw [if_neg (fun z => hz z.2)]
  rfl
theorem rs_u1 {u d : Nat} {f : Nat → Int32} {sp : fm_S} {xs : List Int} {m k : Nat} {p r : Int32} {N : Nat} (h : rs_ok u d f sp xs m) (hm : xs.length * u ≤ m * d + u) (hk : k < N) (hp : p.toInt = (m : Int) * d - k ∧ k ≤ 6) (hz : p - p / nI u * nI u = 0) (hr : r.toInt = rc_at xs (p / nI u).toInt) : r.toInt = fm_u (u : Int) xs ((m : Int) * d - k) := by
  have hu := (rs_ud h).1
  rw [rs_rem hu] at hz
  have e1 : (nI u).toInt = (u : Int) := nI_toInt (by omega)
  have hd : (p / nI u).toInt = p.toInt / u := by
    rw [Kit.i32_div (fun z => by omega), e1]
    rcases fn_td (a := p.toInt) (b := (u : Int)) (by omega) with z | z | z
    · exact z.2
    · exact z.2.2
    · exact absurd (Int.dvd_of_emod_eq_zero hz) z.1
  rw [hd] at hr
  rw [hp.1] at hr hz
  unfold fm_u
  by_cases c : 0 ≤ (m : Int) * d - k
  · rw [if_pos ⟨c, hz⟩, hr, rc_at_x]
    apply Int.le_ediv_of_mul_le (by omega)
    have hm' : (xs.length : Int) * u ≤ (m : Int) * d + u := by
      have : ((xs.length * u : Nat) : Int) ≤ ((m * d + u : Nat) : Int) := by omega
      rw [Int.natCast_mul, Int.natCast_add, Int.natCast_mul] at this
      exact this
    rw [Int.sub_mul]
    omega
  · rw [if_neg (fun z => c z.1), hr, rc_at, if_pos (Or.inl (Int.ediv_neg_of_neg_of_pos (by omega) (by omega)))]
theorem rs_far {r k : Nat} (hr : 1 ≤ r ∧ r ≤ 4) (hk : k < 2 * r - 1) : (nI r - (if 0 ≤ nI k - (nI r - 1) then nI k - (nI r - 1) else 0 - (nI k - (nI r - 1)))).toInt = fm_far (r : Int) k ∧ 0 ≤ fm_far (r : Int) k ∧ fm_far (r : Int) k ≤ 4 := by
  have e0 : nI r - 1 = nI (r - 1) := pk_sub (a := r) (b := 1) (by omega)
  have e1 : (nI k - nI (r - 1)).toInt = (k : Int) - (r - 1 : Nat) := pk_sub_toInt (by omega) (by omega)
  have er : (nI r).toInt = (r : Int) := nI_toInt (by omega)
  rw [e0]
  unfold fm_far
  by_cases c : r - 1 ≤ k
  · rw [if_pos (by rw [Kit.i32_nonneg, e1]; omega), Kit.i32_sub (by rw [er, e1]; omega) (by rw [er, e1]; omega), er, e1, if_neg (by omega)]
    omega
  · have e2 : (0 - (nI k - nI (r - 1))).toInt = (r - 1 : Nat) - (k : Int) := by
      rw [Kit.i32_sub (by rw [e1, Int32.toInt_zero]; omega) (by rw [e1, Int32.toInt_zero]; omega), e1, Int32.toInt_zero]; omega
    rw [if_neg (by rw [Kit.i32_nonneg, e1]; omega), Kit.i32_sub (by rw [er, e2]; omega) (by rw [er, e2]; omega), er, e2, if_pos (by omega)]
    omega
theorem fm_u_in {up : Int} {xs : List Int} {p : Int} (h : ∀ v ∈ xs, fm_in v) : fm_in (fm_u up xs p) := by
  unfold fm_u
  split
  · exact fm_x_in h _
  · unfold fm_in; omega
theorem fm_far_b {r : Nat} (hr : 1 ≤ r ∧ r ≤ 4) {k : Nat} (hk : k < 2 * r - 1) : 0 ≤ fm_far (r : Int) k ∧ fm_far (r : Int) k ≤ 4 := (rs_far hr hk).2
theorem rs_sb {u r m d : Nat} {xs : List Int} (hr : 1 ≤ r ∧ r ≤ 4) (hx : ∀ v ∈ xs, fm_in v) {k : Nat} (hk : k ≤ 2 * r - 1) : (fm_sum (fun i => fm_far (r : Int) i * fm_u (u : Int) xs ((m : Int) * d - i)) k).natAbs ≤ 7 * 33554432 := by
  have bs : ∀ j, j < k → -33554432 ≤ fm_far (r : Int) j * fm_u (u : Int) xs ((m : Int) * d - j) ∧ fm_far (r : Int) j * fm_u (u : Int) xs ((m : Int) * d - j) ≤ 33554432 := fun j hj => by
    have h1 := fm_far_b hr (show j < 2 * r - 1 by omega)
    have h2 := fm_u_in (up := (u : Int)) (p := (m : Int) * d - j) hx
    unfold fm_in at h2
    have h3 := fn_bd (a := fm_far (r : Int) j) (b := fm_u (u : Int) xs ((m : Int) * d - j)) (A := 4) (B := 8388608) (by omega) (by omega)
    omega
  have b1 := fm_sum_le (f := fun i => fm_far (r : Int) i * fm_u (u : Int) xs ((m : Int) * d - i)) (B := 33554432) (n := k) (fun j hj => (bs j hj).2)
  have b2 := fm_sum_ge (f := fun i => fm_far (r : Int) i * fm_u (u : Int) xs ((m : Int) * d - i)) (B := -33554432) (n := k) (fun j hj => (bs j hj).1)
  have hk7 : k ≤ 7 := by omega
  omega
theorem rs_add {u d : Nat} {f : Nat → Int32} {sp : fm_S} {xs : List Int} {m k : Nat} {v v2 : Int64} {z : Int32} (h : rs_ok u d f sp xs m) (hk : k < 2 * rs_r u d - 1) (hi : k ≤ 2 * rs_r u d - 1 ∧ v.toInt = fm_sum (fun i => fm_far (rs_r u d : Int) i * fm_u (u : Int) xs ((m : Int) * d - i)) k)
    (hv : v2 = v + (nI (rs_r u d) - (if 0 ≤ nI k - (nI (rs_r u d) - 1) then nI k - (nI (rs_r u d) - 1) else 0 - (nI k - (nI (rs_r u d) - 1)))).toInt64 * z.toInt64) (hz : z.toInt = fm_u (u : Int) xs ((m : Int) * d - k)) :
    k + 1 ≤ 2 * rs_r u d - 1 ∧ v2.toInt = fm_sum (fun i => fm_far (rs_r u d : Int) i * fm_u (u : Int) xs ((m : Int) * d - i)) (k + 1) := by
  have hud := rs_ud h
  have hrr := rs_rb hud.1 hud.2
  obtain ⟨f1, f2, f3⟩ := rs_far hrr hk
  have hin : fm_in z.toInt := by rw [hz]; exact fm_u_in h.2.2.1
  generalize (nI (rs_r u d) - (if 0 ≤ nI k - (nI (rs_r u d) - 1) then nI k - (nI (rs_r u d) - 1) else 0 - (nI k - (nI (rs_r u d) - 1)))) = w at hv f1
  obtain ⟨p0, q0⟩ := fn_pr (b := w) (x := z) (by omega) hin
  have hs := rs_sb (u := u) (m := m) (d := d) hrr h.2.2.1 (k := k) (by omega)
  refine ⟨hk, ?_⟩
  rw [hv, Kit.i64_add (by rw [hi.2, p0]; omega) (by rw [hi.2, p0]; omega), hi.2, p0, f1, hz]
  rfl
theorem rs_pos {r : Nat} (hr : 1 ≤ r ∧ r ≤ 4) : 0 < ((nI r).toInt64 * (nI r).toInt64).toInt := by
  have c : r = 1 ∨ r = 2 ∨ r = 3 ∨ r = 4 := by omega
  rcases c with rfl | rfl | rfl | rfl <;> decide
theorem rs_val {u d : Nat} {f : Nat → Int32} {sp : fm_S} {xs : List Int} {m k : Nat} {v q : Int64} {r : Int32} (h : rs_ok u d f sp xs m) (hk : k = 2 * rs_r u d - 1) (hi : k ≤ 2 * rs_r u d - 1 ∧ v.toInt = fm_sum (fun i => fm_far (rs_r u d : Int) i * fm_u (u : Int) xs ((m : Int) * d - i)) k)
    (hq : q.toInt = ((nI u).toInt64 * v).toInt / ((nI (rs_r u d)).toInt64 * (nI (rs_r u d)).toInt64).toInt) (hr : r.toInt = fm_clip q.toInt) : r.toInt = fm_y sp xs m := by
  have hud := rs_ud h
  have hrr := rs_rb hud.1 hud.2
  have hs := rs_sb (u := u) (m := m) (d := d) hrr h.2.2.1 (k := k) (by omega)
  rw [← hi.2] at hs
  have eu : (nI u).toInt64.toInt = (u : Int) := by rw [Kit.i64_of_i32, nI_toInt (by omega)]
  have er : (nI (rs_r u d)).toInt64.toInt = (rs_r u d : Int) := by rw [Kit.i64_of_i32, nI_toInt (by omega)]
  have h3 := fn_bd (a := (u : Int)) (b := v.toInt) (A := 4) (B := 7 * 33554432) (by omega) hs
  have h4 := fn_bd (a := (rs_r u d : Int)) (b := (rs_r u d : Int)) (A := 4) (B := 4) (by omega) (by omega)
  rw [Kit.i64_mul (by rw [eu]; omega) (by rw [eu]; omega), Kit.i64_mul (by rw [er]; omega) (by rw [er]; omega), eu, er, hi.2] at hq
  have k3 : sp.1 = 3 := by rw [h.1]
  have e1 : sp.2.1 = (u : Int) := by rw [h.1]
  have e2 : sp.2.2.1 = (d : Int) := by rw [h.1]
  unfold fm_y
  rw [if_neg (by omega), if_neg (by omega), if_neg (by omega), hr, hq, e1, e2, rs_max, hk, show (2 * (rs_r u d : Int) - 1).toNat = 2 * rs_r u d - 1 by omega]

theorem dc_Resampler_init_0 : decode cb_Resampler_init 0 = .ok (.aload_n 0, 1) := by decide +kernel
theorem dc_Resampler_init_1 : decode cb_Resampler_init 1 = .ok (.invokespecial 3, 3) := by decide +kernel
theorem dc_Resampler_init_4 : decode cb_Resampler_init 4 = .ok (.aload_n 0, 1) := by decide +kernel
theorem dc_Resampler_init_5 : decode cb_Resampler_init 5 = .ok (.new 9, 3) := by decide +kernel
theorem dc_Resampler_init_8 : decode cb_Resampler_init 8 = .ok (.dup, 1) := by decide +kernel
theorem dc_Resampler_init_9 : decode cb_Resampler_init 9 = .ok (.invokespecial 11, 3) := by decide +kernel
theorem dc_Resampler_init_12 : decode cb_Resampler_init 12 = .ok (.putfield 12, 3) := by decide +kernel
theorem dc_Resampler_init_15 : decode cb_Resampler_init 15 = .ok (.iload_n 1, 1) := by decide +kernel
theorem dc_Resampler_init_16 : decode cb_Resampler_init 16 = .ok (.iload_n 2, 1) := by decide +kernel
theorem dc_Resampler_init_17 : decode cb_Resampler_init 17 = .ok (.invokestatic 18, 3) := by decide +kernel
theorem dc_Resampler_init_20 : decode cb_Resampler_init 20 = .ok (.istore_n 3, 1) := by decide +kernel
theorem dc_Resampler_init_21 : decode cb_Resampler_init 21 = .ok (.aload_n 0, 1) := by decide +kernel
theorem dc_Resampler_init_22 : decode cb_Resampler_init 22 = .ok (.iload_n 1, 1) := by decide +kernel
theorem dc_Resampler_init_23 : decode cb_Resampler_init 23 = .ok (.iload_n 3, 1) := by decide +kernel
theorem dc_Resampler_init_24 : decode cb_Resampler_init 24 = .ok (.idiv, 1) := by decide +kernel
theorem dc_Resampler_init_25 : decode cb_Resampler_init 25 = .ok (.putfield 22, 3) := by decide +kernel
theorem dc_Resampler_init_28 : decode cb_Resampler_init 28 = .ok (.aload_n 0, 1) := by decide +kernel
theorem dc_Resampler_init_29 : decode cb_Resampler_init 29 = .ok (.iload_n 2, 1) := by decide +kernel
theorem dc_Resampler_init_30 : decode cb_Resampler_init 30 = .ok (.iload_n 3, 1) := by decide +kernel
theorem dc_Resampler_init_31 : decode cb_Resampler_init 31 = .ok (.idiv, 1) := by decide +kernel
theorem dc_Resampler_init_32 : decode cb_Resampler_init 32 = .ok (.putfield 26, 3) := by decide +kernel
theorem dc_Resampler_init_35 : decode cb_Resampler_init 35 = .ok (.aload_n 0, 1) := by decide +kernel
theorem dc_Resampler_init_36 : decode cb_Resampler_init 36 = .ok (.aload_n 0, 1) := by decide +kernel
theorem dc_Resampler_init_37 : decode cb_Resampler_init 37 = .ok (.getfield 22, 3) := by decide +kernel
theorem dc_Resampler_init_40 : decode cb_Resampler_init 40 = .ok (.aload_n 0, 1) := by decide +kernel
theorem dc_Resampler_init_41 : decode cb_Resampler_init 41 = .ok (.getfield 26, 3) := by decide +kernel
theorem dc_Resampler_init_44 : decode cb_Resampler_init 44 = .ok (.invokestatic 29, 3) := by decide +kernel
theorem dc_Resampler_init_47 : decode cb_Resampler_init 47 = .ok (.putfield 34, 3) := by decide +kernel
theorem dc_Resampler_init_50 : decode cb_Resampler_init 50 = .ok (.return_, 1) := by decide +kernel
theorem yk_Resampler_init : fq_Y my_Resampler_init cb_Resampler_init 4 none 2 := ⟨wd_422, wd_45, by decide +kernel⟩
theorem dc_Resampler_commonDivisor_0 : decode cb_Resampler_commonDivisor 0 = .ok (.iconst 4, 1) := by decide +kernel
theorem dc_Resampler_commonDivisor_1 : decode cb_Resampler_commonDivisor 1 = .ok (.istore_n 2, 1) := by decide +kernel
theorem dc_Resampler_commonDivisor_2 : decode cb_Resampler_commonDivisor 2 = .ok (.iload_n 2, 1) := by decide +kernel
theorem dc_Resampler_commonDivisor_3 : decode cb_Resampler_commonDivisor 3 = .ok (.iconst 1, 1) := by decide +kernel
theorem dc_Resampler_commonDivisor_4 : decode cb_Resampler_commonDivisor 4 = .ok (.if_icmp .le 23, 3) := by decide +kernel
theorem dc_Resampler_commonDivisor_7 : decode cb_Resampler_commonDivisor 7 = .ok (.iload_n 0, 1) := by decide +kernel
theorem dc_Resampler_commonDivisor_8 : decode cb_Resampler_commonDivisor 8 = .ok (.iload_n 2, 1) := by decide +kernel
theorem dc_Resampler_commonDivisor_9 : decode cb_Resampler_commonDivisor 9 = .ok (.irem, 1) := by decide +kernel
theorem dc_Resampler_commonDivisor_10 : decode cb_Resampler_commonDivisor 10 = .ok (.ifCond .ne 11, 3) := by decide +kernel
theorem dc_Resampler_commonDivisor_13 : decode cb_Resampler_commonDivisor 13 = .ok (.iload_n 1, 1) := by decide +kernel
theorem dc_Resampler_commonDivisor_14 : decode cb_Resampler_commonDivisor 14 = .ok (.iload_n 2, 1) := by decide +kernel
theorem dc_Resampler_commonDivisor_15 : decode cb_Resampler_commonDivisor 15 = .ok (.irem, 1) := by decide +kernel
theorem dc_Resampler_commonDivisor_16 : decode cb_Resampler_commonDivisor 16 = .ok (.ifCond .ne 5, 3) := by decide +kernel
theorem dc_Resampler_commonDivisor_19 : decode cb_Resampler_commonDivisor 19 = .ok (.iload_n 2, 1) := by decide +kernel
theorem dc_Resampler_commonDivisor_20 : decode cb_Resampler_commonDivisor 20 = .ok (.ireturn, 1) := by decide +kernel
theorem dc_Resampler_commonDivisor_21 : decode cb_Resampler_commonDivisor 21 = .ok (.iinc 2 (-1), 3) := by decide +kernel
theorem dc_Resampler_commonDivisor_24 : decode cb_Resampler_commonDivisor 24 = .ok (.goto (-22), 3) := by decide +kernel
theorem dc_Resampler_commonDivisor_27 : decode cb_Resampler_commonDivisor 27 = .ok (.iconst 1, 1) := by decide +kernel
theorem dc_Resampler_commonDivisor_28 : decode cb_Resampler_commonDivisor 28 = .ok (.ireturn, 1) := by decide +kernel
theorem yk_Resampler_commonDivisor : fq_Y my_Resampler_commonDivisor cb_Resampler_commonDivisor 3 (some .int) 2 := ⟨wd_428, wd_45, by decide +kernel⟩
theorem dc_Resampler_dueUpTo_0 : decode cb_Resampler_dueUpTo 0 = .ok (.iload_n 1, 1) := by decide +kernel
theorem dc_Resampler_dueUpTo_1 : decode cb_Resampler_dueUpTo 1 = .ok (.aload_n 0, 1) := by decide +kernel
theorem dc_Resampler_dueUpTo_2 : decode cb_Resampler_dueUpTo 2 = .ok (.getfield 49, 3) := by decide +kernel
theorem dc_Resampler_dueUpTo_5 : decode cb_Resampler_dueUpTo 5 = .ok (.if_icmp .ge 7, 3) := by decide +kernel
theorem dc_Resampler_dueUpTo_8 : decode cb_Resampler_dueUpTo 8 = .ok (.iconst 0, 1) := by decide +kernel
theorem dc_Resampler_dueUpTo_9 : decode cb_Resampler_dueUpTo 9 = .ok (.goto 16, 3) := by decide +kernel
theorem dc_Resampler_dueUpTo_12 : decode cb_Resampler_dueUpTo 12 = .ok (.iload_n 1, 1) := by decide +kernel
theorem dc_Resampler_dueUpTo_13 : decode cb_Resampler_dueUpTo 13 = .ok (.aload_n 0, 1) := by decide +kernel
theorem dc_Resampler_dueUpTo_14 : decode cb_Resampler_dueUpTo 14 = .ok (.getfield 49, 3) := by decide +kernel
theorem dc_Resampler_dueUpTo_17 : decode cb_Resampler_dueUpTo 17 = .ok (.isub, 1) := by decide +kernel
theorem dc_Resampler_dueUpTo_18 : decode cb_Resampler_dueUpTo 18 = .ok (.aload_n 0, 1) := by decide +kernel
theorem dc_Resampler_dueUpTo_19 : decode cb_Resampler_dueUpTo 19 = .ok (.getfield 26, 3) := by decide +kernel
theorem dc_Resampler_dueUpTo_22 : decode cb_Resampler_dueUpTo 22 = .ok (.idiv, 1) := by decide +kernel
theorem dc_Resampler_dueUpTo_23 : decode cb_Resampler_dueUpTo 23 = .ok (.iconst 1, 1) := by decide +kernel
theorem dc_Resampler_dueUpTo_24 : decode cb_Resampler_dueUpTo 24 = .ok (.iadd, 1) := by decide +kernel
theorem dc_Resampler_dueUpTo_25 : decode cb_Resampler_dueUpTo 25 = .ok (.ireturn, 1) := by decide +kernel
theorem yk_Resampler_dueUpTo : fq_Y my_Resampler_dueUpTo cb_Resampler_dueUpTo 2 (some .int) 1 := ⟨wd_633, wd_45, by decide +kernel⟩
theorem dc_Resampler_take_0 : decode cb_Resampler_take 0 = .ok (.aload_n 0, 1) := by decide +kernel
theorem dc_Resampler_take_1 : decode cb_Resampler_take 1 = .ok (.getfield 12, 3) := by decide +kernel
theorem dc_Resampler_take_4 : decode cb_Resampler_take 4 = .ok (.iload_n 1, 1) := by decide +kernel
theorem dc_Resampler_take_5 : decode cb_Resampler_take 5 = .ok (.invokevirtual 37, 3) := by decide +kernel
theorem dc_Resampler_take_8 : decode cb_Resampler_take 8 = .ok (.aload_n 0, 1) := by decide +kernel
theorem dc_Resampler_take_9 : decode cb_Resampler_take 9 = .ok (.aload_n 0, 1) := by decide +kernel
theorem dc_Resampler_take_10 : decode cb_Resampler_take 10 = .ok (.getfield 12, 3) := by decide +kernel
theorem dc_Resampler_take_13 : decode cb_Resampler_take 13 = .ok (.invokevirtual 41, 3) := by decide +kernel
theorem dc_Resampler_take_16 : decode cb_Resampler_take 16 = .ok (.aload_n 0, 1) := by decide +kernel
theorem dc_Resampler_take_17 : decode cb_Resampler_take 17 = .ok (.getfield 22, 3) := by decide +kernel
theorem dc_Resampler_take_20 : decode cb_Resampler_take 20 = .ok (.imul, 1) := by decide +kernel
theorem dc_Resampler_take_21 : decode cb_Resampler_take 21 = .ok (.iconst 1, 1) := by decide +kernel
theorem dc_Resampler_take_22 : decode cb_Resampler_take 22 = .ok (.isub, 1) := by decide +kernel
theorem dc_Resampler_take_23 : decode cb_Resampler_take 23 = .ok (.invokevirtual 45, 3) := by decide +kernel
theorem dc_Resampler_take_26 : decode cb_Resampler_take 26 = .ok (.ireturn, 1) := by decide +kernel
theorem yk_Resampler_take : fq_Y my_Resampler_take cb_Resampler_take 2 (some .int) 1 := ⟨wd_621, wd_45, by decide +kernel⟩
theorem dc_Resampler_finish_0 : decode cb_Resampler_finish 0 = .ok (.aload_n 0, 1) := by decide +kernel
theorem dc_Resampler_finish_1 : decode cb_Resampler_finish 1 = .ok (.getfield 12, 3) := by decide +kernel
theorem dc_Resampler_finish_4 : decode cb_Resampler_finish 4 = .ok (.invokevirtual 41, 3) := by decide +kernel
theorem dc_Resampler_finish_7 : decode cb_Resampler_finish 7 = .ok (.ifCond .ne 7, 3) := by decide +kernel
theorem dc_Resampler_finish_10 : decode cb_Resampler_finish 10 = .ok (.iconst 0, 1) := by decide +kernel
theorem dc_Resampler_finish_11 : decode cb_Resampler_finish 11 = .ok (.goto 28, 3) := by decide +kernel
theorem dc_Resampler_finish_14 : decode cb_Resampler_finish 14 = .ok (.aload_n 0, 1) := by decide +kernel
theorem dc_Resampler_finish_15 : decode cb_Resampler_finish 15 = .ok (.aload_n 0, 1) := by decide +kernel
theorem dc_Resampler_finish_16 : decode cb_Resampler_finish 16 = .ok (.getfield 12, 3) := by decide +kernel
theorem dc_Resampler_finish_19 : decode cb_Resampler_finish 19 = .ok (.invokevirtual 41, 3) := by decide +kernel
theorem dc_Resampler_finish_22 : decode cb_Resampler_finish 22 = .ok (.aload_n 0, 1) := by decide +kernel
theorem dc_Resampler_finish_23 : decode cb_Resampler_finish 23 = .ok (.getfield 22, 3) := by decide +kernel
theorem dc_Resampler_finish_26 : decode cb_Resampler_finish 26 = .ok (.imul, 1) := by decide +kernel
theorem dc_Resampler_finish_27 : decode cb_Resampler_finish 27 = .ok (.iconst 2, 1) := by decide +kernel
theorem dc_Resampler_finish_28 : decode cb_Resampler_finish 28 = .ok (.aload_n 0, 1) := by decide +kernel
theorem dc_Resampler_finish_29 : decode cb_Resampler_finish 29 = .ok (.getfield 34, 3) := by decide +kernel
theorem dc_Resampler_finish_32 : decode cb_Resampler_finish 32 = .ok (.imul, 1) := by decide +kernel
theorem dc_Resampler_finish_33 : decode cb_Resampler_finish 33 = .ok (.iadd, 1) := by decide +kernel
theorem dc_Resampler_finish_34 : decode cb_Resampler_finish 34 = .ok (.iconst 3, 1) := by decide +kernel
theorem dc_Resampler_finish_35 : decode cb_Resampler_finish 35 = .ok (.isub, 1) := by decide +kernel
theorem dc_Resampler_finish_36 : decode cb_Resampler_finish 36 = .ok (.invokevirtual 45, 3) := by decide +kernel
theorem dc_Resampler_finish_39 : decode cb_Resampler_finish 39 = .ok (.ireturn, 1) := by decide +kernel
theorem yk_Resampler_finish : fq_Y my_Resampler_finish cb_Resampler_finish 1 (some .int) 0 := ⟨wd_699, wd_45, by decide +kernel⟩
theorem dc_Resampler_make_0 : decode cb_Resampler_make 0 = .ok (.lconst 0, 1) := by decide +kernel
theorem dc_Resampler_make_1 : decode cb_Resampler_make 1 = .ok (.lstore_n 1, 1) := by decide +kernel
theorem dc_Resampler_make_2 : decode cb_Resampler_make 2 = .ok (.iconst 0, 1) := by decide +kernel
theorem dc_Resampler_make_3 : decode cb_Resampler_make 3 = .ok (.istore_n 3, 1) := by decide +kernel
theorem dc_Resampler_make_4 : decode cb_Resampler_make 4 = .ok (.iload_n 3, 1) := by decide +kernel
theorem dc_Resampler_make_5 : decode cb_Resampler_make 5 = .ok (.iconst 2, 1) := by decide +kernel
theorem dc_Resampler_make_6 : decode cb_Resampler_make 6 = .ok (.aload_n 0, 1) := by decide +kernel
theorem dc_Resampler_make_7 : decode cb_Resampler_make 7 = .ok (.getfield 34, 3) := by decide +kernel
theorem dc_Resampler_make_10 : decode cb_Resampler_make 10 = .ok (.imul, 1) := by decide +kernel
theorem dc_Resampler_make_11 : decode cb_Resampler_make 11 = .ok (.iconst 2, 1) := by decide +kernel
theorem dc_Resampler_make_12 : decode cb_Resampler_make 12 = .ok (.isub, 1) := by decide +kernel
theorem dc_Resampler_make_13 : decode cb_Resampler_make 13 = .ok (.if_icmp .gt 71, 3) := by decide +kernel
theorem dc_Resampler_make_16 : decode cb_Resampler_make 16 = .ok (.aload_n 0, 1) := by decide +kernel
theorem dc_Resampler_make_17 : decode cb_Resampler_make 17 = .ok (.getfield 49, 3) := by decide +kernel
theorem dc_Resampler_make_20 : decode cb_Resampler_make 20 = .ok (.iload_n 3, 1) := by decide +kernel
theorem dc_Resampler_make_21 : decode cb_Resampler_make 21 = .ok (.isub, 1) := by decide +kernel
theorem dc_Resampler_make_22 : decode cb_Resampler_make 22 = .ok (.istore 4, 2) := by decide +kernel
theorem dc_Resampler_make_24 : decode cb_Resampler_make 24 = .ok (.iload 4, 2) := by decide +kernel
theorem dc_Resampler_make_26 : decode cb_Resampler_make 26 = .ok (.aload_n 0, 1) := by decide +kernel
theorem dc_Resampler_make_27 : decode cb_Resampler_make 27 = .ok (.getfield 22, 3) := by decide +kernel
theorem dc_Resampler_make_30 : decode cb_Resampler_make 30 = .ok (.irem, 1) := by decide +kernel
theorem dc_Resampler_make_31 : decode cb_Resampler_make 31 = .ok (.ifCond .ne 20, 3) := by decide +kernel
theorem dc_Resampler_make_34 : decode cb_Resampler_make 34 = .ok (.aload_n 0, 1) := by decide +kernel
theorem dc_Resampler_make_35 : decode cb_Resampler_make 35 = .ok (.getfield 12, 3) := by decide +kernel
theorem dc_Resampler_make_38 : decode cb_Resampler_make 38 = .ok (.iload 4, 2) := by decide +kernel
theorem dc_Resampler_make_40 : decode cb_Resampler_make 40 = .ok (.aload_n 0, 1) := by decide +kernel
theorem dc_Resampler_make_41 : decode cb_Resampler_make 41 = .ok (.getfield 22, 3) := by decide +kernel
theorem dc_Resampler_make_44 : decode cb_Resampler_make 44 = .ok (.idiv, 1) := by decide +kernel
theorem dc_Resampler_make_45 : decode cb_Resampler_make 45 = .ok (.invokevirtual 52, 3) := by decide +kernel
theorem dc_Resampler_make_48 : decode cb_Resampler_make 48 = .ok (.goto 4, 3) := by decide +kernel
theorem dc_Resampler_make_51 : decode cb_Resampler_make 51 = .ok (.iconst 0, 1) := by decide +kernel
theorem dc_Resampler_make_52 : decode cb_Resampler_make 52 = .ok (.istore 5, 2) := by decide +kernel
theorem dc_Resampler_make_54 : decode cb_Resampler_make 54 = .ok (.lload_n 1, 1) := by decide +kernel
theorem dc_Resampler_make_55 : decode cb_Resampler_make 55 = .ok (.aload_n 0, 1) := by decide +kernel
theorem dc_Resampler_make_56 : decode cb_Resampler_make 56 = .ok (.getfield 34, 3) := by decide +kernel
theorem dc_Resampler_make_59 : decode cb_Resampler_make 59 = .ok (.iload_n 3, 1) := by decide +kernel
theorem dc_Resampler_make_60 : decode cb_Resampler_make 60 = .ok (.aload_n 0, 1) := by decide +kernel
theorem dc_Resampler_make_61 : decode cb_Resampler_make 61 = .ok (.getfield 34, 3) := by decide +kernel
theorem dc_Resampler_make_64 : decode cb_Resampler_make 64 = .ok (.iconst 1, 1) := by decide +kernel
theorem dc_Resampler_make_65 : decode cb_Resampler_make 65 = .ok (.isub, 1) := by decide +kernel
theorem dc_Resampler_make_66 : decode cb_Resampler_make 66 = .ok (.isub, 1) := by decide +kernel
theorem dc_Resampler_make_67 : decode cb_Resampler_make 67 = .ok (.invokestatic 55, 3) := by decide +kernel
theorem dc_Resampler_make_70 : decode cb_Resampler_make 70 = .ok (.isub, 1) := by decide +kernel
theorem dc_Resampler_make_71 : decode cb_Resampler_make 71 = .ok (.i2l, 1) := by decide +kernel
theorem dc_Resampler_make_72 : decode cb_Resampler_make 72 = .ok (.iload 5, 2) := by decide +kernel
theorem dc_Resampler_make_74 : decode cb_Resampler_make 74 = .ok (.i2l, 1) := by decide +kernel
theorem dc_Resampler_make_75 : decode cb_Resampler_make 75 = .ok (.lmul, 1) := by decide +kernel
theorem dc_Resampler_make_76 : decode cb_Resampler_make 76 = .ok (.ladd, 1) := by decide +kernel
theorem dc_Resampler_make_77 : decode cb_Resampler_make 77 = .ok (.lstore_n 1, 1) := by decide +kernel
theorem dc_Resampler_make_78 : decode cb_Resampler_make 78 = .ok (.iinc 3 1, 3) := by decide +kernel
theorem dc_Resampler_make_81 : decode cb_Resampler_make 81 = .ok (.goto (-77), 3) := by decide +kernel
theorem dc_Resampler_make_84 : decode cb_Resampler_make 84 = .ok (.aload_n 0, 1) := by decide +kernel
theorem dc_Resampler_make_85 : decode cb_Resampler_make 85 = .ok (.dup, 1) := by decide +kernel
theorem dc_Resampler_make_86 : decode cb_Resampler_make 86 = .ok (.getfield 49, 3) := by decide +kernel
theorem dc_Resampler_make_89 : decode cb_Resampler_make 89 = .ok (.aload_n 0, 1) := by decide +kernel
theorem dc_Resampler_make_90 : decode cb_Resampler_make 90 = .ok (.getfield 26, 3) := by decide +kernel
theorem dc_Resampler_make_93 : decode cb_Resampler_make 93 = .ok (.iadd, 1) := by decide +kernel
theorem dc_Resampler_make_94 : decode cb_Resampler_make 94 = .ok (.putfield 49, 3) := by decide +kernel
theorem dc_Resampler_make_97 : decode cb_Resampler_make 97 = .ok (.aload_n 0, 1) := by decide +kernel
theorem dc_Resampler_make_98 : decode cb_Resampler_make 98 = .ok (.getfield 22, 3) := by decide +kernel
theorem dc_Resampler_make_101 : decode cb_Resampler_make 101 = .ok (.i2l, 1) := by decide +kernel
theorem dc_Resampler_make_102 : decode cb_Resampler_make 102 = .ok (.lload_n 1, 1) := by decide +kernel
theorem dc_Resampler_make_103 : decode cb_Resampler_make 103 = .ok (.lmul, 1) := by decide +kernel
theorem dc_Resampler_make_104 : decode cb_Resampler_make 104 = .ok (.aload_n 0, 1) := by decide +kernel
theorem dc_Resampler_make_105 : decode cb_Resampler_make 105 = .ok (.getfield 34, 3) := by decide +kernel
theorem dc_Resampler_make_108 : decode cb_Resampler_make 108 = .ok (.i2l, 1) := by decide +kernel
theorem dc_Resampler_make_109 : decode cb_Resampler_make 109 = .ok (.aload_n 0, 1) := by decide +kernel
theorem dc_Resampler_make_110 : decode cb_Resampler_make 110 = .ok (.getfield 34, 3) := by decide +kernel
theorem dc_Resampler_make_113 : decode cb_Resampler_make 113 = .ok (.i2l, 1) := by decide +kernel
theorem dc_Resampler_make_114 : decode cb_Resampler_make 114 = .ok (.lmul, 1) := by decide +kernel
theorem dc_Resampler_make_115 : decode cb_Resampler_make 115 = .ok (.invokestatic 58, 3) := by decide +kernel
theorem dc_Resampler_make_118 : decode cb_Resampler_make 118 = .ok (.invokestatic 62, 3) := by decide +kernel
theorem dc_Resampler_make_121 : decode cb_Resampler_make 121 = .ok (.ireturn, 1) := by decide +kernel
theorem yk_Resampler_make : fq_Y my_Resampler_make cb_Resampler_make 6 (some .int) 0 := ⟨wd_666, wd_45, by decide +kernel⟩
theorem dc_Resampler_clear_0 : decode cb_Resampler_clear 0 = .ok (.aload_n 0, 1) := by decide +kernel
theorem dc_Resampler_clear_1 : decode cb_Resampler_clear 1 = .ok (.getfield 12, 3) := by decide +kernel
theorem dc_Resampler_clear_4 : decode cb_Resampler_clear 4 = .ok (.invokevirtual 66, 3) := by decide +kernel
theorem dc_Resampler_clear_7 : decode cb_Resampler_clear 7 = .ok (.aload_n 0, 1) := by decide +kernel
theorem dc_Resampler_clear_8 : decode cb_Resampler_clear 8 = .ok (.iconst 0, 1) := by decide +kernel
theorem dc_Resampler_clear_9 : decode cb_Resampler_clear 9 = .ok (.putfield 49, 3) := by decide +kernel
theorem dc_Resampler_clear_12 : decode cb_Resampler_clear 12 = .ok (.return_, 1) := by decide +kernel
theorem yk_Resampler_clear : fq_Y my_Resampler_clear cb_Resampler_clear 1 none 0 := ⟨wd_525, wd_45, by decide +kernel⟩
set_option maxHeartbeats 4000000 in
set_option maxRecDepth 100000 in
theorem ct_Resampler_commonDivisor (l : Launch) (D : va_G) (cI cO : ClassId) (tE : Nat) (a b : Nat) (ha : 1 ≤ a ∧ a ≤ 4) (hb : 1 ≤ b ∧ b ≤ 4) (sz : Nat) : Met l my_Resampler_commonDivisor (fq_w my_Resampler_commonDivisor cb_Resampler_commonDivisor 3 (some .int)) ({ frames := 0, cells := 0, slots := 0, locals := 0 }) (va_Pc ([.int (nI a), .int (nI b)]) (fq_Pre D cI cO tE sz ([]))) (va_Qi (S := va_W) (fun r w => w = [] ∧ r = nI (rs_g a b)) (fq_Bw D (va_A ([]) sz)) (va_A ([]) sz)) (0) (0) (va_A ([]) sz) := by
  refine fq_open (by decide +kernel) (Nat.le_of_ble_eq_true rfl) ?_
  intro pg ev s mt below meth cd ls K hret hlk hin hK hZ hP hD hA hS hl
  generalize va_A ([]) sz = A at hZ hD hA hS ⊢
  have K : fq_Ctx pg mt cd cb_Resampler_commonDivisor 3 s _ cn_Resampler := K
  have hl : lv_has ls 3 [(0, .int (nI a)), (1, .int (nI b))] := hl
  refine lv_iconst (v := 4) K.1 K.2.1 dc_Resampler_commonDivisor_0 (by decide) ?_
  refine lv_istore_n K.1 K.2.1 dc_Resampler_commonDivisor_1 rfl hl (by decide) rfl (fun ls hl => ?_)
  have hl : lv_has ls 3 [(2, .int 4), (0, .int (nI a)), (1, .int (nI b))] := hl
  refine fq_lp (σ := Nat) (fun x => x) (fun x H locs ls => (1 ≤ x ∧ x ≤ 4 ∧ ∀ j, x < j → j ≤ 4 → ¬ (a % j = 0 ∧ b % j = 0)) ∧ lv_has ls 3 [(0, .int (nI a)), (1, .int (nI b)), (2, .int (nI x))] ∧ va_P D fq_cl ([]) H ∧ va_D A ([]) ∧ va_S A s.heap H locs) ?_ (4) _ _ _ ⟨⟨by decide, by decide, fun j h1 h2 => by omega⟩, lv_sub hl [1, 2, 0] rfl, hP, hD, hS⟩
  rintro k H locs ls ⟨hI2, hl, hP, hD, hS⟩ ih2
  have hI2 : 1 ≤ k ∧ k ≤ 4 ∧ ∀ j, k < j → j ≤ 4 → ¬ (a % j = 0 ∧ b % j = 0) := hI2
  have hl : lv_has ls 3 [(0, .int (nI a)), (1, .int (nI b)), (2, .int (nI k))] := hl
  have hP : va_P D fq_cl ([]) _ := hP
  have hD : va_D A ([]) := hD
  refine lv_iload_n K.1 K.2.1 dc_Resampler_commonDivisor_2 rfl (lv_at hl 2 rfl) ?_
  refine lv_iconst (v := 1) K.1 K.2.1 dc_Resampler_commonDivisor_3 (by decide) ?_
  refine lv_icmp_le (tgt := 27) K.1 K.2.1 dc_Resampler_commonDivisor_4 rfl (fun b4 => ?_) (fun b4 => ?_)
  · skip
    have hk : k = 1 := by rw [show (1 : Int32) = nI 1 from rfl, nI_leI (by omega) (by decide)] at b4; omega
    refine lv_iconst (v := 1) K.1 K.2.1 dc_Resampler_commonDivisor_27 (by decide) ?_
    exact fq_reti K hret hlk hS hP hD ⟨rfl, congrArg nI (rs_g1 hI2 hk)⟩ dc_Resampler_commonDivisor_28 (Nat.le_of_ble_eq_true rfl) (Nat.le_of_ble_eq_true rfl)
  · skip
    have hk : 1 < k := by rw [show (1 : Int32) = nI 1 from rfl, nI_leI (by omega) (by decide)] at b4; omega
    refine lv_iload_n K.1 K.2.1 dc_Resampler_commonDivisor_7 rfl (lv_at hl 0 rfl) ?_
    refine lv_iload_n K.1 K.2.1 dc_Resampler_commonDivisor_8 rfl (lv_at hl 2 rfl) ?_
    refine lv_irem K.1 K.2.1 dc_Resampler_commonDivisor_9 (nI_ne0 (by omega) (by omega)) ?_
    refine fq_asi (y := nI (a % k)) (pk_rem (by omega) (by omega) (by omega)) ?_
    refine lv_if_ne (tgt := 21) K.1 K.2.1 dc_Resampler_commonDivisor_10 rfl (fun b10 => ?_) (fun b10 => ?_)
    · skip
      have hz : a % k < 4 := by have := Nat.mod_lt a (show 0 < k by omega); omega
      have b10 : ¬ a % k = 0 := fun z => b10 (by rw [z, nI_0])
      refine lv_iinc (v := nI (k - 1)) K.1 K.2.1 dc_Resampler_commonDivisor_21 hl (k := 2) rfl (by rw [show Int32.ofInt (-1) = (-1 : Int32) by decide]; exact sb_m1 (by omega)) (by decide) rfl (fun ls hl => ?_)
      have hl : lv_has ls 3 [(2, .int (nI (k - 1))), (0, .int (nI a)), (1, .int (nI b))] := hl
      refine lv_goto (tgt := 2) K.1 K.2.1 dc_Resampler_commonDivisor_24 rfl ?_
      exact ih2 (k - 1) _ _ _ (by show k - 1 < k; omega) ⟨rs_gs hI2 hk (by first | exact Or.inl b10 | exact Or.inr b16), lv_sub hl [1, 2, 0] rfl, hP, hD, hS⟩
    · skip
      have hz : a % k < 4 := by have := Nat.mod_lt a (show 0 < k by omega); omega
      have b10 : a % k = 0 := (nI_eq (by omega) (by decide)).mp (b10.trans nI_0.symm)
      refine lv_iload_n K.1 K.2.1 dc_Resampler_commonDivisor_13 rfl (lv_at hl 1 rfl) ?_
      refine lv_iload_n K.1 K.2.1 dc_Resampler_commonDivisor_14 rfl (lv_at hl 2 rfl) ?_
      refine lv_irem K.1 K.2.1 dc_Resampler_commonDivisor_15 (nI_ne0 (by omega) (by omega)) ?_
      refine fq_asi (y := nI (b % k)) (pk_rem (by omega) (by omega) (by omega)) ?_
      refine lv_if_ne (tgt := 21) K.1 K.2.1 dc_Resampler_commonDivisor_16 rfl (fun b16 => ?_) (fun b16 => ?_)
      · skip
        have hz : b % k < 4 := by have := Nat.mod_lt b (show 0 < k by omega); omega
        have b16 : ¬ b % k = 0 := fun z => b16 (by rw [z, nI_0])
        refine lv_iinc (v := nI (k - 1)) K.1 K.2.1 dc_Resampler_commonDivisor_21 hl (k := 2) rfl (by rw [show Int32.ofInt (-1) = (-1 : Int32) by decide]; exact sb_m1 (by omega)) (by decide) rfl (fun ls hl => ?_)
        have hl : lv_has ls 3 [(2, .int (nI (k - 1))), (0, .int (nI a)), (1, .int (nI b))] := hl
        refine lv_goto (tgt := 2) K.1 K.2.1 dc_Resampler_commonDivisor_24 rfl ?_
        exact ih2 (k - 1) _ _ _ (by show k - 1 < k; omega) ⟨rs_gs hI2 hk (by first | exact Or.inl b10 | exact Or.inr b16), lv_sub hl [1, 2, 0] rfl, hP, hD, hS⟩
      · skip
        have hz : b % k < 4 := by have := Nat.mod_lt b (show 0 < k by omega); omega
        have b16 : b % k = 0 := (nI_eq (by omega) (by decide)).mp (b16.trans nI_0.symm)
        refine lv_iload_n K.1 K.2.1 dc_Resampler_commonDivisor_19 rfl (lv_at hl 2 rfl) ?_
        exact fq_reti K hret hlk hS hP hD ⟨rfl, congrArg nI (rs_gf hI2 hk b10 b16)⟩ dc_Resampler_commonDivisor_20 (Nat.le_of_ble_eq_true rfl) (Nat.le_of_ble_eq_true rfl)
set_option maxHeartbeats 4000000 in
set_option maxRecDepth 100000 in
theorem ct_Resampler_init (l : Launch) (D : va_G) (cI cO : ClassId) (tE : Nat) (h a b : Nat) (ha : 1 ≤ a ∧ a ≤ 4) (hb : 1 ≤ b ∧ b ≤ 4) (sz : Nat) : Met l my_Resampler_init (fq_w my_Resampler_init cb_Resampler_init 4 none) ({ frames := 2, cells := 2, slots := 10, locals := 32 }) (va_Pc ([.ref h, .int (nI a), .int (nI b)]) (fq_Pre D cI cO tE sz ([(h, .inr (5, [.int 0, .int 0, .int 0, .null, .int 0]))]))) (va_Qv (S := va_W) (fun w => sg_res cI h (3, ((a / rs_g a b : Nat) : Int), ((b / rs_g a b : Nat) : Int), 0, 0, 0) [] 0 w) (fq_Bw D (va_A ([(h, .inr (5, [.int 0, .int 0, .int 0, .null, .int 0]))]) sz)) (va_A ([(h, .inr (5, [.int 0, .int 0, .int 0, .null, .int 0]))]) sz)) (2) (10) (va_A ([(h, .inr (5, [.int 0, .int 0, .int 0, .null, .int 0]))]) sz) := by
  refine fq_open (by decide +kernel) (Nat.le_of_ble_eq_true rfl) ?_
  intro pg ev s mt below meth cd ls K hret hlk hin hK hZ hP hD hA hS hl
  generalize va_A ([(h, .inr (5, [.int 0, .int 0, .int 0, .null, .int 0]))]) sz = A at hZ hD hA hS ⊢
  have K : fq_Ctx pg mt cd cb_Resampler_init 4 s _ cn_Resampler := K
  have hin : meth.name = "<init>" := hin
  have hl : lv_has ls 4 [(0, .ref h), (1, .int (nI a)), (2, .int (nI b))] := hl
  have hg := rs_gb ha hb
  refine lv_aload_n K.1 K.2.1 dc_Resampler_init_0 rfl (lv_at hl 0 rfl) ?_
  have hc := fq_cut.of (wc := []) hP hD hS hA [] (by decide) rfl
  refine fq_cv (wr := [(h, .inr (5, [.int 0, .int 0, .int 0, .null, .int 0]))]) (fq_rIN K hK hZ hS hc (ct_Stage_init l D cI cO tE h _) yk_Stage_init wd_238 rfl wn_423 ⟨⟨rfl, rfl⟩, ⟨Nat.le_of_ble_eq_true rfl, Nat.le_of_ble_eq_true rfl⟩, ⟨Nat.le_of_ble_eq_true rfl, Nat.le_of_ble_eq_true rfl⟩⟩ hl.1 rfl (Nat.le_of_ble_eq_true rfl) dc_Resampler_init_1) hP hD hS hc [] [0] rfl rfl (by decide) (by decide) (fun  w H locs hw1 hP hD hS => ?_)
  subst hw1
  have hP : va_P D fq_cl ([(h, .inr (5, [.int 0, .int 0, .int 0, .null, .int 0]))]) _ := hP
  have hD : va_D A ([(h, .inr (5, [.int 0, .int 0, .int 0, .null, .int 0]))]) := hD
  refine lv_aload_n K.1 K.2.1 dc_Resampler_init_4 rfl (lv_at hl 0 rfl) ?_
  refine fq_new (fs := [.null, .int 0]) K hK cl_Recent wd_424 wd_378 wd_44 hP hD hS hA (by decide) (Nat.le_of_ble_eq_true rfl) (Nat.le_of_ble_eq_true rfl) dc_Resampler_init_5 (fun q1 H hP hD hS => ?_)
  have hP : va_P D fq_cl ([(h, .inr (5, [.int 0, .int 0, .int 0, .null, .int 0])), (q1, .inr (1, [.null, .int 0]))]) _ := hP
  have hD : va_D A ([(h, .inr (5, [.int 0, .int 0, .int 0, .null, .int 0])), (q1, .inr (1, [.null, .int 0]))]) := hD
  refine lv_dup K.1 K.2.1 dc_Resampler_init_8 rfl ?_
  have hc := fq_cut.of (wc := [(q1, .inr (1, [.null, .int 0]))]) hP hD hS hA [1] (by decide) rfl
  refine fq_cv (wr := [(h, .inr (5, [.int 0, .int 0, .int 0, .null, .int 0]))]) (fq_rIN K hK hZ hS hc (ct_Recent_init l D cI cO tE q1 _) yk_Recent_init wd_380 rfl wn_425 ⟨⟨rfl, rfl⟩, ⟨Nat.le_of_ble_eq_true rfl, Nat.le_of_ble_eq_true rfl⟩, ⟨Nat.le_of_ble_eq_true rfl, Nat.le_of_ble_eq_true rfl⟩⟩ hl.1 rfl (Nat.le_of_ble_eq_true rfl) dc_Resampler_init_9) hP hD hS hc [1] [0] rfl rfl (by decide) (by decide) (fun  w H locs hw2 hP hD hS => ?_)
  obtain ⟨q2, rfl⟩ := hw2
  have hP : va_P D fq_cl ([(h, .inr (5, [.int 0, .int 0, .int 0, .null, .int 0])), (q1, .inr (1, [.ref q2, .int 0])), (q2, .inl (cI, 8, .inl (fun _ => 0)))]) _ := hP
  have hD : va_D A ([(h, .inr (5, [.int 0, .int 0, .int 0, .null, .int 0])), (q1, .inr (1, [.ref q2, .int 0])), (q2, .inl (cI, 8, .inl (fun _ => 0)))]) := hD
  refine fq_putF K hK cl_Resampler hP hD hS hin 0 3 rfl (by decide) wd_433 rfl rfl rfl rfl (Nat.le_of_ble_eq_true rfl) dc_Resampler_init_12 (fun H locs hP hD hS => ?_)
  have hP : va_P D fq_cl ([(h, .inr (5, [.int 0, .int 0, .int 0, .ref q1, .int 0])), (q1, .inr (1, [.ref q2, .int 0])), (q2, .inl (cI, 8, .inl (fun _ => 0)))]) _ := hP
  have hD : va_D A ([(h, .inr (5, [.int 0, .int 0, .int 0, .ref q1, .int 0])), (q1, .inr (1, [.ref q2, .int 0])), (q2, .inl (cI, 8, .inl (fun _ => 0)))]) := hD
  refine lv_iload_n K.1 K.2.1 dc_Resampler_init_15 rfl (lv_at hl 1 rfl) ?_
  refine lv_iload_n K.1 K.2.1 dc_Resampler_init_16 rfl (lv_at hl 2 rfl) ?_
  have hc := fq_cut.of (wc := []) hP hD hS hA [] (by decide) rfl
  refine fq_ci (wr := [(h, .inr (5, [.int 0, .int 0, .int 0, .ref q1, .int 0])), (q1, .inr (1, [.ref q2, .int 0])), (q2, .inl (cI, 8, .inl (fun _ => 0)))]) (fq_rS K hK hZ hS hc (ct_Resampler_commonDivisor l D cI cO tE a b ha hb _) yk_Resampler_commonDivisor wd_427 wd_426 ⟨⟨rfl, rfl⟩, ⟨Nat.le_of_ble_eq_true rfl, Nat.le_of_ble_eq_true rfl⟩, ⟨Nat.le_of_ble_eq_true rfl, Nat.le_of_ble_eq_true rfl⟩⟩ hl.1 rfl (Nat.le_of_ble_eq_true rfl) dc_Resampler_init_17) hP hD hS hc [] [0, 1, 2] rfl rfl (by decide) (by decide) (fun r1 w H locs hw3 hP hD hS => ?_)
  obtain ⟨rfl, rfl⟩ := hw3
  have hP : va_P D fq_cl ([(h, .inr (5, [.int 0, .int 0, .int 0, .ref q1, .int 0])), (q1, .inr (1, [.ref q2, .int 0])), (q2, .inl (cI, 8, .inl (fun _ => 0)))]) _ := hP
  have hD : va_D A ([(h, .inr (5, [.int 0, .int 0, .int 0, .ref q1, .int 0])), (q1, .inr (1, [.ref q2, .int 0])), (q2, .inl (cI, 8, .inl (fun _ => 0)))]) := hD
  refine lv_istore_n K.1 K.2.1 dc_Resampler_init_20 rfl hl (by decide) rfl (fun ls hl => ?_)
  have hl : lv_has ls 4 [(3, .int (nI (rs_g a b))), (0, .ref h), (1, .int (nI a)), (2, .int (nI b))] := hl
  refine lv_aload_n K.1 K.2.1 dc_Resampler_init_21 rfl (lv_at hl 1 rfl) ?_
  refine lv_iload_n K.1 K.2.1 dc_Resampler_init_22 rfl (lv_at hl 2 rfl) ?_
  refine lv_iload_n K.1 K.2.1 dc_Resampler_init_23 rfl (lv_at hl 0 rfl) ?_
  refine lv_idiv K.1 K.2.1 dc_Resampler_init_24 (nI_ne0 (by omega) (by omega)) ?_
  refine fq_asi (y := nI (a / rs_g a b)) (pk_div (by omega) (by omega) (by omega)) ?_
  refine fq_putF K hK cl_Resampler hP hD hS hin 0 0 rfl (by decide) wd_430 rfl rfl rfl rfl (Nat.le_of_ble_eq_true rfl) dc_Resampler_init_25 (fun H locs hP hD hS => ?_)
  have hP : va_P D fq_cl ([(h, .inr (5, [.int (nI (a / rs_g a b)), .int 0, .int 0, .ref q1, .int 0])), (q1, .inr (1, [.ref q2, .int 0])), (q2, .inl (cI, 8, .inl (fun _ => 0)))]) _ := hP
  have hD : va_D A ([(h, .inr (5, [.int (nI (a / rs_g a b)), .int 0, .int 0, .ref q1, .int 0])), (q1, .inr (1, [.ref q2, .int 0])), (q2, .inl (cI, 8, .inl (fun _ => 0)))]) := hD
  refine lv_aload_n K.1 K.2.1 dc_Resampler_init_28 rfl (lv_at hl 1 rfl) ?_
  refine lv_iload_n K.1 K.2.1 dc_Resampler_init_29 rfl (lv_at hl 3 rfl) ?_
  refine lv_iload_n K.1 K.2.1 dc_Resampler_init_30 rfl (lv_at hl 0 rfl) ?_
  refine lv_idiv K.1 K.2.1 dc_Resampler_init_31 (nI_ne0 (by omega) (by omega)) ?_
  refine fq_asi (y := nI (b / rs_g a b)) (pk_div (by omega) (by omega) (by omega)) ?_
  refine fq_putF K hK cl_Resampler hP hD hS hin 0 1 rfl (by decide) wd_431 rfl rfl rfl rfl (Nat.le_of_ble_eq_true rfl) dc_Resampler_init_32 (fun H locs hP hD hS => ?_)
  have hP : va_P D fq_cl ([(h, .inr (5, [.int (nI (a / rs_g a b)), .int (nI (b / rs_g a b)), .int 0, .ref q1, .int 0])), (q1, .inr (1, [.ref q2, .int 0])), (q2, .inl (cI, 8, .inl (fun _ => 0)))]) _ := hP
  have hD : va_D A ([(h, .inr (5, [.int (nI (a / rs_g a b)), .int (nI (b / rs_g a b)), .int 0, .ref q1, .int 0])), (q1, .inr (1, [.ref q2, .int 0])), (q2, .inl (cI, 8, .inl (fun _ => 0)))]) := hD
  refine lv_aload_n K.1 K.2.1 dc_Resampler_init_35 rfl (lv_at hl 1 rfl) ?_
  refine lv_aload_n K.1 K.2.1 dc_Resampler_init_36 rfl (lv_at hl 1 rfl) ?_
  refine fq_get K hK cl_Resampler hP 0 0 rfl (by decide) wd_430 rfl dc_Resampler_init_37 ?_
  refine lv_aload_n K.1 K.2.1 dc_Resampler_init_40 rfl (lv_at hl 1 rfl) ?_
  refine fq_get K hK cl_Resampler hP 0 1 rfl (by decide) wd_431 rfl dc_Resampler_init_41 ?_
  refine va_mmax K.1 K.2.1 (K.2.2.1.trans hl.1.symm) K.2.2.2.1 (K.2.2.2.2 _ wd_429) (K.2.2.2.2 _ wd_179) (K.2.2.2.2 _ wd_35) (K.2.2.2.2 _ wd_180) (Nat.le_of_ble_eq_true rfl) (Nat.le_of_ble_eq_true rfl) (Nat.le_of_ble_eq_true rfl) (Nat.le_of_ble_eq_true rfl) dc_Resampler_init_44 ?_
  refine fq_asi (y := nI (rs_r (a / rs_g a b) (b / rs_g a b))) (rs_mx hg.2.2.1 hg.2.2.2) ?_
  refine fq_putF K hK cl_Resampler hP hD hS hin 0 2 rfl (by decide) wd_432 rfl rfl rfl rfl (Nat.le_of_ble_eq_true rfl) dc_Resampler_init_47 (fun H locs hP hD hS => ?_)
  have hP : va_P D fq_cl ([(h, .inr (5, [.int (nI (a / rs_g a b)), .int (nI (b / rs_g a b)), .int (nI (rs_r (a / rs_g a b) (b / rs_g a b))), .ref q1, .int 0])), (q1, .inr (1, [.ref q2, .int 0])), (q2, .inl (cI, 8, .inl (fun _ => 0)))]) _ := hP
  have hD : va_D A ([(h, .inr (5, [.int (nI (a / rs_g a b)), .int (nI (b / rs_g a b)), .int (nI (rs_r (a / rs_g a b) (b / rs_g a b))), .ref q1, .int 0])), (q1, .inr (1, [.ref q2, .int 0])), (q2, .inl (cI, 8, .inl (fun _ => 0)))]) := hD
  exact fq_retv K hret hlk hS hP hD ⟨_, _, _, _, _, by rw [Nat.zero_mul]; rfl, rs_new hg⟩ dc_Resampler_init_50 (Nat.le_of_ble_eq_true rfl) (Nat.le_of_ble_eq_true rfl)
set_option maxHeartbeats 4000000 in
set_option maxRecDepth 100000 in
theorem ct_Resampler_dueUpTo (l : Launch) (D : va_G) (cI cO : ClassId) (tE : Nat) (h u d m hr : Nat) (t : Nat) (hd : 1 ≤ d ∧ d ≤ 4) (hm : m < 300000) (ht : t < 100000000) (sz : Nat) : Met l my_Resampler_dueUpTo (fq_w my_Resampler_dueUpTo cb_Resampler_dueUpTo 2 (some .int)) ({ frames := 0, cells := 0, slots := 0, locals := 0 }) (va_Pc ([.ref h, .int (nI t)]) (fq_Pre D cI cO tE sz ([(h, .inr (5, [.int (nI u), .int (nI d), .int (nI (rs_r u d)), .ref hr, .int (nI (m * d))]))]))) (va_Qi (S := va_W) (fun r w => w = [(h, .inr (5, [.int (nI u), .int (nI d), .int (nI (rs_r u d)), .ref hr, .int (nI (m * d))]))] ∧ r = nI (t / d + 1 - m)) (fq_Bw D (va_A ([(h, .inr (5, [.int (nI u), .int (nI d), .int (nI (rs_r u d)), .ref hr, .int (nI (m * d))]))]) sz)) (va_A ([(h, .inr (5, [.int (nI u), .int (nI d), .int (nI (rs_r u d)), .ref hr, .int (nI (m * d))]))]) sz)) (0) (0) (va_A ([(h, .inr (5, [.int (nI u), .int (nI d), .int (nI (rs_r u d)), .ref hr, .int (nI (m * d))]))]) sz) := by
  refine fq_open (by decide +kernel) (Nat.le_of_ble_eq_true rfl) ?_
  intro pg ev s mt below meth cd ls K hret hlk hin hK hZ hP hD hA hS hl
  generalize va_A ([(h, .inr (5, [.int (nI u), .int (nI d), .int (nI (rs_r u d)), .ref hr, .int (nI (m * d))]))]) sz = A at hZ hD hA hS ⊢
  have K : fq_Ctx pg mt cd cb_Resampler_dueUpTo 2 s _ cn_Resampler := K
  have hl : lv_has ls 2 [(0, .ref h), (1, .int (nI t))] := hl
  have hmd : m * d ≤ 300000 * 4 := Nat.mul_le_mul (by omega) hd.2
  refine lv_iload_n K.1 K.2.1 dc_Resampler_dueUpTo_0 rfl (lv_at hl 1 rfl) ?_
  refine lv_aload_n K.1 K.2.1 dc_Resampler_dueUpTo_1 rfl (lv_at hl 0 rfl) ?_
  refine fq_get K hK cl_Resampler hP 0 4 rfl (by decide) wd_434 rfl dc_Resampler_dueUpTo_2 ?_
  refine lv_icmp_ge (tgt := 12) K.1 K.2.1 dc_Resampler_dueUpTo_5 rfl (fun b5 => ?_) (fun b5 => ?_)
  · skip
    have hle : m * d ≤ t := (nI_leI (by omega) (by omega)).mp b5
    refine lv_iload_n K.1 K.2.1 dc_Resampler_dueUpTo_12 rfl (lv_at hl 1 rfl) ?_
    refine lv_aload_n K.1 K.2.1 dc_Resampler_dueUpTo_13 rfl (lv_at hl 0 rfl) ?_
    refine fq_get K hK cl_Resampler hP 0 4 rfl (by decide) wd_434 rfl dc_Resampler_dueUpTo_14 ?_
    refine lv_isub K.1 K.2.1 dc_Resampler_dueUpTo_17 ?_
    refine fq_asi (y := nI (t - m * d)) (pk_sub hle) ?_
    refine lv_aload_n K.1 K.2.1 dc_Resampler_dueUpTo_18 rfl (lv_at hl 0 rfl) ?_
    refine fq_get K hK cl_Resampler hP 0 1 rfl (by decide) wd_431 rfl dc_Resampler_dueUpTo_19 ?_
    refine lv_idiv K.1 K.2.1 dc_Resampler_dueUpTo_22 (nI_ne0 (by omega) (by omega)) ?_
    refine fq_asi (y := nI ((t - m * d) / d)) (pk_div (by omega) (by omega) (by omega)) ?_
    refine lv_iconst (v := 1) K.1 K.2.1 dc_Resampler_dueUpTo_23 (by decide) ?_
    refine lv_iadd K.1 K.2.1 dc_Resampler_dueUpTo_24 ?_
    refine fq_asi (y := nI ((t - m * d) / d + 1)) (nI_1 _) ?_
    exact fq_reti K hret hlk hS hP hD ⟨rfl, congrArg nI (rs_due1 hd.1 hle)⟩ dc_Resampler_dueUpTo_25 (Nat.le_of_ble_eq_true rfl) (Nat.le_of_ble_eq_true rfl)
  · skip
    have hle : ¬ m * d ≤ t := fun z => b5 ((nI_leI (by omega) (by omega)).mpr z)
    refine lv_iconst (v := 0) K.1 K.2.1 dc_Resampler_dueUpTo_8 (by decide) ?_
    refine lv_goto (tgt := 25) K.1 K.2.1 dc_Resampler_dueUpTo_9 rfl ?_
    exact fq_reti K hret hlk hS hP hD ⟨rfl, rs_due0 hd.1 hle⟩ dc_Resampler_dueUpTo_25 (Nat.le_of_ble_eq_true rfl) (Nat.le_of_ble_eq_true rfl)
set_option maxHeartbeats 4000000 in
set_option maxRecDepth 100000 in
theorem ct_Resampler_take (l : Launch) (D : va_G) (cI cO : ClassId) (tE : Nat) (h u d hr ha : Nat) (f : Nat → Int32) (sp : fm_S) (xs : List Int) (m : Nat) (hrs : rs_ok u d f sp xs m) (x : Int32) (hx : fm_in x.toInt) (hlt : xs.length < 1000000) (sz : Nat) : Met l my_Resampler_take (fq_w my_Resampler_take cb_Resampler_take 2 (some .int)) ({ frames := 1, cells := 0, slots := 0, locals := 21 }) (va_Pc ([.ref h, .int x]) (fq_Pre D cI cO tE sz ([(h, .inr (5, [.int (nI u), .int (nI d), .int (nI (rs_r u d)), .ref hr, .int (nI (m * d))])), (hr, .inr (1, [.ref ha, .int (nI xs.length)])), (ha, .inl (cI, 8, .inl f))]))) (va_Qi (S := va_W) (fun r w => r = nI (fm_m sp false (xs.length + 1) - m) ∧ sg_res cI h sp (xs ++ [x.toInt]) m w) (fq_Bw D (va_A ([(h, .inr (5, [.int (nI u), .int (nI d), .int (nI (rs_r u d)), .ref hr, .int (nI (m * d))])), (hr, .inr (1, [.ref ha, .int (nI xs.length)])), (ha, .inl (cI, 8, .inl f))]) sz)) (va_A ([(h, .inr (5, [.int (nI u), .int (nI d), .int (nI (rs_r u d)), .ref hr, .int (nI (m * d))])), (hr, .inr (1, [.ref ha, .int (nI xs.length)])), (ha, .inl (cI, 8, .inl f))]) sz)) (0) (0) (va_A ([(h, .inr (5, [.int (nI u), .int (nI d), .int (nI (rs_r u d)), .ref hr, .int (nI (m * d))])), (hr, .inr (1, [.ref ha, .int (nI xs.length)])), (ha, .inl (cI, 8, .inl f))]) sz) := by
  refine fq_open (by decide +kernel) (Nat.le_of_ble_eq_true rfl) ?_
  intro pg ev s mt below meth cd ls K hret hlk hin hK hZ hP hD hA hS hl
  generalize va_A ([(h, .inr (5, [.int (nI u), .int (nI d), .int (nI (rs_r u d)), .ref hr, .int (nI (m * d))])), (hr, .inr (1, [.ref ha, .int (nI xs.length)])), (ha, .inl (cI, 8, .inl f))]) sz = A at hZ hD hA hS ⊢
  have K : fq_Ctx pg mt cd cb_Resampler_take 2 s _ cn_Resampler := K
  have hl : lv_has ls 2 [(0, .ref h), (1, .int x)] := hl
  have hud := rs_ud hrs
  have hmb := hrs.2.2.2.2
  have hxl : (xs ++ [x.toInt]).length = xs.length + 1 := by simp
  have hnu : (xs.length + 1) * u ≤ 1000000 * 4 := Nat.mul_le_mul (by omega) hud.1.2
  have hnu1 : 1 ≤ (xs.length + 1) * u := Nat.mul_pos (by omega) (by omega)
  refine lv_aload_n K.1 K.2.1 dc_Resampler_take_0 rfl (lv_at hl 0 rfl) ?_
  refine fq_get K hK cl_Resampler hP 0 3 rfl (by decide) wd_433 rfl dc_Resampler_take_1 ?_
  refine lv_iload_n K.1 K.2.1 dc_Resampler_take_4 rfl (lv_at hl 1 rfl) ?_
  have hc := fq_cut.of (wc := [(hr, .inr (1, [.ref ha, .int (nI xs.length)])), (ha, .inl (cI, 8, .inl f))]) hP hD hS hA [1, 2] (by decide) rfl
  refine fq_cv (wr := [(h, .inr (5, [.int (nI u), .int (nI d), .int (nI (rs_r u d)), .ref hr, .int (nI (m * d))]))]) (fq_rV K hK hZ hS hc (ct_Recent_put l D cI cO tE hr ha f xs x (hrs.2.2.2.1) hlt _) yk_Recent_put wd_623 wd_624 wd_622 0 rfl rfl rfl ⟨⟨rfl, rfl⟩, ⟨Nat.le_of_ble_eq_true rfl, Nat.le_of_ble_eq_true rfl⟩, ⟨Nat.le_of_ble_eq_true rfl, Nat.le_of_ble_eq_true rfl⟩⟩ hl.1 rfl (Nat.le_of_ble_eq_true rfl) dc_Resampler_take_5) hP hD hS hc [1, 2] [0] rfl rfl (by decide) (by decide) (fun  w H locs hw1 hP hD hS => ?_)
  obtain ⟨g1, rfl, hrc1⟩ := hw1
  have hP : va_P D fq_cl ([(h, .inr (5, [.int (nI u), .int (nI d), .int (nI (rs_r u d)), .ref hr, .int (nI (m * d))])), (hr, .inr (1, [.ref ha, .int (nI (xs ++ [x.toInt]).length)])), (ha, .inl (cI, 8, .inl g1))]) _ := hP
  have hD : va_D A ([(h, .inr (5, [.int (nI u), .int (nI d), .int (nI (rs_r u d)), .ref hr, .int (nI (m * d))])), (hr, .inr (1, [.ref ha, .int (nI (xs ++ [x.toInt]).length)])), (ha, .inl (cI, 8, .inl g1))]) := hD
  refine lv_aload_n K.1 K.2.1 dc_Resampler_take_8 rfl (lv_at hl 0 rfl) ?_
  refine lv_aload_n K.1 K.2.1 dc_Resampler_take_9 rfl (lv_at hl 0 rfl) ?_
  refine fq_get K hK cl_Resampler hP 0 3 rfl (by decide) wd_433 rfl dc_Resampler_take_10 ?_
  have hc := fq_cut.of (wc := [(hr, .inr (1, [.ref ha, .int (nI (xs ++ [x.toInt]).length)])), (ha, .inl (cI, 8, .inl g1))]) hP hD hS hA [1, 2] (by decide) rfl
  refine fq_ci (wr := [(h, .inr (5, [.int (nI u), .int (nI d), .int (nI (rs_r u d)), .ref hr, .int (nI (m * d))]))]) (fq_rV K hK hZ hS hc (ct_Recent_count l D cI cO tE hr ha g1 (xs ++ [x.toInt]) _) yk_Recent_count wd_627 wd_628 wd_626 0 rfl rfl rfl ⟨⟨rfl, rfl⟩, ⟨Nat.le_of_ble_eq_true rfl, Nat.le_of_ble_eq_true rfl⟩, ⟨Nat.le_of_ble_eq_true rfl, Nat.le_of_ble_eq_true rfl⟩⟩ hl.1 rfl (Nat.le_of_ble_eq_true rfl) dc_Resampler_take_13) hP hD hS hc [1, 2] [0] rfl rfl (by decide) (by decide) (fun r1 w H locs hw2 hP hD hS => ?_)
  obtain ⟨rfl, rfl⟩ := hw2
  have hP : va_P D fq_cl ([(h, .inr (5, [.int (nI u), .int (nI d), .int (nI (rs_r u d)), .ref hr, .int (nI (m * d))])), (hr, .inr (1, [.ref ha, .int (nI (xs ++ [x.toInt]).length)])), (ha, .inl (cI, 8, .inl g1))]) _ := hP
  have hD : va_D A ([(h, .inr (5, [.int (nI u), .int (nI d), .int (nI (rs_r u d)), .ref hr, .int (nI (m * d))])), (hr, .inr (1, [.ref ha, .int (nI (xs ++ [x.toInt]).length)])), (ha, .inl (cI, 8, .inl g1))]) := hD
  refine lv_aload_n K.1 K.2.1 dc_Resampler_take_16 rfl (lv_at hl 0 rfl) ?_
  refine fq_get K hK cl_Resampler hP 0 0 rfl (by decide) wd_430 rfl dc_Resampler_take_17 ?_
  refine lv_imul K.1 K.2.1 dc_Resampler_take_20 ?_
  refine fq_asi (y := nI ((xs.length + 1) * u)) (by rw [hxl]; exact pk_mul _ _) ?_
  refine lv_iconst (v := 1) K.1 K.2.1 dc_Resampler_take_21 (by decide) ?_
  refine lv_isub K.1 K.2.1 dc_Resampler_take_22 ?_
  refine fq_asi (y := nI ((xs.length + 1) * u - 1)) (pk_sub (b := 1) hnu1) ?_
  have hc := fq_cut.of (wc := [(h, .inr (5, [.int (nI u), .int (nI d), .int (nI (rs_r u d)), .ref hr, .int (nI (m * d))]))]) hP hD hS hA [0] (by decide) rfl
  refine fq_ci (wr := [(hr, .inr (1, [.ref ha, .int (nI (xs ++ [x.toInt]).length)])), (ha, .inl (cI, 8, .inl g1))]) (fq_rV K hK hZ hS hc (ct_Resampler_dueUpTo l D cI cO tE h u d m hr ((xs.length + 1) * u - 1) hud.2 hmb (by omega) _) yk_Resampler_dueUpTo wd_632 wd_9 wd_630 0 rfl rfl rfl ⟨⟨rfl, rfl⟩, ⟨Nat.le_of_ble_eq_true rfl, Nat.le_of_ble_eq_true rfl⟩, ⟨Nat.le_of_ble_eq_true rfl, Nat.le_of_ble_eq_true rfl⟩⟩ hl.1 rfl (Nat.le_of_ble_eq_true rfl) dc_Resampler_take_23) hP hD hS hc [0] [1, 2] rfl rfl (by decide) (by decide) (fun r2 w H locs hw3 hP hD hS => ?_)
  obtain ⟨rfl, rfl⟩ := hw3
  have hP : va_P D fq_cl ([(hr, .inr (1, [.ref ha, .int (nI (xs ++ [x.toInt]).length)])), (ha, .inl (cI, 8, .inl g1)), (h, .inr (5, [.int (nI u), .int (nI d), .int (nI (rs_r u d)), .ref hr, .int (nI (m * d))]))]) _ := hP
  have hD : va_D A ([(hr, .inr (1, [.ref ha, .int (nI (xs ++ [x.toInt]).length)])), (ha, .inl (cI, 8, .inl g1)), (h, .inr (5, [.int (nI u), .int (nI d), .int (nI (rs_r u d)), .ref hr, .int (nI (m * d))]))]) := hD
  have hP := hP.sub (ws' := [(h, .inr (5, [.int (nI u), .int (nI d), .int (nI (rs_r u d)), .ref hr, .int (nI (m * d))])), (hr, .inr (1, [.ref ha, .int (nI (xs ++ [x.toInt]).length)])), (ha, .inl (cI, 8, .inl g1))]) [2, 0, 1] rfl
  have hD := hD.sub (ws' := [(h, .inr (5, [.int (nI u), .int (nI d), .int (nI (rs_r u d)), .ref hr, .int (nI (m * d))])), (hr, .inr (1, [.ref ha, .int (nI (xs ++ [x.toInt]).length)])), (ha, .inl (cI, 8, .inl g1))]) [2, 0, 1] (by decide) rfl
  exact fq_reti K hret hlk hS hP hD ⟨congrArg nI (rs_take1 hrs hnu1), _, _, _, _, _, rfl, rs_tk hrs hx hrc1⟩ dc_Resampler_take_26 (Nat.le_of_ble_eq_true rfl) (Nat.le_of_ble_eq_true rfl)
set_option maxHeartbeats 4000000 in
set_option maxRecDepth 100000 in
theorem ct_Resampler_finish (l : Launch) (D : va_G) (cI cO : ClassId) (tE : Nat) (h u d hr ha : Nat) (f : Nat → Int32) (sp : fm_S) (xs : List Int) (m : Nat) (hrs : rs_ok u d f sp xs m)  (sz : Nat) : Met l my_Resampler_finish (fq_w my_Resampler_finish cb_Resampler_finish 1 (some .int)) ({ frames := 1, cells := 0, slots := 0, locals := 21 }) (va_Pc ([.ref h]) (fq_Pre D cI cO tE sz ([(h, .inr (5, [.int (nI u), .int (nI d), .int (nI (rs_r u d)), .ref hr, .int (nI (m * d))])), (hr, .inr (1, [.ref ha, .int (nI xs.length)])), (ha, .inl (cI, 8, .inl f))]))) (va_Qi (S := va_W) (fun r w => r = nI (fm_m sp true xs.length - m) ∧ sg_res cI h sp xs m w) (fq_Bw D (va_A ([(h, .inr (5, [.int (nI u), .int (nI d), .int (nI (rs_r u d)), .ref hr, .int (nI (m * d))])), (hr, .inr (1, [.ref ha, .int (nI xs.length)])), (ha, .inl (cI, 8, .inl f))]) sz)) (va_A ([(h, .inr (5, [.int (nI u), .int (nI d), .int (nI (rs_r u d)), .ref hr, .int (nI (m * d))])), (hr, .inr (1, [.ref ha, .int (nI xs.length)])), (ha, .inl (cI, 8, .inl f))]) sz)) (0) (0) (va_A ([(h, .inr (5, [.int (nI u), .int (nI d), .int (nI (rs_r u d)), .ref hr, .int (nI (m * d))])), (hr, .inr (1, [.ref ha, .int (nI xs.length)])), (ha, .inl (cI, 8, .inl f))]) sz) := by
  refine fq_open (by decide +kernel) (Nat.le_of_ble_eq_true rfl) ?_
  intro pg ev s mt below meth cd ls K hret hlk hin hK hZ hP hD hA hS hl
  generalize va_A ([(h, .inr (5, [.int (nI u), .int (nI d), .int (nI (rs_r u d)), .ref hr, .int (nI (m * d))])), (hr, .inr (1, [.ref ha, .int (nI xs.length)])), (ha, .inl (cI, 8, .inl f))]) sz = A at hZ hD hA hS ⊢
  have K : fq_Ctx pg mt cd cb_Resampler_finish 1 s _ cn_Resampler := K
  have hl : lv_has ls 1 [(0, .ref h)] := hl
  have hud := rs_ud hrs
  have hmb := hrs.2.2.2.2
  have hxn := hrs.2.2.2.1.1
  have hnu : xs.length * u ≤ 2000000 * 4 := Nat.mul_le_mul (by omega) hud.1.2
  have hrr := rs_rb hud.1 hud.2
  refine lv_aload_n K.1 K.2.1 dc_Resampler_finish_0 rfl (lv_at hl 0 rfl) ?_
  refine fq_get K hK cl_Resampler hP 0 3 rfl (by decide) wd_433 rfl dc_Resampler_finish_1 ?_
  have hc := fq_cut.of (wc := [(hr, .inr (1, [.ref ha, .int (nI xs.length)])), (ha, .inl (cI, 8, .inl f))]) hP hD hS hA [1, 2] (by decide) rfl
  refine fq_ci (wr := [(h, .inr (5, [.int (nI u), .int (nI d), .int (nI (rs_r u d)), .ref hr, .int (nI (m * d))]))]) (fq_rV K hK hZ hS hc (ct_Recent_count l D cI cO tE hr ha f xs _) yk_Recent_count wd_627 wd_628 wd_626 0 rfl rfl rfl ⟨⟨rfl, rfl⟩, ⟨Nat.le_of_ble_eq_true rfl, Nat.le_of_ble_eq_true rfl⟩, ⟨Nat.le_of_ble_eq_true rfl, Nat.le_of_ble_eq_true rfl⟩⟩ hl.1 rfl (Nat.le_of_ble_eq_true rfl) dc_Resampler_finish_4) hP hD hS hc [1, 2] [0] rfl rfl (by decide) (by decide) (fun r1 w H locs hw1 hP hD hS => ?_)
  obtain ⟨rfl, rfl⟩ := hw1
  have hP : va_P D fq_cl ([(h, .inr (5, [.int (nI u), .int (nI d), .int (nI (rs_r u d)), .ref hr, .int (nI (m * d))])), (hr, .inr (1, [.ref ha, .int (nI xs.length)])), (ha, .inl (cI, 8, .inl f))]) _ := hP
  have hD : va_D A ([(h, .inr (5, [.int (nI u), .int (nI d), .int (nI (rs_r u d)), .ref hr, .int (nI (m * d))])), (hr, .inr (1, [.ref ha, .int (nI xs.length)])), (ha, .inl (cI, 8, .inl f))]) := hD
  refine lv_if_ne (tgt := 14) K.1 K.2.1 dc_Resampler_finish_7 rfl (fun b7 => ?_) (fun b7 => ?_)
  · skip
    have hn0 : 0 < xs.length := Nat.pos_of_ne_zero (fun z => b7 (by rw [z, nI_0]))
    have hnu1 : 1 ≤ xs.length * u := Nat.mul_pos hn0 (by omega)
    refine lv_aload_n K.1 K.2.1 dc_Resampler_finish_14 rfl (lv_at hl 0 rfl) ?_
    refine lv_aload_n K.1 K.2.1 dc_Resampler_finish_15 rfl (lv_at hl 0 rfl) ?_
    refine fq_get K hK cl_Resampler hP 0 3 rfl (by decide) wd_433 rfl dc_Resampler_finish_16 ?_
    have hc := fq_cut.of (wc := [(hr, .inr (1, [.ref ha, .int (nI xs.length)])), (ha, .inl (cI, 8, .inl f))]) hP hD hS hA [1, 2] (by decide) rfl
    refine fq_ci (wr := [(h, .inr (5, [.int (nI u), .int (nI d), .int (nI (rs_r u d)), .ref hr, .int (nI (m * d))]))]) (fq_rV K hK hZ hS hc (ct_Recent_count l D cI cO tE hr ha f xs _) yk_Recent_count wd_627 wd_628 wd_626 0 rfl rfl rfl ⟨⟨rfl, rfl⟩, ⟨Nat.le_of_ble_eq_true rfl, Nat.le_of_ble_eq_true rfl⟩, ⟨Nat.le_of_ble_eq_true rfl, Nat.le_of_ble_eq_true rfl⟩⟩ hl.1 rfl (Nat.le_of_ble_eq_true rfl) dc_Resampler_finish_19) hP hD hS hc [1, 2] [0] rfl rfl (by decide) (by decide) (fun r2 w H locs hw2 hP hD hS => ?_)
    obtain ⟨rfl, rfl⟩ := hw2
    have hP : va_P D fq_cl ([(h, .inr (5, [.int (nI u), .int (nI d), .int (nI (rs_r u d)), .ref hr, .int (nI (m * d))])), (hr, .inr (1, [.ref ha, .int (nI xs.length)])), (ha, .inl (cI, 8, .inl f))]) _ := hP
    have hD : va_D A ([(h, .inr (5, [.int (nI u), .int (nI d), .int (nI (rs_r u d)), .ref hr, .int (nI (m * d))])), (hr, .inr (1, [.ref ha, .int (nI xs.length)])), (ha, .inl (cI, 8, .inl f))]) := hD
    refine lv_aload_n K.1 K.2.1 dc_Resampler_finish_22 rfl (lv_at hl 0 rfl) ?_
    refine fq_get K hK cl_Resampler hP 0 0 rfl (by decide) wd_430 rfl dc_Resampler_finish_23 ?_
    refine lv_imul K.1 K.2.1 dc_Resampler_finish_26 ?_
    refine fq_asi (y := nI (xs.length * u)) (pk_mul _ _) ?_
    refine lv_iconst (v := 2) K.1 K.2.1 dc_Resampler_finish_27 (by decide) ?_
    refine lv_aload_n K.1 K.2.1 dc_Resampler_finish_28 rfl (lv_at hl 0 rfl) ?_
    refine fq_get K hK cl_Resampler hP 0 2 rfl (by decide) wd_432 rfl dc_Resampler_finish_29 ?_
    refine lv_imul K.1 K.2.1 dc_Resampler_finish_32 ?_
    refine fq_asi (y := nI (2 * rs_r u d)) (pk_mul 2 _) ?_
    refine lv_iadd K.1 K.2.1 dc_Resampler_finish_33 ?_
    refine fq_asi (y := nI (xs.length * u + 2 * rs_r u d)) (nI_add _ _) ?_
    refine lv_iconst (v := 3) K.1 K.2.1 dc_Resampler_finish_34 (by decide) ?_
    refine lv_isub K.1 K.2.1 dc_Resampler_finish_35 ?_
    refine fq_asi (y := nI (xs.length * u + 2 * rs_r u d - 3)) (pk_sub (b := 3) (by omega)) ?_
    have hc := fq_cut.of (wc := [(h, .inr (5, [.int (nI u), .int (nI d), .int (nI (rs_r u d)), .ref hr, .int (nI (m * d))]))]) hP hD hS hA [0] (by decide) rfl
    refine fq_ci (wr := [(hr, .inr (1, [.ref ha, .int (nI xs.length)])), (ha, .inl (cI, 8, .inl f))]) (fq_rV K hK hZ hS hc (ct_Resampler_dueUpTo l D cI cO tE h u d m hr (xs.length * u + 2 * rs_r u d - 3) hud.2 hmb (by omega) _) yk_Resampler_dueUpTo wd_632 wd_9 wd_630 0 rfl rfl rfl ⟨⟨rfl, rfl⟩, ⟨Nat.le_of_ble_eq_true rfl, Nat.le_of_ble_eq_true rfl⟩, ⟨Nat.le_of_ble_eq_true rfl, Nat.le_of_ble_eq_true rfl⟩⟩ hl.1 rfl (Nat.le_of_ble_eq_true rfl) dc_Resampler_finish_36) hP hD hS hc [0] [1, 2] rfl rfl (by decide) (by decide) (fun r3 w H locs hw3 hP hD hS => ?_)
    obtain ⟨rfl, rfl⟩ := hw3
    have hP : va_P D fq_cl ([(hr, .inr (1, [.ref ha, .int (nI xs.length)])), (ha, .inl (cI, 8, .inl f)), (h, .inr (5, [.int (nI u), .int (nI d), .int (nI (rs_r u d)), .ref hr, .int (nI (m * d))]))]) _ := hP
    have hD : va_D A ([(hr, .inr (1, [.ref ha, .int (nI xs.length)])), (ha, .inl (cI, 8, .inl f)), (h, .inr (5, [.int (nI u), .int (nI d), .int (nI (rs_r u d)), .ref hr, .int (nI (m * d))]))]) := hD
    have hP := hP.sub (ws' := [(h, .inr (5, [.int (nI u), .int (nI d), .int (nI (rs_r u d)), .ref hr, .int (nI (m * d))])), (hr, .inr (1, [.ref ha, .int (nI xs.length)])), (ha, .inl (cI, 8, .inl f))]) [2, 0, 1] rfl
    have hD := hD.sub (ws' := [(h, .inr (5, [.int (nI u), .int (nI d), .int (nI (rs_r u d)), .ref hr, .int (nI (m * d))])), (hr, .inr (1, [.ref ha, .int (nI xs.length)])), (ha, .inl (cI, 8, .inl f))]) [2, 0, 1] (by decide) rfl
    exact fq_reti K hret hlk hS hP hD ⟨congrArg nI (rs_fin1 hrs hn0), _, _, _, _, _, rfl, hrs⟩ dc_Resampler_finish_39 (Nat.le_of_ble_eq_true rfl) (Nat.le_of_ble_eq_true rfl)
  · skip
    have hn0 : xs.length = 0 := (nI_eq (by omega) (by decide)).mp (b7.trans nI_0.symm)
    refine lv_iconst (v := 0) K.1 K.2.1 dc_Resampler_finish_10 (by decide) ?_
    refine lv_goto (tgt := 39) K.1 K.2.1 dc_Resampler_finish_11 rfl ?_
    exact fq_reti K hret hlk hS hP hD ⟨rs_fin0 hrs hn0, _, _, _, _, _, rfl, hrs⟩ dc_Resampler_finish_39 (Nat.le_of_ble_eq_true rfl) (Nat.le_of_ble_eq_true rfl)
set_option maxHeartbeats 4000000 in
set_option maxRecDepth 100000 in
theorem ct_Resampler_make (l : Launch) (D : va_G) (cI cO : ClassId) (tE : Nat) (h u d hr ha : Nat) (f : Nat → Int32) (sp : fm_S) (xs : List Int) (m : Nat) (hrs : rs_ok u d f sp xs m) (hm : xs.length * u ≤ m * d + u) (hmx : m + 1 < 300000) (sz : Nat) : Met l my_Resampler_make (fq_w my_Resampler_make cb_Resampler_make 6 (some .int)) ({ frames := 2, cells := 0, slots := 0, locals := 38 }) (va_Pc ([.ref h]) (fq_Pre D cI cO tE sz ([(h, .inr (5, [.int (nI u), .int (nI d), .int (nI (rs_r u d)), .ref hr, .int (nI (m * d))])), (hr, .inr (1, [.ref ha, .int (nI xs.length)])), (ha, .inl (cI, 8, .inl f))]))) (va_Qi (S := va_W) (fun r w => r.toInt = fm_y sp xs m ∧ sg_res cI h sp xs (m + 1) w) (fq_Bw D (va_A ([(h, .inr (5, [.int (nI u), .int (nI d), .int (nI (rs_r u d)), .ref hr, .int (nI (m * d))])), (hr, .inr (1, [.ref ha, .int (nI xs.length)])), (ha, .inl (cI, 8, .inl f))]) sz)) (va_A ([(h, .inr (5, [.int (nI u), .int (nI d), .int (nI (rs_r u d)), .ref hr, .int (nI (m * d))])), (hr, .inr (1, [.ref ha, .int (nI xs.length)])), (ha, .inl (cI, 8, .inl f))]) sz)) (0) (0) (va_A ([(h, .inr (5, [.int (nI u), .int (nI d), .int (nI (rs_r u d)), .ref hr, .int (nI (m * d))])), (hr, .inr (1, [.ref ha, .int (nI xs.length)])), (ha, .inl (cI, 8, .inl f))]) sz) := by
  refine fq_open (by decide +kernel) (Nat.le_of_ble_eq_true rfl) ?_
  intro pg ev s mt below meth cd ls K hret hlk hin hK hZ hP hD hA hS hl
  generalize va_A ([(h, .inr (5, [.int (nI u), .int (nI d), .int (nI (rs_r u d)), .ref hr, .int (nI (m * d))])), (hr, .inr (1, [.ref ha, .int (nI xs.length)])), (ha, .inl (cI, 8, .inl f))]) sz = A at hZ hD hA hS ⊢
  have K : fq_Ctx pg mt cd cb_Resampler_make 6 s _ cn_Resampler := K
  have hl : lv_has ls 6 [(0, .ref h)] := hl
  have hud := rs_ud hrs
  have hmb := hrs.2.2.2.2
  have hrr := rs_rb hud.1 hud.2
  have hmd : m * d ≤ 300000 * 4 := Nat.mul_le_mul (by omega) hud.2.2
  refine lv_lconst (v := 0) K.1 K.2.1 dc_Resampler_make_0 (by decide) ?_
  refine lv_lstore_n K.1 K.2.1 dc_Resampler_make_1 rfl hl (by decide) rfl (fun ls hl => ?_)
  have hl : lv_has ls 6 [(1, .long 0), (0, .ref h)] := hl
  refine lv_iconst (v := 0) K.1 K.2.1 dc_Resampler_make_2 (by decide) ?_
  refine lv_istore_n K.1 K.2.1 dc_Resampler_make_3 rfl hl (by decide) rfl (fun ls hl => ?_)
  have hl : lv_has ls 6 [(3, .int 0), (1, .long 0), (0, .ref h)] := hl
  refine fq_lp (σ := Nat × Int64) (fun x => 2 * rs_r u d - 1 - x.1) (fun x H locs ls => (x.1 ≤ 2 * rs_r u d - 1 ∧ x.2.toInt = fm_sum (fun i => fm_far (rs_r u d : Int) i * fm_u (u : Int) xs ((m : Int) * d - i)) x.1) ∧ lv_has ls 6 [(0, .ref h), (1, .long x.2), (3, .int (nI x.1))] ∧ va_P D fq_cl ([(h, .inr (5, [.int (nI u), .int (nI d), .int (nI (rs_r u d)), .ref hr, .int (nI (m * d))])), (hr, .inr (1, [.ref ha, .int (nI xs.length)])), (ha, .inl (cI, 8, .inl f))]) H ∧ va_D A ([(h, .inr (5, [.int (nI u), .int (nI d), .int (nI (rs_r u d)), .ref hr, .int (nI (m * d))])), (hr, .inr (1, [.ref ha, .int (nI xs.length)])), (ha, .inl (cI, 8, .inl f))]) ∧ va_S A s.heap H locs) ?_ (0, 0) _ _ _ ⟨⟨Nat.zero_le _, rfl⟩, lv_sub hl [2, 1, 0] rfl, hP, hD, hS⟩
  rintro ⟨k, v⟩ H locs ls ⟨hI4, hl, hP, hD, hS⟩ ih4
  have hI4 : k ≤ 2 * rs_r u d - 1 ∧ v.toInt = fm_sum (fun i => fm_far (rs_r u d : Int) i * fm_u (u : Int) xs ((m : Int) * d - i)) k := hI4
  have hl : lv_has ls 6 [(0, .ref h), (1, .long v), (3, .int (nI k))] := hl
  have hP : va_P D fq_cl ([(h, .inr (5, [.int (nI u), .int (nI d), .int (nI (rs_r u d)), .ref hr, .int (nI (m * d))])), (hr, .inr (1, [.ref ha, .int (nI xs.length)])), (ha, .inl (cI, 8, .inl f))]) _ := hP
  have hD : va_D A ([(h, .inr (5, [.int (nI u), .int (nI d), .int (nI (rs_r u d)), .ref hr, .int (nI (m * d))])), (hr, .inr (1, [.ref ha, .int (nI xs.length)])), (ha, .inl (cI, 8, .inl f))]) := hD
  refine lv_iload_n K.1 K.2.1 dc_Resampler_make_4 rfl (lv_at hl 2 rfl) ?_
  refine lv_iconst (v := 2) K.1 K.2.1 dc_Resampler_make_5 (by decide) ?_
  refine lv_aload_n K.1 K.2.1 dc_Resampler_make_6 rfl (lv_at hl 0 rfl) ?_
  refine fq_get K hK cl_Resampler hP 0 2 rfl (by decide) wd_432 rfl dc_Resampler_make_7 ?_
  refine lv_imul K.1 K.2.1 dc_Resampler_make_10 ?_
  refine fq_asi (y := nI (2 * rs_r u d)) (pk_mul 2 _) ?_
  refine lv_iconst (v := 2) K.1 K.2.1 dc_Resampler_make_11 (by decide) ?_
  refine lv_isub K.1 K.2.1 dc_Resampler_make_12 ?_
  refine fq_asi (y := nI (2 * rs_r u d - 2)) (pk_sub (b := 2) (by omega)) ?_
  refine lv_icmp_gt (tgt := 84) K.1 K.2.1 dc_Resampler_make_13 rfl (fun b13 => ?_) (fun b13 => ?_)
  · skip
    have hk : k = 2 * rs_r u d - 1 := by rw [nI_ltI (by omega) (by omega)] at b13; omega
    refine lv_aload_n K.1 K.2.1 dc_Resampler_make_84 rfl (lv_at hl 0 rfl) ?_
    refine lv_dup K.1 K.2.1 dc_Resampler_make_85 rfl ?_
    refine fq_get K hK cl_Resampler hP 0 4 rfl (by decide) wd_434 rfl dc_Resampler_make_86 ?_
    refine lv_aload_n K.1 K.2.1 dc_Resampler_make_89 rfl (lv_at hl 0 rfl) ?_
    refine fq_get K hK cl_Resampler hP 0 1 rfl (by decide) wd_431 rfl dc_Resampler_make_90 ?_
    refine lv_iadd K.1 K.2.1 dc_Resampler_make_93 ?_
    refine fq_asi (y := nI ((m + 1) * d)) (by rw [nI_add, Nat.succ_mul]) ?_
    refine fq_put K hK cl_Resampler hP hD hS 0 4 rfl (by decide) wd_434 rfl rfl rfl (Nat.le_of_ble_eq_true rfl) dc_Resampler_make_94 (fun H locs hP hD hS => ?_)
    have hP : va_P D fq_cl ([(h, .inr (5, [.int (nI u), .int (nI d), .int (nI (rs_r u d)), .ref hr, .int (nI ((m + 1) * d))])), (hr, .inr (1, [.ref ha, .int (nI xs.length)])), (ha, .inl (cI, 8, .inl f))]) _ := hP
    have hD : va_D A ([(h, .inr (5, [.int (nI u), .int (nI d), .int (nI (rs_r u d)), .ref hr, .int (nI ((m + 1) * d))])), (hr, .inr (1, [.ref ha, .int (nI xs.length)])), (ha, .inl (cI, 8, .inl f))]) := hD
    refine lv_aload_n K.1 K.2.1 dc_Resampler_make_97 rfl (lv_at hl 0 rfl) ?_
    refine fq_get K hK cl_Resampler hP 0 0 rfl (by decide) wd_430 rfl dc_Resampler_make_98 ?_
    refine lv_i2l K.1 K.2.1 dc_Resampler_make_101 rfl ?_
    refine lv_lload_n K.1 K.2.1 dc_Resampler_make_102 rfl (lv_at hl 1 rfl) ?_
    refine lv_lmul K.1 K.2.1 dc_Resampler_make_103 ?_
    refine lv_aload_n K.1 K.2.1 dc_Resampler_make_104 rfl (lv_at hl 0 rfl) ?_
    refine fq_get K hK cl_Resampler hP 0 2 rfl (by decide) wd_432 rfl dc_Resampler_make_105 ?_
    refine lv_i2l K.1 K.2.1 dc_Resampler_make_108 rfl ?_
    refine lv_aload_n K.1 K.2.1 dc_Resampler_make_109 rfl (lv_at hl 0 rfl) ?_
    refine fq_get K hK cl_Resampler hP 0 2 rfl (by decide) wd_432 rfl dc_Resampler_make_110 ?_
    refine lv_i2l K.1 K.2.1 dc_Resampler_make_113 rfl ?_
    refine lv_lmul K.1 K.2.1 dc_Resampler_make_114 ?_
    have hc := fq_cut.of (wc := []) hP hD hS hA [] (by decide) rfl
    refine fq_cl_ (wr := [(h, .inr (5, [.int (nI u), .int (nI d), .int (nI (rs_r u d)), .ref hr, .int (nI ((m + 1) * d))])), (hr, .inr (1, [.ref ha, .int (nI xs.length)])), (ha, .inl (cI, 8, .inl f))]) (fq_rS K hK hZ hS hc (ct_Ma_floorDiv l D cI cO tE (((nI u).toInt64) * v) (((nI (rs_r u d)).toInt64) * ((nI (rs_r u d)).toInt64)) (rs_pos hrr) _) yk_Ma_floorDiv wd_345 wd_674 ⟨⟨rfl, rfl⟩, ⟨Nat.le_of_ble_eq_true rfl, Nat.le_of_ble_eq_true rfl⟩, ⟨Nat.le_of_ble_eq_true rfl, Nat.le_of_ble_eq_true rfl⟩⟩ hl.1 rfl (Nat.le_of_ble_eq_true rfl) dc_Resampler_make_115) hP hD hS hc [] [0, 1, 2] rfl rfl (by decide) (by decide) (fun r1 w H locs hw1 hP hD hS => ?_)
    obtain ⟨rfl, hd1⟩ := hw1
    have hP : va_P D fq_cl ([(h, .inr (5, [.int (nI u), .int (nI d), .int (nI (rs_r u d)), .ref hr, .int (nI ((m + 1) * d))])), (hr, .inr (1, [.ref ha, .int (nI xs.length)])), (ha, .inl (cI, 8, .inl f))]) _ := hP
    have hD : va_D A ([(h, .inr (5, [.int (nI u), .int (nI d), .int (nI (rs_r u d)), .ref hr, .int (nI ((m + 1) * d))])), (hr, .inr (1, [.ref ha, .int (nI xs.length)])), (ha, .inl (cI, 8, .inl f))]) := hD
    have hc := fq_cut.of (wc := []) hP hD hS hA [] (by decide) rfl
    refine fq_ci (wr := [(h, .inr (5, [.int (nI u), .int (nI d), .int (nI (rs_r u d)), .ref hr, .int (nI ((m + 1) * d))])), (hr, .inr (1, [.ref ha, .int (nI xs.length)])), (ha, .inl (cI, 8, .inl f))]) (fq_rSN K hK hZ hS hc (ct_FP_clipped l D cI cO tE r1 _) yk_FP_clipped wd_654 wn_675 ⟨⟨rfl, rfl⟩, ⟨Nat.le_of_ble_eq_true rfl, Nat.le_of_ble_eq_true rfl⟩, ⟨Nat.le_of_ble_eq_true rfl, Nat.le_of_ble_eq_true rfl⟩⟩ hl.1 rfl (Nat.le_of_ble_eq_true rfl) dc_Resampler_make_118) hP hD hS hc [] [0, 1, 2] rfl rfl (by decide) (by decide) (fun r2 w H locs hw2 hP hD hS => ?_)
    obtain ⟨rfl, hd2⟩ := hw2
    have hP : va_P D fq_cl ([(h, .inr (5, [.int (nI u), .int (nI d), .int (nI (rs_r u d)), .ref hr, .int (nI ((m + 1) * d))])), (hr, .inr (1, [.ref ha, .int (nI xs.length)])), (ha, .inl (cI, 8, .inl f))]) _ := hP
    have hD : va_D A ([(h, .inr (5, [.int (nI u), .int (nI d), .int (nI (rs_r u d)), .ref hr, .int (nI ((m + 1) * d))])), (hr, .inr (1, [.ref ha, .int (nI xs.length)])), (ha, .inl (cI, 8, .inl f))]) := hD
    exact fq_reti K hret hlk hS hP hD ⟨rs_val hrs hk hI4 hd1 hd2, _, _, _, _, _, rfl, rs_next hrs hmx⟩ dc_Resampler_make_121 (Nat.le_of_ble_eq_true rfl) (Nat.le_of_ble_eq_true rfl)
  · skip
    have hk : k < 2 * rs_r u d - 1 := by rw [nI_ltI (by omega) (by omega)] at b13; omega
    refine lv_aload_n K.1 K.2.1 dc_Resampler_make_16 rfl (lv_at hl 0 rfl) ?_
    refine fq_get K hK cl_Resampler hP 0 4 rfl (by decide) wd_434 rfl dc_Resampler_make_17 ?_
    refine lv_iload_n K.1 K.2.1 dc_Resampler_make_20 rfl (lv_at hl 2 rfl) ?_
    refine lv_isub K.1 K.2.1 dc_Resampler_make_21 ?_
    refine lv_topi (fun v1 e_v1 => ?_)
    refine lv_istore K.1 K.2.1 dc_Resampler_make_22 hl (by decide) rfl (fun ls hl => ?_)
    have hl : lv_has ls 6 [(4, .int v1), (0, .ref h), (1, .long v), (3, .int (nI k))] := hl
    refine lv_iload K.1 K.2.1 dc_Resampler_make_24 (lv_at hl 0 rfl) ?_
    refine lv_aload_n K.1 K.2.1 dc_Resampler_make_26 rfl (lv_at hl 1 rfl) ?_
    refine fq_get K hK cl_Resampler hP 0 0 rfl (by decide) wd_430 rfl dc_Resampler_make_27 ?_
    refine lv_irem K.1 K.2.1 dc_Resampler_make_30 (nI_ne0 (by omega) (by omega)) ?_
    refine lv_if_ne (tgt := 51) K.1 K.2.1 dc_Resampler_make_31 rfl (fun b31 => ?_) (fun b31 => ?_)
    · skip
      have hpl := rs_pl hmd hk hrr e_v1
      refine lv_iconst (v := 0) K.1 K.2.1 dc_Resampler_make_51 (by decide) ?_
      refine lv_istore K.1 K.2.1 dc_Resampler_make_52 hl (by decide) rfl (fun ls hl => ?_)
      have hl : lv_has ls 6 [(5, .int 0), (4, .int v1), (0, .ref h), (1, .long v), (3, .int (nI k))] := hl
      refine lv_lload_n K.1 K.2.1 dc_Resampler_make_54 rfl (lv_at hl 3 rfl) ?_
      refine lv_aload_n K.1 K.2.1 dc_Resampler_make_55 rfl (lv_at hl 2 rfl) ?_
      refine fq_get K hK cl_Resampler hP 0 2 rfl (by decide) wd_432 rfl dc_Resampler_make_56 ?_
      refine lv_iload_n K.1 K.2.1 dc_Resampler_make_59 rfl (lv_at hl 4 rfl) ?_
      refine lv_aload_n K.1 K.2.1 dc_Resampler_make_60 rfl (lv_at hl 2 rfl) ?_
      refine fq_get K hK cl_Resampler hP 0 2 rfl (by decide) wd_432 rfl dc_Resampler_make_61 ?_
      refine lv_iconst (v := 1) K.1 K.2.1 dc_Resampler_make_64 (by decide) ?_
      refine lv_isub K.1 K.2.1 dc_Resampler_make_65 ?_
      refine lv_isub K.1 K.2.1 dc_Resampler_make_66 ?_
      refine va_mabs K.1 K.2.1 (K.2.2.1.trans hl.1.symm) K.2.2.2.1 (K.2.2.2.2 _ wd_671) (K.2.2.2.2 _ wd_672) (K.2.2.2.2 _ wd_35) (K.2.2.2.2 _ wd_673) (Nat.le_of_ble_eq_true rfl) (Nat.le_of_ble_eq_true rfl) (Nat.le_of_ble_eq_true rfl) (Nat.le_of_ble_eq_true rfl) dc_Resampler_make_67 ?_
      refine lv_isub K.1 K.2.1 dc_Resampler_make_70 ?_
      refine lv_i2l K.1 K.2.1 dc_Resampler_make_71 rfl ?_
      refine lv_iload K.1 K.2.1 dc_Resampler_make_72 (lv_at hl 0 rfl) ?_
      refine lv_i2l K.1 K.2.1 dc_Resampler_make_74 rfl ?_
      refine lv_lmul K.1 K.2.1 dc_Resampler_make_75 ?_
      refine lv_ladd K.1 K.2.1 dc_Resampler_make_76 ?_
      refine lv_topl (fun v2 e_v2 => ?_)
      refine lv_lstore_n K.1 K.2.1 dc_Resampler_make_77 rfl hl (by decide) rfl (fun ls hl => ?_)
      have hl : lv_has ls 6 [(1, .long v2), (5, .int 0), (4, .int v1), (0, .ref h), (3, .int (nI k))] := hl
      refine lv_iinc (v := nI (k + 1)) K.1 K.2.1 dc_Resampler_make_78 hl (k := 4) rfl (nI_1 k) (by decide) rfl (fun ls hl => ?_)
      have hl : lv_has ls 6 [(3, .int (nI (k + 1))), (1, .long v2), (5, .int 0), (4, .int v1), (0, .ref h)] := hl
      refine lv_goto (tgt := 4) K.1 K.2.1 dc_Resampler_make_81 rfl ?_
      exact ih4 (k + 1, v2) _ _ _ (by show 2 * rs_r u d - 1 - (k + 1) < 2 * rs_r u d - 1 - k; omega) ⟨rs_add hrs hk hI4 e_v2 (rs_u0 hrs hpl b31), lv_sub hl [4, 1, 0] rfl, hP, hD, hS⟩
    · skip
      have hpl := rs_pl hmd hk hrr e_v1
      refine lv_aload_n K.1 K.2.1 dc_Resampler_make_34 rfl (lv_at hl 1 rfl) ?_
      refine fq_get K hK cl_Resampler hP 0 3 rfl (by decide) wd_433 rfl dc_Resampler_make_35 ?_
      refine lv_iload K.1 K.2.1 dc_Resampler_make_38 (lv_at hl 0 rfl) ?_
      refine lv_aload_n K.1 K.2.1 dc_Resampler_make_40 rfl (lv_at hl 1 rfl) ?_
      refine fq_get K hK cl_Resampler hP 0 0 rfl (by decide) wd_430 rfl dc_Resampler_make_41 ?_
      refine lv_idiv K.1 K.2.1 dc_Resampler_make_44 (nI_ne0 (by omega) (by omega)) ?_
      have hc := fq_cut.of (wc := [(hr, .inr (1, [.ref ha, .int (nI xs.length)])), (ha, .inl (cI, 8, .inl f))]) hP hD hS hA [1, 2] (by decide) rfl
      refine fq_ci (wr := [(h, .inr (5, [.int (nI u), .int (nI d), .int (nI (rs_r u d)), .ref hr, .int (nI (m * d))]))]) (fq_rV K hK hZ hS hc (ct_Recent_at l D cI cO tE hr ha f xs (v1 / (nI u)) (hrs.2.2.2.1) _) yk_Recent_at wd_668 wd_669 wd_667 0 rfl rfl rfl ⟨⟨rfl, rfl⟩, ⟨Nat.le_of_ble_eq_true rfl, Nat.le_of_ble_eq_true rfl⟩, ⟨Nat.le_of_ble_eq_true rfl, Nat.le_of_ble_eq_true rfl⟩⟩ hl.1 rfl (Nat.le_of_ble_eq_true rfl) dc_Resampler_make_45) hP hD hS hc [1, 2] [0] rfl rfl (by decide) (by decide) (fun r3 w H locs hw3 hP hD hS => ?_)
      obtain ⟨rfl, hat1⟩ := hw3
      have hP : va_P D fq_cl ([(h, .inr (5, [.int (nI u), .int (nI d), .int (nI (rs_r u d)), .ref hr, .int (nI (m * d))])), (hr, .inr (1, [.ref ha, .int (nI xs.length)])), (ha, .inl (cI, 8, .inl f))]) _ := hP
      have hD : va_D A ([(h, .inr (5, [.int (nI u), .int (nI d), .int (nI (rs_r u d)), .ref hr, .int (nI (m * d))])), (hr, .inr (1, [.ref ha, .int (nI xs.length)])), (ha, .inl (cI, 8, .inl f))]) := hD
      refine lv_goto (tgt := 52) K.1 K.2.1 dc_Resampler_make_48 rfl ?_
      refine lv_istore K.1 K.2.1 dc_Resampler_make_52 hl (by decide) rfl (fun ls hl => ?_)
      have hl : lv_has ls 6 [(5, .int r3), (4, .int v1), (0, .ref h), (1, .long v), (3, .int (nI k))] := hl
      refine lv_lload_n K.1 K.2.1 dc_Resampler_make_54 rfl (lv_at hl 3 rfl) ?_
      refine lv_aload_n K.1 K.2.1 dc_Resampler_make_55 rfl (lv_at hl 2 rfl) ?_
      refine fq_get K hK cl_Resampler hP 0 2 rfl (by decide) wd_432 rfl dc_Resampler_make_56 ?_
      refine lv_iload_n K.1 K.2.1 dc_Resampler_make_59 rfl (lv_at hl 4 rfl) ?_
      refine lv_aload_n K.1 K.2.1 dc_Resampler_make_60 rfl (lv_at hl 2 rfl) ?_
      refine fq_get K hK cl_Resampler hP 0 2 rfl (by decide) wd_432 rfl dc_Resampler_make_61 ?_
      refine lv_iconst (v := 1) K.1 K.2.1 dc_Resampler_make_64 (by decide) ?_
      refine lv_isub K.1 K.2.1 dc_Resampler_make_65 ?_
      refine lv_isub K.1 K.2.1 dc_Resampler_make_66 ?_
      refine va_mabs K.1 K.2.1 (K.2.2.1.trans hl.1.symm) K.2.2.2.1 (K.2.2.2.2 _ wd_671) (K.2.2.2.2 _ wd_672) (K.2.2.2.2 _ wd_35) (K.2.2.2.2 _ wd_673) (Nat.le_of_ble_eq_true rfl) (Nat.le_of_ble_eq_true rfl) (Nat.le_of_ble_eq_true rfl) (Nat.le_of_ble_eq_true rfl) dc_Resampler_make_67 ?_
      refine lv_isub K.1 K.2.1 dc_Resampler_make_70 ?_
      refine lv_i2l K.1 K.2.1 dc_Resampler_make_71 rfl ?_
      refine lv_iload K.1 K.2.1 dc_Resampler_make_72 (lv_at hl 0 rfl) ?_
      refine lv_i2l K.1 K.2.1 dc_Resampler_make_74 rfl ?_
      refine lv_lmul K.1 K.2.1 dc_Resampler_make_75 ?_
      refine lv_ladd K.1 K.2.1 dc_Resampler_make_76 ?_
      refine lv_topl (fun v3 e_v3 => ?_)
      refine lv_lstore_n K.1 K.2.1 dc_Resampler_make_77 rfl hl (by decide) rfl (fun ls hl => ?_)
      have hl : lv_has ls 6 [(1, .long v3), (5, .int r3), (4, .int v1), (0, .ref h), (3, .int (nI k))] := hl
      refine lv_iinc (v := nI (k + 1)) K.1 K.2.1 dc_Resampler_make_78 hl (k := 4) rfl (nI_1 k) (by decide) rfl (fun ls hl => ?_)
      have hl : lv_has ls 6 [(3, .int (nI (k + 1))), (1, .long v3), (5, .int r3), (4, .int v1), (0, .ref h)] := hl
      refine lv_goto (tgt := 4) K.1 K.2.1 dc_Resampler_make_81 rfl ?_
      exact ih4 (k + 1, v3) _ _ _ (by show 2 * rs_r u d - 1 - (k + 1) < 2 * rs_r u d - 1 - k; omega) ⟨rs_add hrs hk hI4 e_v3 (rs_u1 hrs hm hk hpl b31 hat1), lv_sub hl [4, 1, 0] rfl, hP, hD, hS⟩
set_option maxHeartbeats 4000000 in
set_option maxRecDepth 100000 in
theorem ct_Resampler_clear (l : Launch) (D : va_G) (cI cO : ClassId) (tE : Nat) (h u d hr ha : Nat) (f : Nat → Int32) (sp : fm_S) (xs : List Int) (m : Nat) (hrs : rs_ok u d f sp xs m)  (sz : Nat) : Met l my_Resampler_clear (fq_w my_Resampler_clear cb_Resampler_clear 1 none) ({ frames := 1, cells := 0, slots := 0, locals := 20 }) (va_Pc ([.ref h]) (fq_Pre D cI cO tE sz ([(h, .inr (5, [.int (nI u), .int (nI d), .int (nI (rs_r u d)), .ref hr, .int (nI (m * d))])), (hr, .inr (1, [.ref ha, .int (nI xs.length)])), (ha, .inl (cI, 8, .inl f))]))) (va_Qv (S := va_W) (fun w => sg_res cI h sp [] 0 w) (fq_Bw D (va_A ([(h, .inr (5, [.int (nI u), .int (nI d), .int (nI (rs_r u d)), .ref hr, .int (nI (m * d))])), (hr, .inr (1, [.ref ha, .int (nI xs.length)])), (ha, .inl (cI, 8, .inl f))]) sz)) (va_A ([(h, .inr (5, [.int (nI u), .int (nI d), .int (nI (rs_r u d)), .ref hr, .int (nI (m * d))])), (hr, .inr (1, [.ref ha, .int (nI xs.length)])), (ha, .inl (cI, 8, .inl f))]) sz)) (0) (0) (va_A ([(h, .inr (5, [.int (nI u), .int (nI d), .int (nI (rs_r u d)), .ref hr, .int (nI (m * d))])), (hr, .inr (1, [.ref ha, .int (nI xs.length)])), (ha, .inl (cI, 8, .inl f))]) sz) := by
  refine fq_open (by decide +kernel) (Nat.le_of_ble_eq_true rfl) ?_
  intro pg ev s mt below meth cd ls K hret hlk hin hK hZ hP hD hA hS hl
  generalize va_A ([(h, .inr (5, [.int (nI u), .int (nI d), .int (nI (rs_r u d)), .ref hr, .int (nI (m * d))])), (hr, .inr (1, [.ref ha, .int (nI xs.length)])), (ha, .inl (cI, 8, .inl f))]) sz = A at hZ hD hA hS ⊢
  have K : fq_Ctx pg mt cd cb_Resampler_clear 1 s _ cn_Resampler := K
  have hl : lv_has ls 1 [(0, .ref h)] := hl
  refine lv_aload_n K.1 K.2.1 dc_Resampler_clear_0 rfl (lv_at hl 0 rfl) ?_
  refine fq_get K hK cl_Resampler hP 0 3 rfl (by decide) wd_433 rfl dc_Resampler_clear_1 ?_
  have hc := fq_cut.of (wc := [(hr, .inr (1, [.ref ha, .int (nI xs.length)])), (ha, .inl (cI, 8, .inl f))]) hP hD hS hA [1, 2] (by decide) rfl
  refine fq_cv (wr := [(h, .inr (5, [.int (nI u), .int (nI d), .int (nI (rs_r u d)), .ref hr, .int (nI (m * d))]))]) (fq_rV K hK hZ hS hc (ct_Recent_forget l D cI cO tE hr ha f xs _) yk_Recent_forget wd_527 wd_528 wd_526 0 rfl rfl rfl ⟨⟨rfl, rfl⟩, ⟨Nat.le_of_ble_eq_true rfl, Nat.le_of_ble_eq_true rfl⟩, ⟨Nat.le_of_ble_eq_true rfl, Nat.le_of_ble_eq_true rfl⟩⟩ hl.1 rfl (Nat.le_of_ble_eq_true rfl) dc_Resampler_clear_4) hP hD hS hc [1, 2] [0] rfl rfl (by decide) (by decide) (fun  w H locs hw1 hP hD hS => ?_)
  subst hw1
  have hP : va_P D fq_cl ([(h, .inr (5, [.int (nI u), .int (nI d), .int (nI (rs_r u d)), .ref hr, .int (nI (m * d))])), (hr, .inr (1, [.ref ha, .int 0])), (ha, .inl (cI, 8, .inl f))]) _ := hP
  have hD : va_D A ([(h, .inr (5, [.int (nI u), .int (nI d), .int (nI (rs_r u d)), .ref hr, .int (nI (m * d))])), (hr, .inr (1, [.ref ha, .int 0])), (ha, .inl (cI, 8, .inl f))]) := hD
  refine lv_aload_n K.1 K.2.1 dc_Resampler_clear_7 rfl (lv_at hl 0 rfl) ?_
  refine lv_iconst (v := 0) K.1 K.2.1 dc_Resampler_clear_8 (by decide) ?_
  refine fq_put K hK cl_Resampler hP hD hS 0 4 rfl (by decide) wd_434 rfl rfl rfl (Nat.le_of_ble_eq_true rfl) dc_Resampler_clear_9 (fun H locs hP hD hS => ?_)
  have hP : va_P D fq_cl ([(h, .inr (5, [.int (nI u), .int (nI d), .int (nI (rs_r u d)), .ref hr, .int 0])), (hr, .inr (1, [.ref ha, .int 0])), (ha, .inl (cI, 8, .inl f))]) _ := hP
  have hD : va_D A ([(h, .inr (5, [.int (nI u), .int (nI d), .int (nI (rs_r u d)), .ref hr, .int 0])), (hr, .inr (1, [.ref ha, .int 0])), (ha, .inl (cI, 8, .inl f))]) := hD
  exact fq_retv K hret hlk hS hP hD ⟨_, _, _, _, _, by rw [Nat.zero_mul]; rfl, rs_nil hrs⟩ dc_Resampler_clear_12 (Nat.le_of_ble_eq_true rfl) (Nat.le_of_ble_eq_true rfl)
