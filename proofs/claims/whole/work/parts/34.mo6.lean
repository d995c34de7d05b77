theorem wd_20 : Cond.selects cn_Mo my_Mo_sectionAt my_Mo_sectionAt ∈ fq_TB := fq_in 20 (by decide +kernel) rfl
theorem wd_21 : Cond.selects cn_Mo my_Mo_x my_Mo_x ∈ fq_TB := fq_in 21 (by decide +kernel) rfl
theorem wd_22 : Cond.selects cn_Mo my_Mo_windowAt my_Mo_windowAt ∈ fq_TB := fq_in 22 (by decide +kernel) rfl
theorem wd_23 : Cond.selects cn_Mo my_Mo_resampledAt my_Mo_resampledAt ∈ fq_TB := fq_in 23 (by decide +kernel) rfl
theorem wd_786 : Cond.fieldLink cn_Mo 29 cn_Mo "line" "[I" ∈ fq_TB := fq_in 786 (by decide +kernel) rfl
theorem wd_787 : Cond.fieldLink cn_Mo 32 cn_Mo "next" "[I" ∈ fq_TB := fq_in 787 (by decide +kernel) rfl
theorem wd_872 : Cond.constantLong cn_Mo 85 16384 ∈ fq_TB := fq_in 872 (by decide +kernel) rfl
theorem wd_947 : Cond.instanceMethod my_Mo_sectionAt ∈ fq_TB := fq_in 947 (by decide +kernel) rfl
theorem wd_948 : Cond.code my_Mo_sectionAt cb_Mo_sectionAt 10 (some .int) ∈ fq_TB := fq_in 948 (by decide +kernel) rfl
theorem wd_949 : Cond.methodLink cn_Mo 106 my_Mo_x ∈ fq_TB := fq_in 949 (by decide +kernel) rfl
theorem wd_951 : Cond.instanceMethod my_Mo_x ∈ fq_TB := fq_in 951 (by decide +kernel) rfl
theorem wd_952 : Cond.code my_Mo_x cb_Mo_x 3 (some .long) ∈ fq_TB := fq_in 952 (by decide +kernel) rfl
theorem wd_953 : Cond.methodLink cn_Mo 110 my_Mo_clipped ∈ fq_TB := fq_in 953 (by decide +kernel) rfl
theorem wd_962 : Cond.instanceMethod my_Mo_windowAt ∈ fq_TB := fq_in 962 (by decide +kernel) rfl
theorem wd_963 : Cond.code my_Mo_windowAt cb_Mo_windowAt 13 (some .int) ∈ fq_TB := fq_in 963 (by decide +kernel) rfl
theorem wd_966 : Cond.instanceMethod my_Mo_resampledAt ∈ fq_TB := fq_in 966 (by decide +kernel) rfl
theorem wd_967 : Cond.code my_Mo_resampledAt cb_Mo_resampledAt 14 (some .int) ∈ fq_TB := fq_in 967 (by decide +kernel) rfl
/-! the reference's rows of samples -/
def mo_L (f : Nat → Int32) (xs : List Int) : Prop := xs.length ≤ 2300 ∧ ∀ j, j < xs.length → (f j).toInt = xs.getD j 0
theorem mo_xi {f : Nat → Int32} {xs : List Int} {x : Int32} (h : mo_L f xs) (h1 : ¬ x < 0) (h2 : x < nI xs.length) : vp_in x 2300 := by
  have hl := h.1
  obtain ⟨j, hj, e⟩ := nI_of h1
  rw [e, nI_ltI hj (by omega)] at h2
  rw [e]; exact vp_in_nI (by omega) (by decide)
theorem mo_x1 {f : Nat → Int32} {xs : List Int} {x : Int32} (h : mo_L f xs) (h1 : ¬ x < 0) (h2 : x < nI xs.length) : ((f x.toNatClampNeg).toInt64).toInt = fm_x xs x.toInt := by
  have hl := h.1
  obtain ⟨j, hj, e⟩ := nI_of h1
  rw [e, nI_ltI hj (by omega)] at h2
  rw [e, nI_clamp hj, Kit.i64_of_i32, h.2 j h2, nI_toInt hj, fm_x_nat]
theorem mo_x0 {xs : List Int} {x : Int32} (h1 : x < 0) : (0 : Int64).toInt = fm_x xs x.toInt := by
  rw [Int32.lt_iff_toInt_lt, Int32.toInt_zero] at h1
  rw [fm_x_neg h1]; rfl
theorem mo_x2 {f : Nat → Int32} {xs : List Int} {x : Int32} (h : mo_L f xs) (h2 : ¬ x < nI xs.length) : (0 : Int64).toInt = fm_x xs x.toInt := by
  have hl := h.1
  rw [Int32.lt_iff_toInt_lt, nI_toInt (by omega)] at h2
  rw [fm_x_ge (by omega)]; rfl
/-! its stages -/
def mo_N (fN : Nat → Int32) (k : Nat) (sp : fm_S) : Prop := (fN (5 * k)).toInt = sp.2.1 ∧ (fN (5 * k + 1)).toInt = sp.2.2.1 ∧ (fN (5 * k + 2)).toInt = sp.2.2.2.1 ∧ (fN (5 * k + 3)).toInt = sp.2.2.2.2.1 ∧ (fN (5 * k + 4)).toInt = sp.2.2.2.2.2
theorem fn_pq {b : Int32} {x : Int64} (hb : -65536 ≤ b.toInt ∧ b.toInt ≤ 65536) (hx : fm_in x.toInt) : (b.toInt64 * x).toInt = b.toInt * x.toInt ∧ (b.toInt * x.toInt).natAbs ≤ 549755813888 := by
  unfold fm_in at hx
  have h := fn_bd (a := b.toInt) (b := x.toInt) (A := 65536) (B := 8388608) (by omega) (by omega)
  refine ⟨?_, h⟩
  rw [Kit.i64_mul (by rw [Kit.i64_of_i32]; omega) (by rw [Kit.i64_of_i32]; omega), Kit.i64_of_i32]
theorem mo_s1 {sp : fm_S} (h0 : sp.1 = 0) {xs : List Int} {i : Nat} (hi : 1 ≤ i) : fm_y sp xs (i - 1) = (fm_sec sp.2.1 sp.2.2.1 sp.2.2.2.1 sp.2.2.2.2.1 sp.2.2.2.2.2 xs i).1 := by
  unfold fm_y
  rw [if_pos h0, show i - 1 + 1 = i by omega]
theorem mo_s2 {sp : fm_S} (h0 : sp.1 = 0) {xs : List Int} {i : Nat} (hi : 2 ≤ i) : fm_y sp xs (i - 2) = (fm_sec sp.2.1 sp.2.2.1 sp.2.2.2.1 sp.2.2.2.2.1 sp.2.2.2.2.2 xs i).2 := by
  rw [← show (i - 2) + 1 + 1 = i by omega]
  unfold fm_y
  rw [if_pos h0, show i - 2 + 1 + 1 - 2 + 1 = i - 2 + 1 by omega]
  rfl
theorem mo_y1 {f : Nat → Int32} {sp : fm_S} (h0 : sp.1 = 0) {xs : List Int} {i : Nat} (hX : ∀ j, j < i → (f j).toInt = fm_y sp xs j) (hi : 1 ≤ i) : ((f (i - 1)).toInt64).toInt = (fm_sec sp.2.1 sp.2.2.1 sp.2.2.2.1 sp.2.2.2.2.1 sp.2.2.2.2.2 xs i).1 := by
  rw [Kit.i64_of_i32, hX (i - 1) (by omega)]; exact mo_s1 h0 hi
theorem mo_y2 {f : Nat → Int32} {sp : fm_S} (h0 : sp.1 = 0) {xs : List Int} {i : Nat} (hX : ∀ j, j < i → (f j).toInt = fm_y sp xs j) (hi : 2 ≤ i) : ((f (i - 2)).toInt64).toInt = (fm_sec sp.2.1 sp.2.2.1 sp.2.2.2.1 sp.2.2.2.2.1 sp.2.2.2.2.2 xs i).2 := by
  rw [Kit.i64_of_i32, hX (i - 2) (by omega)]; exact mo_s2 h0 hi
theorem mo_z1 {b0 b1 b2 a1 a2 : Int} {xs : List Int} {i : Nat} (hi : ¬ 1 ≤ i) : (0 : Int64).toInt = (fm_sec b0 b1 b2 a1 a2 xs i).1 := by
  rw [show i = 0 by omega]; rfl
theorem mo_z2 {b0 b1 b2 a1 a2 : Int} {xs : List Int} {i : Nat} (hi : ¬ 2 ≤ i) : (0 : Int64).toInt = (fm_sec b0 b1 b2 a1 a2 xs i).2 := by
  have : i = 0 ∨ i = 1 := by omega
  rcases this with rfl | rfl <;> rfl
theorem mo_sec {fN : Nat → Int32} {k i : Nat} {sp : fm_S} {xs : List Int} {r1 r2 r3 y1 y2 v w q : Int64} {r : Int32} (h0 : sp.1 = 0) (hok : fm_ok sp) (hN : mo_N fN k sp) (hx : ∀ v ∈ xs, fm_in v) (hi : i < 2300)
    (e1 : r1.toInt = fm_x xs (nI i).toInt) (e2 : r2.toInt = fm_x xs (nI i - 1).toInt) (e3 : r3.toInt = fm_x xs (nI i - 2).toInt)
    (f1 : y1.toInt = (fm_sec sp.2.1 sp.2.2.1 sp.2.2.2.1 sp.2.2.2.2.1 sp.2.2.2.2.2 xs i).1) (f2 : y2.toInt = (fm_sec sp.2.1 sp.2.2.1 sp.2.2.2.1 sp.2.2.2.2.1 sp.2.2.2.2.2 xs i).2)
    (ev : v = (fN (5 * k)).toInt64 * r1 + (fN (5 * k + 1)).toInt64 * r2 + (fN (5 * k + 2)).toInt64 * r3)
    (ew : w = v - (fN (5 * k + 3)).toInt64 * y1 - (fN (5 * k + 4)).toInt64 * y2)
    (hq : q.toInt = w.toInt / (16384 : Int64).toInt) (hr : r.toInt = fm_clip q.toInt) : r.toInt = fm_y sp xs i := by
  obtain ⟨n0, n1, n2, n3, n4⟩ := hN
  obtain ⟨c0, c1, c2, c3, c4⟩ := hok.2.1 h0
  rw [← n0] at c0; rw [← n1] at c1; rw [← n2] at c2; rw [← n3] at c3; rw [← n4] at c4
  have i0 : (nI i).toInt = (i : Int) := nI_toInt (by omega)
  have i1 : (nI i - 1).toInt = (i : Int) - 1 := pk_sub_toInt (a := i) (b := 1) (by omega) (by decide)
  have i2 : (nI i - 2).toInt = (i : Int) - 2 := pk_sub_toInt (a := i) (b := 2) (by omega) (by decide)
  rw [i0] at e1; rw [i1] at e2; rw [i2] at e3
  have x1 : fm_in r1.toInt := by rw [e1]; exact fm_x_in hx _
  have x2 : fm_in r2.toInt := by rw [e2]; exact fm_x_in hx _
  have x3 : fm_in r3.toInt := by rw [e3]; exact fm_x_in hx _
  have z1 : fm_in y1.toInt := by rw [f1]; exact (fm_sec_in _ _ _ _ _ _ _).1
  have z2 : fm_in y2.toInt := by rw [f2]; exact (fm_sec_in _ _ _ _ _ _ _).2
  obtain ⟨p0, q0⟩ := fn_pq c0 x1
  obtain ⟨p1, q1⟩ := fn_pq c1 x2
  obtain ⟨p2, q2⟩ := fn_pq c2 x3
  obtain ⟨p3, q3⟩ := fn_pq c3 z1
  obtain ⟨p4, q4⟩ := fn_pq c4 z2
  have s1 : ((fN (5 * k)).toInt64 * r1 + (fN (5 * k + 1)).toInt64 * r2).toInt = (fN (5 * k)).toInt * r1.toInt + (fN (5 * k + 1)).toInt * r2.toInt := by
    rw [Kit.i64_add (by rw [p0, p1]; omega) (by rw [p0, p1]; omega), p0, p1]
  have s2 : v.toInt = (fN (5 * k)).toInt * r1.toInt + (fN (5 * k + 1)).toInt * r2.toInt + (fN (5 * k + 2)).toInt * r3.toInt := by
    rw [ev, Kit.i64_add (by rw [s1, p2]; omega) (by rw [s1, p2]; omega), s1, p2]
  have s3 : (v - (fN (5 * k + 3)).toInt64 * y1).toInt = v.toInt - (fN (5 * k + 3)).toInt * y1.toInt := by
    rw [Kit.i64_sub (by rw [s2, p3]; omega) (by rw [s2, p3]; omega), p3]
  have s4 : w.toInt = v.toInt - (fN (5 * k + 3)).toInt * y1.toInt - (fN (5 * k + 4)).toInt * y2.toInt := by
    rw [ew, Kit.i64_sub (by rw [s3, s2, p4]; omega) (by rw [s3, s2, p4]; omega), s3, p4]
  rw [hr, hq, s4, s2, show (16384 : Int64).toInt = 16384 by decide, n0, n1, n2, n3, n4, e1, e2, e3, f1, f2]
  unfold fm_y
  rw [if_pos h0]
  rfl
/-! windows -/
theorem mo_w1a {sh : Int32} {k len : Nat} (h0 : ¬ sh = 0) (h2 : ¬ sh = 2) (hk : k < len) (hl : len ≤ 8) (hb : ¬ nI (len - k) ≤ nI (k + 1)) : (nI (k + 1)).toInt = fm_wt sh.toInt len k := by
  rw [nI_leI (by omega) (by omega)] at hb
  rw [nI_toInt (by omega)]
  unfold fm_wt
  rw [if_neg (fun z => h0 (Int32.toInt_inj.mp (z.trans (by decide)))), if_neg (fun z => h2 (Int32.toInt_inj.mp (z.trans (by decide)))), if_pos (by omega)]
  omega
theorem mo_w1b {sh : Int32} {k len : Nat} (h0 : ¬ sh = 0) (h2 : ¬ sh = 2) (hk : k < len) (hl : len ≤ 8) (hb : nI (len - k) ≤ nI (k + 1)) : (nI (len - k)).toInt = fm_wt sh.toInt len k := by
  rw [nI_leI (by omega) (by omega)] at hb
  rw [nI_toInt (by omega)]
  unfold fm_wt
  rw [if_neg (fun z => h0 (Int32.toInt_inj.mp (z.trans (by decide)))), if_neg (fun z => h2 (Int32.toInt_inj.mp (z.trans (by decide)))), if_neg (by omega)]
  omega
theorem mo_wl {sp : fm_S} (hok : fm_ok sp) (h2 : sp.1 = 2) : (sp.2.1 = 0 ∨ sp.2.1 = 1 ∨ sp.2.1 = 2) ∧ 1 ≤ sp.2.2.1.toNat ∧ sp.2.2.1.toNat ≤ 8 := by
  obtain ⟨a, b, c⟩ := hok.2.2.2.1 h2
  exact ⟨a, by omega, by omega⟩
theorem mo_wst {sp : fm_S} {xs : List Int} {i k : Nat} {s t v w r : Int64} {z : Int32} (hok : fm_ok sp) (h2 : sp.1 = 2) (hx : ∀ v ∈ xs, fm_in v) (hi : i < 2300) (hk : k < sp.2.2.1.toNat)
    (hI : k ≤ sp.2.2.1.toNat ∧ s.toInt = fm_sum (fun k => fm_wt sp.2.1 sp.2.2.1.toNat k * fm_x xs ((i : Int) - k)) k ∧ t.toInt = fm_sum (fm_wt sp.2.1 sp.2.2.1.toNat) k)
    (hz : z.toInt = fm_wt sp.2.1 sp.2.2.1.toNat k) (hr : r.toInt = fm_x xs (nI i - nI k).toInt) (ev : v = s + z.toInt64 * r) (ew : w = t + z.toInt64) :
    k + 1 ≤ sp.2.2.1.toNat ∧ v.toInt = fm_sum (fun k => fm_wt sp.2.1 sp.2.2.1.toNat k * fm_x xs ((i : Int) - k)) (k + 1) ∧ w.toInt = fm_sum (fm_wt sp.2.1 sp.2.2.1.toNat) (k + 1) := by
  obtain ⟨hs, l1, l8⟩ := mo_wl hok h2
  obtain ⟨-, hI1, hI2⟩ := hI
  have hwb := wn_wb hs hk l8
  rw [pk_sub_toInt (by omega) (by omega)] at hr
  have hin : fm_in r.toInt := by rw [hr]; exact fm_x_in hx _
  obtain ⟨p0, q0⟩ := fn_pq (b := z) (x := r) (by omega) hin
  have bs : ∀ j, j < k → -549755813888 ≤ fm_wt sp.2.1 sp.2.2.1.toNat j * fm_x xs ((i : Int) - j) ∧ fm_wt sp.2.1 sp.2.2.1.toNat j * fm_x xs ((i : Int) - j) ≤ 549755813888 := fun j hj => by
    have h1 := wn_wb hs (show j < sp.2.2.1.toNat by omega) l8
    have h2 := fm_x_in hx ((i : Int) - j)
    unfold fm_in at h2
    have h3 := fn_bd (a := fm_wt sp.2.1 sp.2.2.1.toNat j) (b := fm_x xs ((i : Int) - j)) (A := 65536) (B := 8388608) (by omega) (by omega)
    omega
  have b1 := fm_sum_le (f := fun k => fm_wt sp.2.1 sp.2.2.1.toNat k * fm_x xs ((i : Int) - k)) (B := 549755813888) (n := k) (fun j hj => (bs j hj).2)
  have b2 := fm_sum_ge (f := fun k => fm_wt sp.2.1 sp.2.2.1.toNat k * fm_x xs ((i : Int) - k)) (B := -549755813888) (n := k) (fun j hj => (bs j hj).1)
  have b3 := fm_sum_le (f := fm_wt sp.2.1 sp.2.2.1.toNat) (B := 64) (n := k) (fun j hj => (wn_wb hs (show j < sp.2.2.1.toNat by omega) l8).2)
  have b4 := fm_sum_ge (f := fm_wt sp.2.1 sp.2.2.1.toNat) (B := 0) (n := k) (fun j hj => by have := (wn_wb hs (show j < sp.2.2.1.toNat by omega) l8).1; omega)
  rw [← hI1] at b1 b2
  rw [← hI2] at b3 b4
  refine ⟨hk, ?_, ?_⟩
  · rw [ev, Kit.i64_add (by rw [p0]; omega) (by rw [p0]; omega), p0, hI1, hz, hr]; rfl
  · rw [ew, Kit.i64_add (by rw [Kit.i64_of_i32, hz]; omega) (by rw [Kit.i64_of_i32, hz]; omega), Kit.i64_of_i32, hz, hI2]; rfl
theorem mo_wp {sp : fm_S} {k : Nat} {t : Int64} (hok : fm_ok sp) (h2 : sp.1 = 2) (hk : k = sp.2.2.1.toNat) (ht : t.toInt = fm_sum (fm_wt sp.2.1 sp.2.2.1.toNat) k) : 0 < t.toInt := by
  obtain ⟨hs, l1, l8⟩ := mo_wl hok h2
  have b4 := fm_sum_ge (f := fm_wt sp.2.1 sp.2.2.1.toNat) (B := 1) (n := k) (fun j hj => (wn_wb hs (show j < sp.2.2.1.toNat by omega) l8).1)
  rw [← ht] at b4
  omega
theorem mo_wv {sp : fm_S} {xs : List Int} {i k : Nat} {s t q : Int64} (hok : fm_ok sp) (h2 : sp.1 = 2) (hx : ∀ v ∈ xs, fm_in v) (hk : k = sp.2.2.1.toNat)
    (hI : k ≤ sp.2.2.1.toNat ∧ s.toInt = fm_sum (fun k => fm_wt sp.2.1 sp.2.2.1.toNat k * fm_x xs ((i : Int) - k)) k ∧ t.toInt = fm_sum (fm_wt sp.2.1 sp.2.2.1.toNat) k)
    (hq : q.toInt = s.toInt / t.toInt) : q.toInt32.toInt = fm_y sp xs i := by
  obtain ⟨hs, l1, l8⟩ := mo_wl hok h2
  have hin := fm_win_in (m := i) hs l1 l8 hx
  rw [hI.2.1, hI.2.2, hk] at hq
  have e : fm_y sp xs i = fm_sum (fun k => fm_wt sp.2.1 sp.2.2.1.toNat k * fm_x xs ((i : Int) - k)) sp.2.2.1.toNat / fm_sum (fm_wt sp.2.1 sp.2.2.1.toNat) sp.2.2.1.toNat := by
    unfold fm_y
    rw [if_neg (by omega), if_neg (by omega), if_pos h2]
  rw [← hq] at e hin
  unfold fm_in at hin
  rw [e, Kit.i32_of_i64 (by omega) (by omega)]

/-! resamplers -/
def mo_U (sp : fm_S) (u d : Nat) : Prop := sp.1 = 3 ∧ sp.2.1 = (u : Int) ∧ sp.2.2.1 = (d : Int) ∧ (1 ≤ u ∧ u ≤ 4) ∧ (1 ≤ d ∧ d ≤ 4)
theorem mo_Uo {sp : fm_S} (hok : fm_ok sp) (h : sp.1 = 3) : mo_U sp sp.2.1.toNat sp.2.2.1.toNat := by
  obtain ⟨hu, hd⟩ := hok.2.2.2.2 h
  exact ⟨h, by omega, by omega, ⟨by omega, by omega⟩, ⟨by omega, by omega⟩⟩
theorem mo_mx1 {u d : Nat} (hu : 1 ≤ u ∧ u ≤ 4) (hd : 1 ≤ d ∧ d ≤ 4) (h : nI u ≤ nI d) : nI d = nI (rs_r u d) := by
  rw [nI_leI (by omega) (by omega)] at h
  unfold rs_r
  split
  · rfl
  · congr 1; omega
theorem mo_mx2 {u d : Nat} (hu : 1 ≤ u ∧ u ≤ 4) (hd : 1 ≤ d ∧ d ≤ 4) (h : ¬ nI u ≤ nI d) : nI u = nI (rs_r u d) := by
  rw [nI_leI (by omega) (by omega)] at h
  unfold rs_r
  rw [if_neg (by omega)]
theorem mo_u0 {u d m k : Nat} {xs : List Int} {p : Int32} (hp : p.toInt = (m : Int) * d - k) (h : p < 0) : (0 : Int64).toInt = fm_u (u : Int) xs ((m : Int) * d - k) := by
  rw [Int32.lt_iff_toInt_lt, Int32.toInt_zero, hp] at h
  unfold fm_u
  rw [if_neg (fun z => by omega)]; rfl
theorem mo_u1 {u d m k : Nat} {xs : List Int} {p : Int32} (hu : 1 ≤ u ∧ u ≤ 4) (hp : p.toInt = (m : Int) * d - k) (hz : ¬ p - p / nI u * nI u = 0) : (0 : Int64).toInt = fm_u (u : Int) xs ((m : Int) * d - k) := by
  rw [rs_rem hu, hp] at hz
  unfold fm_u
  rw [if_neg (fun z => hz z.2)]; rfl
theorem mo_u2 {u d m k : Nat} {xs : List Int} {p : Int32} {r : Int64} (hu : 1 ≤ u ∧ u ≤ 4) (hp : p.toInt = (m : Int) * d - k) (h0 : ¬ p < 0) (hz : p - p / nI u * nI u = 0) (hr : r.toInt = fm_x xs (p / nI u).toInt) : r.toInt = fm_u (u : Int) xs ((m : Int) * d - k) := by
  rw [Int32.lt_iff_toInt_lt, Int32.toInt_zero] at h0
  have hz' := hz
  rw [rs_rem hu] at hz
  have e1 : (nI u).toInt = (u : Int) := nI_toInt (by omega)
  have hd : (p / nI u).toInt = p.toInt / u := by
    rw [Kit.i32_div (fun z => by omega), e1]
    rcases fn_td (a := p.toInt) (b := (u : Int)) (by omega) with z | z | z
    · exact z.2
    · exact z.2.2
    · exact absurd (Int.dvd_of_emod_eq_zero hz) z.1
  rw [hd, hp] at hr
  rw [hp] at hz h0
  unfold fm_u
  rw [if_pos ⟨by omega, hz⟩, hr]
theorem mo_pl {m d k r : Nat} {p : Int32} (hm : m < 2300) (hd : 1 ≤ d ∧ d ≤ 4) (hk : k < 2 * r - 1) (hr : 1 ≤ r ∧ r ≤ 4) (e : p = nI (m * d) - nI k) : p.toInt = (m : Int) * d - k := by
  have : m * d ≤ 2300 * 4 := Nat.mul_le_mul (by omega) hd.2
  rw [e, pk_sub_toInt (by omega) (by omega), Int.natCast_mul]
theorem mo_f1 {r k : Nat} {f : Int32} (hr : 1 ≤ r ∧ r ≤ 4) (hk : k < 2 * r - 1) (e : f = nI k - (nI r - 1)) (h : 0 ≤ f) : (nI r - f).toInt = fm_far (r : Int) k := by
  have k1 := (rs_far hr hk).1
  rw [← e, if_pos h] at k1
  exact k1
theorem mo_f2 {r k : Nat} {f : Int32} (hr : 1 ≤ r ∧ r ≤ 4) (hk : k < 2 * r - 1) (e : f = nI k - (nI r - 1)) (h : ¬ 0 ≤ f) : (nI r - -f).toInt = fm_far (r : Int) k := by
  have k1 := (rs_far hr hk).1
  rw [← e, if_neg h] at k1
  rw [← k1, Int32.zero_sub]
theorem mo_rst {u d m k : Nat} {sp : fm_S} {xs : List Int} {s v z : Int64} {f : Int32} (hU : mo_U sp u d) (hx : ∀ v ∈ xs, fm_in v) (hk : k < 2 * rs_r u d - 1) (hI : k ≤ 2 * rs_r u d - 1 ∧ s.toInt = fm_sum (fun i => fm_far (rs_r u d : Int) i * fm_u (u : Int) xs ((m : Int) * d - i)) k)
    (hf : f.toInt = fm_far (rs_r u d : Int) k) (hz : z.toInt = fm_u (u : Int) xs ((m : Int) * d - k)) (ev : v = s + f.toInt64 * z) :
    k + 1 ≤ 2 * rs_r u d - 1 ∧ v.toInt = fm_sum (fun i => fm_far (rs_r u d : Int) i * fm_u (u : Int) xs ((m : Int) * d - i)) (k + 1) := by
  have hrr := rs_rb hU.2.2.2.1 hU.2.2.2.2
  have f2 := fm_far_b hrr hk
  have hin : fm_in z.toInt := by rw [hz]; exact fm_u_in hx
  obtain ⟨p0, q0⟩ := fn_pq (b := f) (x := z) (by omega) hin
  have hs := rs_sb (u := u) (m := m) (d := d) hrr hx (k := k) (by omega)
  refine ⟨hk, ?_⟩
  rw [ev, Kit.i64_add (by rw [hI.2, p0]; omega) (by rw [hI.2, p0]; omega), hI.2, p0, hf, hz]
  rfl
theorem mo_rv {u d m k : Nat} {sp : fm_S} {xs : List Int} {s q : Int64} {r : Int32} (hU : mo_U sp u d) (hx : ∀ v ∈ xs, fm_in v) (hk : k = 2 * rs_r u d - 1) (hI : k ≤ 2 * rs_r u d - 1 ∧ s.toInt = fm_sum (fun i => fm_far (rs_r u d : Int) i * fm_u (u : Int) xs ((m : Int) * d - i)) k)
    (hq : q.toInt = ((nI u).toInt64 * s).toInt / ((nI (rs_r u d)).toInt64 * (nI (rs_r u d)).toInt64).toInt) (hr : r.toInt = fm_clip q.toInt) : r.toInt = fm_y sp xs m := by
  obtain ⟨k3, e1, e2, hu, hd⟩ := hU
  have hrr := rs_rb hu hd
  have hs := rs_sb (u := u) (m := m) (d := d) hrr hx (k := k) (by omega)
  rw [← hI.2] at hs
  have eu : (nI u).toInt64.toInt = (u : Int) := by rw [Kit.i64_of_i32, nI_toInt (by omega)]
  have er : (nI (rs_r u d)).toInt64.toInt = (rs_r u d : Int) := by rw [Kit.i64_of_i32, nI_toInt (by omega)]
  have h3 := fn_bd (a := (u : Int)) (b := s.toInt) (A := 4) (B := 7 * 33554432) (by omega) hs
  have h4 := fn_bd (a := (rs_r u d : Int)) (b := (rs_r u d : Int)) (A := 4) (B := 4) (by omega) (by omega)
  rw [Kit.i64_mul (by rw [eu]; omega) (by rw [eu]; omega), Kit.i64_mul (by rw [er]; omega) (by rw [er]; omega), eu, er, hI.2] at hq
  unfold fm_y
  rw [if_neg (by omega), if_neg (by omega), if_neg (by omega), hr, hq, e1, e2, rs_max, hk, show (2 * (rs_r u d : Int) - 1).toNat = 2 * rs_r u d - 1 by omega]
theorem mo_kg {k r : Nat} (hk : k ≤ 2 * r - 1) (hr : 1 ≤ r ∧ r ≤ 4) (h : nI (2 * r - 2) < nI k) : k = 2 * r - 1 := by
  rw [nI_ltI (by omega) (by omega)] at h; omega
theorem mo_kl {k r : Nat} (hk : k ≤ 2 * r - 1) (hr : 1 ≤ r ∧ r ≤ 4) (h : ¬ nI (2 * r - 2) < nI k) : k < 2 * r - 1 := by
  rw [nI_ltI (by omega) (by omega)] at h; omega
/-! how many -/
theorem mo_nt {x : Int32} {v : Int} (h : x.toInt = v) (h0 : 0 ≤ v) : x = nI v.toNat := by
  subst h; exact fz_n h0
theorem mo_m0 {sp : fm_S} {fl : Bool} {n : Nat} (h : n = 0 ∨ sp.1 < 2) : nI n = nI (fm_m sp fl n) := by
  unfold fm_m; rw [if_pos h]
theorem mo_m2 {sp : fm_S} {fl : Bool} {n : Nat} (h0 : ¬ n = 0) (h2 : sp.1 = 2) (hf : fl = false) : nI n = nI (fm_m sp fl n) := by
  unfold fm_m; rw [if_neg (by omega), if_pos h2, hf]; rfl
theorem mo_m2t {sp : fm_S} {fl : Bool} {n : Nat} (h0 : ¬ n = 0) (h2 : sp.1 = 2) (hf : fl = true) : nI (n + sp.2.2.1.toNat - 1) = nI (fm_m sp fl n) := by
  unfold fm_m; rw [if_neg (by omega), if_pos h2, hf]; rfl
theorem mo_fm {u d : Int} (hu : 0 ≤ u) (hd : 0 ≤ d) : (fm_max u d).toNat = rs_r u.toNat d.toNat := by
  unfold fm_max rs_r
  split <;> split <;> omega
theorem mo_m3t {sp : fm_S} {fl : Bool} {n : Nat} (hok : fm_ok sp) (h0 : ¬ n = 0) (h3 : sp.1 = 3) (hf : fl = true) : nI ((n * sp.2.1.toNat + 2 * rs_r sp.2.1.toNat sp.2.2.1.toNat - 3) / sp.2.2.1.toNat + 1) = nI (fm_m sp fl n) := by
  obtain ⟨hu, hd⟩ := hok.2.2.2.2 h3
  unfold fm_m; rw [if_neg (by omega), if_neg (by omega), hf, mo_fm (by omega) (by omega)]; rfl
theorem mo_m3 {sp : fm_S} {fl : Bool} {n : Nat} (h0 : ¬ n = 0) (h3 : sp.1 = 3) (hf : fl = false) : nI ((n * sp.2.1.toNat + sp.2.2.1.toNat - 1) / sp.2.2.1.toNat) = nI (fm_m sp fl n) := by
  unfold fm_m; rw [if_neg (by omega), if_neg (by omega), hf]; rfl
theorem mo_nb {n u : Nat} (hn : n ≤ 2300) (hu : 1 ≤ u ∧ u ≤ 4) (h0 : ¬ n = 0) : 1 ≤ n * u ∧ n * u ≤ 9200 :=
  ⟨Nat.mul_pos (by omega) hu.1, Nat.le_trans (Nat.mul_le_mul hn hu.2) (by decide)⟩
/-! the pass -/
theorem mo_yu {f : Nat → Int32} {sp : fm_S} {xs : List Int} {i : Nat} {v : Int32} (h : ∀ j, j < i → (f j).toInt = fm_y sp xs j) (hv : v.toInt = fm_y sp xs i) : ∀ j, j < i + 1 → (upd f i v j).toInt = fm_y sp xs j := fun j hj => by
  by_cases e : j = i
  · rw [e, pk_us]; exact hv
  · rw [pk_un e]; exact h j (by omega)
theorem mo_cu {f g : Nat → Int32} {i : Nat} (h : ∀ j, j < i → f j = g j) : ∀ j, j < i + 1 → upd f i (g i) j = g j := fun j hj => by
  by_cases e : j = i
  · rw [e, pk_us]
  · rw [pk_un e]; exact h j (by omega)
theorem mo_gain {fN : Nat → Int32} {k i : Nat} {sp : fm_S} {xs : List Int} {r q : Int64} {v : Int32} (h1 : sp.1 = 1) (hok : fm_ok sp) (hN : mo_N fN k sp) (hx : ∀ v ∈ xs, fm_in v) (hi : i < 2300) (hr : r.toInt = fm_x xs (nI i).toInt)
    (hq : q.toInt = ((fN (5 * k)).toInt64 * r).toInt / (256 : Int64).toInt) (hv : v.toInt = fm_clip q.toInt) : v.toInt = fm_y sp xs i := by
  have hb := hok.2.2.1 h1
  rw [nI_toInt (by omega)] at hr
  have hin : fm_in r.toInt := by rw [hr]; exact fm_x_in hx _
  obtain ⟨p0, -⟩ := fn_pq (b := fN (5 * k)) (x := r) (by rw [hN.1]; omega) hin
  rw [hv, hq, p0, hN.1, hr, show (256 : Int64).toInt = 256 by decide]
  unfold fm_y
  rw [if_neg (by omega), if_pos h1]
theorem mo_Lo {f g : Nat → Int32} {sp : fm_S} {xs : List Int} {m : Nat} (hm : m ≤ 2300) (hf : ∀ j, j < m → (f j).toInt = fm_y sp xs j) (hg : ∀ j, j < m → g j = f j) : mo_L g ((List.range m).map (fm_y sp xs)) := by
  refine ⟨by simp; exact hm, fun j hj => ?_⟩
  have hj : j < m := by simpa using hj
  rw [hg j hj, hf j hj, List.getD_eq_getElem?_getD, List.getElem?_map, List.getElem?_range hj]; rfl
/-! the work -/
def mo_K (fK fN : Nat → Int32) (P : List fm_S) : Prop := ∀ (k : Nat) (sp : fm_S), P[k]? = some sp → fK k = nI sp.1 ∧ mo_N fN k sp ∧ (sp.1 = 0 → is_c sp.2.2.2.2.1 sp.2.2.2.2.2)
theorem mo_cp {f g : Nat → Int32} {xs : List Int} {i : Nat} (hl : xs.length ≤ 2300) (hi : i = xs.length) (h : ∀ j, j < i → f j = g j) (hg : ∀ j, j < xs.length → (g j).toInt = xs.getD j 0) : mo_L f xs := by
  subst hi
  exact ⟨hl, fun j hj => by rw [h j hj]; exact hg j hj⟩
theorem mo_tkl {P : List fm_S} (h : pl_ok P) (fl : Bool) {X : List Int} (hX : X.length ≤ 120) (k : Nat) : (fm_O (P.take k) fl X).length ≤ 2286 := by
  have := pl_Ol (pl_sub h (P.take_sublist k)) fl X
  omega
theorem mo_tki {P : List fm_S} (h : pl_ok P) (fl : Bool) {X : List Int} (hX : ∀ v ∈ X, fm_in v) (k : Nat) : ∀ v ∈ fm_O (P.take k) fl X, fm_in v := pl_Oin fl (fun sp hsp => h.1 sp (List.mem_of_mem_take hsp)) hX
theorem mo_tks {P : List fm_S} {fl : Bool} {X : List Int} {k : Nat} {sp : fm_S} (h : P[k]? = some sp) : fm_O (P.take (k + 1)) fl X = fm_o sp fl (fm_O (P.take k) fl X) := by
  rw [pl_tk h, pl_Os]
theorem mo_tka {P : List fm_S} {fl : Bool} {X : List Int} {k : Nat} (h : k = P.length) : fm_O (P.take k) fl X = fm_O P fl X := by
  rw [h, List.take_length]


theorem dc_Mo_x_0 : decode cb_Mo_x 0 = .ok (.iload_n 1, 1) := by decide +kernel
theorem dc_Mo_x_1 : decode cb_Mo_x 1 = .ok (.ifCond .lt 8, 3) := by decide +kernel
theorem dc_Mo_x_4 : decode cb_Mo_x 4 = .ok (.iload_n 1, 1) := by decide +kernel
theorem dc_Mo_x_5 : decode cb_Mo_x 5 = .ok (.iload_n 2, 1) := by decide +kernel
theorem dc_Mo_x_6 : decode cb_Mo_x 6 = .ok (.if_icmp .lt 7, 3) := by decide +kernel
theorem dc_Mo_x_9 : decode cb_Mo_x 9 = .ok (.lconst 0, 1) := by decide +kernel
theorem dc_Mo_x_10 : decode cb_Mo_x 10 = .ok (.goto 10, 3) := by decide +kernel
theorem dc_Mo_x_13 : decode cb_Mo_x 13 = .ok (.aload_n 0, 1) := by decide +kernel
theorem dc_Mo_x_14 : decode cb_Mo_x 14 = .ok (.getfield 29, 3) := by decide +kernel
theorem dc_Mo_x_17 : decode cb_Mo_x 17 = .ok (.iload_n 1, 1) := by decide +kernel
theorem dc_Mo_x_18 : decode cb_Mo_x 18 = .ok (.iaload, 1) := by decide +kernel
theorem dc_Mo_x_19 : decode cb_Mo_x 19 = .ok (.i2l, 1) := by decide +kernel
theorem dc_Mo_x_20 : decode cb_Mo_x 20 = .ok (.lreturn, 1) := by decide +kernel
theorem yk_Mo_x : fq_Y my_Mo_x cb_Mo_x 3 (some .long) 2 := ⟨wd_952, wd_36, by decide +kernel⟩
theorem dc_Mo_sectionAt_0 : decode cb_Mo_sectionAt 0 = .ok (.aload_n 0, 1) := by decide +kernel
theorem dc_Mo_sectionAt_1 : decode cb_Mo_sectionAt 1 = .ok (.getfield 13, 3) := by decide +kernel
theorem dc_Mo_sectionAt_4 : decode cb_Mo_sectionAt 4 = .ok (.iload_n 1, 1) := by decide +kernel
theorem dc_Mo_sectionAt_5 : decode cb_Mo_sectionAt 5 = .ok (.iaload, 1) := by decide +kernel
theorem dc_Mo_sectionAt_6 : decode cb_Mo_sectionAt 6 = .ok (.i2l, 1) := by decide +kernel
theorem dc_Mo_sectionAt_7 : decode cb_Mo_sectionAt 7 = .ok (.aload_n 0, 1) := by decide +kernel
theorem dc_Mo_sectionAt_8 : decode cb_Mo_sectionAt 8 = .ok (.iload_n 2, 1) := by decide +kernel
theorem dc_Mo_sectionAt_9 : decode cb_Mo_sectionAt 9 = .ok (.iload_n 3, 1) := by decide +kernel
theorem dc_Mo_sectionAt_10 : decode cb_Mo_sectionAt 10 = .ok (.invokevirtual 106, 3) := by decide +kernel
theorem dc_Mo_sectionAt_13 : decode cb_Mo_sectionAt 13 = .ok (.lmul, 1) := by decide +kernel
theorem dc_Mo_sectionAt_14 : decode cb_Mo_sectionAt 14 = .ok (.aload_n 0, 1) := by decide +kernel
theorem dc_Mo_sectionAt_15 : decode cb_Mo_sectionAt 15 = .ok (.getfield 13, 3) := by decide +kernel
theorem dc_Mo_sectionAt_18 : decode cb_Mo_sectionAt 18 = .ok (.iload_n 1, 1) := by decide +kernel
theorem dc_Mo_sectionAt_19 : decode cb_Mo_sectionAt 19 = .ok (.iconst 1, 1) := by decide +kernel
theorem dc_Mo_sectionAt_20 : decode cb_Mo_sectionAt 20 = .ok (.iadd, 1) := by decide +kernel
theorem dc_Mo_sectionAt_21 : decode cb_Mo_sectionAt 21 = .ok (.iaload, 1) := by decide +kernel
theorem dc_Mo_sectionAt_22 : decode cb_Mo_sectionAt 22 = .ok (.i2l, 1) := by decide +kernel
theorem dc_Mo_sectionAt_23 : decode cb_Mo_sectionAt 23 = .ok (.aload_n 0, 1) := by decide +kernel
theorem dc_Mo_sectionAt_24 : decode cb_Mo_sectionAt 24 = .ok (.iload_n 2, 1) := by decide +kernel
theorem dc_Mo_sectionAt_25 : decode cb_Mo_sectionAt 25 = .ok (.iconst 1, 1) := by decide +kernel
theorem dc_Mo_sectionAt_26 : decode cb_Mo_sectionAt 26 = .ok (.isub, 1) := by decide +kernel
theorem dc_Mo_sectionAt_27 : decode cb_Mo_sectionAt 27 = .ok (.iload_n 3, 1) := by decide +kernel
theorem dc_Mo_sectionAt_28 : decode cb_Mo_sectionAt 28 = .ok (.invokevirtual 106, 3) := by decide +kernel
theorem dc_Mo_sectionAt_31 : decode cb_Mo_sectionAt 31 = .ok (.lmul, 1) := by decide +kernel
theorem dc_Mo_sectionAt_32 : decode cb_Mo_sectionAt 32 = .ok (.ladd, 1) := by decide +kernel
theorem dc_Mo_sectionAt_33 : decode cb_Mo_sectionAt 33 = .ok (.aload_n 0, 1) := by decide +kernel
theorem dc_Mo_sectionAt_34 : decode cb_Mo_sectionAt 34 = .ok (.getfield 13, 3) := by decide +kernel
theorem dc_Mo_sectionAt_37 : decode cb_Mo_sectionAt 37 = .ok (.iload_n 1, 1) := by decide +kernel
theorem dc_Mo_sectionAt_38 : decode cb_Mo_sectionAt 38 = .ok (.iconst 2, 1) := by decide +kernel
theorem dc_Mo_sectionAt_39 : decode cb_Mo_sectionAt 39 = .ok (.iadd, 1) := by decide +kernel
theorem dc_Mo_sectionAt_40 : decode cb_Mo_sectionAt 40 = .ok (.iaload, 1) := by decide +kernel
theorem dc_Mo_sectionAt_41 : decode cb_Mo_sectionAt 41 = .ok (.i2l, 1) := by decide +kernel
theorem dc_Mo_sectionAt_42 : decode cb_Mo_sectionAt 42 = .ok (.aload_n 0, 1) := by decide +kernel
theorem dc_Mo_sectionAt_43 : decode cb_Mo_sectionAt 43 = .ok (.iload_n 2, 1) := by decide +kernel
theorem dc_Mo_sectionAt_44 : decode cb_Mo_sectionAt 44 = .ok (.iconst 2, 1) := by decide +kernel
theorem dc_Mo_sectionAt_45 : decode cb_Mo_sectionAt 45 = .ok (.isub, 1) := by decide +kernel
theorem dc_Mo_sectionAt_46 : decode cb_Mo_sectionAt 46 = .ok (.iload_n 3, 1) := by decide +kernel
theorem dc_Mo_sectionAt_47 : decode cb_Mo_sectionAt 47 = .ok (.invokevirtual 106, 3) := by decide +kernel
theorem dc_Mo_sectionAt_50 : decode cb_Mo_sectionAt 50 = .ok (.lmul, 1) := by decide +kernel
theorem dc_Mo_sectionAt_51 : decode cb_Mo_sectionAt 51 = .ok (.ladd, 1) := by decide +kernel
theorem dc_Mo_sectionAt_52 : decode cb_Mo_sectionAt 52 = .ok (.lstore 4, 2) := by decide +kernel
theorem dc_Mo_sectionAt_54 : decode cb_Mo_sectionAt 54 = .ok (.iload_n 2, 1) := by decide +kernel
theorem dc_Mo_sectionAt_55 : decode cb_Mo_sectionAt 55 = .ok (.iconst 1, 1) := by decide +kernel
theorem dc_Mo_sectionAt_56 : decode cb_Mo_sectionAt 56 = .ok (.if_icmp .ge 7, 3) := by decide +kernel
theorem dc_Mo_sectionAt_59 : decode cb_Mo_sectionAt 59 = .ok (.lconst 0, 1) := by decide +kernel
theorem dc_Mo_sectionAt_60 : decode cb_Mo_sectionAt 60 = .ok (.goto 12, 3) := by decide +kernel
theorem dc_Mo_sectionAt_63 : decode cb_Mo_sectionAt 63 = .ok (.aload_n 0, 1) := by decide +kernel
theorem dc_Mo_sectionAt_64 : decode cb_Mo_sectionAt 64 = .ok (.getfield 32, 3) := by decide +kernel
theorem dc_Mo_sectionAt_67 : decode cb_Mo_sectionAt 67 = .ok (.iload_n 2, 1) := by decide +kernel
theorem dc_Mo_sectionAt_68 : decode cb_Mo_sectionAt 68 = .ok (.iconst 1, 1) := by decide +kernel
theorem dc_Mo_sectionAt_69 : decode cb_Mo_sectionAt 69 = .ok (.isub, 1) := by decide +kernel
theorem dc_Mo_sectionAt_70 : decode cb_Mo_sectionAt 70 = .ok (.iaload, 1) := by decide +kernel
theorem dc_Mo_sectionAt_71 : decode cb_Mo_sectionAt 71 = .ok (.i2l, 1) := by decide +kernel
theorem dc_Mo_sectionAt_72 : decode cb_Mo_sectionAt 72 = .ok (.lstore 6, 2) := by decide +kernel
theorem dc_Mo_sectionAt_74 : decode cb_Mo_sectionAt 74 = .ok (.iload_n 2, 1) := by decide +kernel
theorem dc_Mo_sectionAt_75 : decode cb_Mo_sectionAt 75 = .ok (.iconst 2, 1) := by decide +kernel
theorem dc_Mo_sectionAt_76 : decode cb_Mo_sectionAt 76 = .ok (.if_icmp .ge 7, 3) := by decide +kernel
theorem dc_Mo_sectionAt_79 : decode cb_Mo_sectionAt 79 = .ok (.lconst 0, 1) := by decide +kernel
theorem dc_Mo_sectionAt_80 : decode cb_Mo_sectionAt 80 = .ok (.goto 12, 3) := by decide +kernel
theorem dc_Mo_sectionAt_83 : decode cb_Mo_sectionAt 83 = .ok (.aload_n 0, 1) := by decide +kernel
theorem dc_Mo_sectionAt_84 : decode cb_Mo_sectionAt 84 = .ok (.getfield 32, 3) := by decide +kernel
theorem dc_Mo_sectionAt_87 : decode cb_Mo_sectionAt 87 = .ok (.iload_n 2, 1) := by decide +kernel
theorem dc_Mo_sectionAt_88 : decode cb_Mo_sectionAt 88 = .ok (.iconst 2, 1) := by decide +kernel
theorem dc_Mo_sectionAt_89 : decode cb_Mo_sectionAt 89 = .ok (.isub, 1) := by decide +kernel
theorem dc_Mo_sectionAt_90 : decode cb_Mo_sectionAt 90 = .ok (.iaload, 1) := by decide +kernel
theorem dc_Mo_sectionAt_91 : decode cb_Mo_sectionAt 91 = .ok (.i2l, 1) := by decide +kernel
theorem dc_Mo_sectionAt_92 : decode cb_Mo_sectionAt 92 = .ok (.lstore 8, 2) := by decide +kernel
theorem dc_Mo_sectionAt_94 : decode cb_Mo_sectionAt 94 = .ok (.lload 4, 2) := by decide +kernel
theorem dc_Mo_sectionAt_96 : decode cb_Mo_sectionAt 96 = .ok (.aload_n 0, 1) := by decide +kernel
theorem dc_Mo_sectionAt_97 : decode cb_Mo_sectionAt 97 = .ok (.getfield 13, 3) := by decide +kernel
theorem dc_Mo_sectionAt_100 : decode cb_Mo_sectionAt 100 = .ok (.iload_n 1, 1) := by decide +kernel
theorem dc_Mo_sectionAt_101 : decode cb_Mo_sectionAt 101 = .ok (.iconst 3, 1) := by decide +kernel
theorem dc_Mo_sectionAt_102 : decode cb_Mo_sectionAt 102 = .ok (.iadd, 1) := by decide +kernel
theorem dc_Mo_sectionAt_103 : decode cb_Mo_sectionAt 103 = .ok (.iaload, 1) := by decide +kernel
theorem dc_Mo_sectionAt_104 : decode cb_Mo_sectionAt 104 = .ok (.i2l, 1) := by decide +kernel
theorem dc_Mo_sectionAt_105 : decode cb_Mo_sectionAt 105 = .ok (.lload 6, 2) := by decide +kernel
theorem dc_Mo_sectionAt_107 : decode cb_Mo_sectionAt 107 = .ok (.lmul, 1) := by decide +kernel
theorem dc_Mo_sectionAt_108 : decode cb_Mo_sectionAt 108 = .ok (.lsub, 1) := by decide +kernel
theorem dc_Mo_sectionAt_109 : decode cb_Mo_sectionAt 109 = .ok (.aload_n 0, 1) := by decide +kernel
theorem dc_Mo_sectionAt_110 : decode cb_Mo_sectionAt 110 = .ok (.getfield 13, 3) := by decide +kernel
theorem dc_Mo_sectionAt_113 : decode cb_Mo_sectionAt 113 = .ok (.iload_n 1, 1) := by decide +kernel
theorem dc_Mo_sectionAt_114 : decode cb_Mo_sectionAt 114 = .ok (.iconst 4, 1) := by decide +kernel
theorem dc_Mo_sectionAt_115 : decode cb_Mo_sectionAt 115 = .ok (.iadd, 1) := by decide +kernel
theorem dc_Mo_sectionAt_116 : decode cb_Mo_sectionAt 116 = .ok (.iaload, 1) := by decide +kernel
theorem dc_Mo_sectionAt_117 : decode cb_Mo_sectionAt 117 = .ok (.i2l, 1) := by decide +kernel
theorem dc_Mo_sectionAt_118 : decode cb_Mo_sectionAt 118 = .ok (.lload 8, 2) := by decide +kernel
theorem dc_Mo_sectionAt_120 : decode cb_Mo_sectionAt 120 = .ok (.lmul, 1) := by decide +kernel
theorem dc_Mo_sectionAt_121 : decode cb_Mo_sectionAt 121 = .ok (.lsub, 1) := by decide +kernel
theorem dc_Mo_sectionAt_122 : decode cb_Mo_sectionAt 122 = .ok (.lstore 4, 2) := by decide +kernel
theorem dc_Mo_sectionAt_124 : decode cb_Mo_sectionAt 124 = .ok (.lload 4, 2) := by decide +kernel
theorem dc_Mo_sectionAt_126 : decode cb_Mo_sectionAt 126 = .ok (.ldc2_w 85, 3) := by decide +kernel
theorem dc_Mo_sectionAt_129 : decode cb_Mo_sectionAt 129 = .ok (.invokestatic 40, 3) := by decide +kernel
theorem dc_Mo_sectionAt_132 : decode cb_Mo_sectionAt 132 = .ok (.invokestatic 110, 3) := by decide +kernel
theorem dc_Mo_sectionAt_135 : decode cb_Mo_sectionAt 135 = .ok (.ireturn, 1) := by decide +kernel
theorem yk_Mo_sectionAt : fq_Y my_Mo_sectionAt cb_Mo_sectionAt 10 (some .int) 3 := ⟨wd_948, wd_36, by decide +kernel⟩
theorem dc_Mo_windowAt_0 : decode cb_Mo_windowAt 0 = .ok (.lconst 0, 1) := by decide +kernel
theorem dc_Mo_windowAt_1 : decode cb_Mo_windowAt 1 = .ok (.lstore 5, 2) := by decide +kernel
theorem dc_Mo_windowAt_3 : decode cb_Mo_windowAt 3 = .ok (.lconst 0, 1) := by decide +kernel
theorem dc_Mo_windowAt_4 : decode cb_Mo_windowAt 4 = .ok (.lstore 7, 2) := by decide +kernel
theorem dc_Mo_windowAt_6 : decode cb_Mo_windowAt 6 = .ok (.iconst 0, 1) := by decide +kernel
theorem dc_Mo_windowAt_7 : decode cb_Mo_windowAt 7 = .ok (.istore 9, 2) := by decide +kernel
theorem dc_Mo_windowAt_9 : decode cb_Mo_windowAt 9 = .ok (.iload 9, 2) := by decide +kernel
theorem dc_Mo_windowAt_11 : decode cb_Mo_windowAt 11 = .ok (.iload_n 2, 1) := by decide +kernel
theorem dc_Mo_windowAt_12 : decode cb_Mo_windowAt 12 = .ok (.if_icmp .ge 85, 3) := by decide +kernel
theorem dc_Mo_windowAt_15 : decode cb_Mo_windowAt 15 = .ok (.iload 9, 2) := by decide +kernel
theorem dc_Mo_windowAt_17 : decode cb_Mo_windowAt 17 = .ok (.iconst 1, 1) := by decide +kernel
theorem dc_Mo_windowAt_18 : decode cb_Mo_windowAt 18 = .ok (.iadd, 1) := by decide +kernel
theorem dc_Mo_windowAt_19 : decode cb_Mo_windowAt 19 = .ok (.istore 10, 2) := by decide +kernel
theorem dc_Mo_windowAt_21 : decode cb_Mo_windowAt 21 = .ok (.iload_n 2, 1) := by decide +kernel
theorem dc_Mo_windowAt_22 : decode cb_Mo_windowAt 22 = .ok (.iload 9, 2) := by decide +kernel
theorem dc_Mo_windowAt_24 : decode cb_Mo_windowAt 24 = .ok (.isub, 1) := by decide +kernel
theorem dc_Mo_windowAt_25 : decode cb_Mo_windowAt 25 = .ok (.istore 11, 2) := by decide +kernel
theorem dc_Mo_windowAt_27 : decode cb_Mo_windowAt 27 = .ok (.iload_n 1, 1) := by decide +kernel
theorem dc_Mo_windowAt_28 : decode cb_Mo_windowAt 28 = .ok (.ifCond .ne 7, 3) := by decide +kernel
theorem dc_Mo_windowAt_31 : decode cb_Mo_windowAt 31 = .ok (.iconst 1, 1) := by decide +kernel
theorem dc_Mo_windowAt_32 : decode cb_Mo_windowAt 32 = .ok (.goto 30, 3) := by decide +kernel
theorem dc_Mo_windowAt_35 : decode cb_Mo_windowAt 35 = .ok (.iload_n 1, 1) := by decide +kernel
theorem dc_Mo_windowAt_36 : decode cb_Mo_windowAt 36 = .ok (.iconst 2, 1) := by decide +kernel
theorem dc_Mo_windowAt_37 : decode cb_Mo_windowAt 37 = .ok (.if_icmp .ne 11, 3) := by decide +kernel
theorem dc_Mo_windowAt_40 : decode cb_Mo_windowAt 40 = .ok (.iload 10, 2) := by decide +kernel
theorem dc_Mo_windowAt_42 : decode cb_Mo_windowAt 42 = .ok (.iload 11, 2) := by decide +kernel
theorem dc_Mo_windowAt_44 : decode cb_Mo_windowAt 44 = .ok (.imul, 1) := by decide +kernel
theorem dc_Mo_windowAt_45 : decode cb_Mo_windowAt 45 = .ok (.goto 17, 3) := by decide +kernel
theorem dc_Mo_windowAt_48 : decode cb_Mo_windowAt 48 = .ok (.iload 10, 2) := by decide +kernel
theorem dc_Mo_windowAt_50 : decode cb_Mo_windowAt 50 = .ok (.iload 11, 2) := by decide +kernel
theorem dc_Mo_windowAt_52 : decode cb_Mo_windowAt 52 = .ok (.if_icmp .ge 8, 3) := by decide +kernel
theorem dc_Mo_windowAt_55 : decode cb_Mo_windowAt 55 = .ok (.iload 10, 2) := by decide +kernel
theorem dc_Mo_windowAt_57 : decode cb_Mo_windowAt 57 = .ok (.goto 5, 3) := by decide +kernel
theorem dc_Mo_windowAt_60 : decode cb_Mo_windowAt 60 = .ok (.iload 11, 2) := by decide +kernel
theorem dc_Mo_windowAt_62 : decode cb_Mo_windowAt 62 = .ok (.istore 12, 2) := by decide +kernel
theorem dc_Mo_windowAt_64 : decode cb_Mo_windowAt 64 = .ok (.lload 5, 2) := by decide +kernel
theorem dc_Mo_windowAt_66 : decode cb_Mo_windowAt 66 = .ok (.iload 12, 2) := by decide +kernel
theorem dc_Mo_windowAt_68 : decode cb_Mo_windowAt 68 = .ok (.i2l, 1) := by decide +kernel
theorem dc_Mo_windowAt_69 : decode cb_Mo_windowAt 69 = .ok (.aload_n 0, 1) := by decide +kernel
theorem dc_Mo_windowAt_70 : decode cb_Mo_windowAt 70 = .ok (.iload_n 3, 1) := by decide +kernel
theorem dc_Mo_windowAt_71 : decode cb_Mo_windowAt 71 = .ok (.iload 9, 2) := by decide +kernel
theorem dc_Mo_windowAt_73 : decode cb_Mo_windowAt 73 = .ok (.isub, 1) := by decide +kernel
theorem dc_Mo_windowAt_74 : decode cb_Mo_windowAt 74 = .ok (.iload 4, 2) := by decide +kernel
theorem dc_Mo_windowAt_76 : decode cb_Mo_windowAt 76 = .ok (.invokevirtual 106, 3) := by decide +kernel
theorem dc_Mo_windowAt_79 : decode cb_Mo_windowAt 79 = .ok (.lmul, 1) := by decide +kernel
theorem dc_Mo_windowAt_80 : decode cb_Mo_windowAt 80 = .ok (.ladd, 1) := by decide +kernel
theorem dc_Mo_windowAt_81 : decode cb_Mo_windowAt 81 = .ok (.lstore 5, 2) := by decide +kernel
theorem dc_Mo_windowAt_83 : decode cb_Mo_windowAt 83 = .ok (.lload 7, 2) := by decide +kernel
theorem dc_Mo_windowAt_85 : decode cb_Mo_windowAt 85 = .ok (.iload 12, 2) := by decide +kernel
theorem dc_Mo_windowAt_87 : decode cb_Mo_windowAt 87 = .ok (.i2l, 1) := by decide +kernel
theorem dc_Mo_windowAt_88 : decode cb_Mo_windowAt 88 = .ok (.ladd, 1) := by decide +kernel
theorem dc_Mo_windowAt_89 : decode cb_Mo_windowAt 89 = .ok (.lstore 7, 2) := by decide +kernel
theorem dc_Mo_windowAt_91 : decode cb_Mo_windowAt 91 = .ok (.iinc 9 1, 3) := by decide +kernel
theorem dc_Mo_windowAt_94 : decode cb_Mo_windowAt 94 = .ok (.goto (-85), 3) := by decide +kernel
theorem dc_Mo_windowAt_97 : decode cb_Mo_windowAt 97 = .ok (.lload 5, 2) := by decide +kernel
theorem dc_Mo_windowAt_99 : decode cb_Mo_windowAt 99 = .ok (.lload 7, 2) := by decide +kernel
theorem dc_Mo_windowAt_101 : decode cb_Mo_windowAt 101 = .ok (.invokestatic 40, 3) := by decide +kernel
theorem dc_Mo_windowAt_104 : decode cb_Mo_windowAt 104 = .ok (.l2i, 1) := by decide +kernel
theorem dc_Mo_windowAt_105 : decode cb_Mo_windowAt 105 = .ok (.ireturn, 1) := by decide +kernel
theorem yk_Mo_windowAt : fq_Y my_Mo_windowAt cb_Mo_windowAt 13 (some .int) 4 := ⟨wd_963, wd_36, by decide +kernel⟩
theorem dc_Mo_resampledAt_0 : decode cb_Mo_resampledAt 0 = .ok (.iload_n 1, 1) := by decide +kernel
theorem dc_Mo_resampledAt_1 : decode cb_Mo_resampledAt 1 = .ok (.iload_n 2, 1) := by decide +kernel
theorem dc_Mo_resampledAt_2 : decode cb_Mo_resampledAt 2 = .ok (.if_icmp .le 7, 3) := by decide +kernel
theorem dc_Mo_resampledAt_5 : decode cb_Mo_resampledAt 5 = .ok (.iload_n 1, 1) := by decide +kernel
theorem dc_Mo_resampledAt_6 : decode cb_Mo_resampledAt 6 = .ok (.goto 4, 3) := by decide +kernel
theorem dc_Mo_resampledAt_9 : decode cb_Mo_resampledAt 9 = .ok (.iload_n 2, 1) := by decide +kernel
theorem dc_Mo_resampledAt_10 : decode cb_Mo_resampledAt 10 = .ok (.istore 5, 2) := by decide +kernel
theorem dc_Mo_resampledAt_12 : decode cb_Mo_resampledAt 12 = .ok (.lconst 0, 1) := by decide +kernel
theorem dc_Mo_resampledAt_13 : decode cb_Mo_resampledAt 13 = .ok (.lstore 6, 2) := by decide +kernel
theorem dc_Mo_resampledAt_15 : decode cb_Mo_resampledAt 15 = .ok (.iconst 0, 1) := by decide +kernel
theorem dc_Mo_resampledAt_16 : decode cb_Mo_resampledAt 16 = .ok (.istore 8, 2) := by decide +kernel
theorem dc_Mo_resampledAt_18 : decode cb_Mo_resampledAt 18 = .ok (.iload 8, 2) := by decide +kernel
theorem dc_Mo_resampledAt_20 : decode cb_Mo_resampledAt 20 = .ok (.iconst 2, 1) := by decide +kernel
theorem dc_Mo_resampledAt_21 : decode cb_Mo_resampledAt 21 = .ok (.iload 5, 2) := by decide +kernel
theorem dc_Mo_resampledAt_23 : decode cb_Mo_resampledAt 23 = .ok (.imul, 1) := by decide +kernel
theorem dc_Mo_resampledAt_24 : decode cb_Mo_resampledAt 24 = .ok (.iconst 2, 1) := by decide +kernel
theorem dc_Mo_resampledAt_25 : decode cb_Mo_resampledAt 25 = .ok (.isub, 1) := by decide +kernel
theorem dc_Mo_resampledAt_26 : decode cb_Mo_resampledAt 26 = .ok (.if_icmp .gt 91, 3) := by decide +kernel
theorem dc_Mo_resampledAt_29 : decode cb_Mo_resampledAt 29 = .ok (.iload 8, 2) := by decide +kernel
theorem dc_Mo_resampledAt_31 : decode cb_Mo_resampledAt 31 = .ok (.iload 5, 2) := by decide +kernel
theorem dc_Mo_resampledAt_33 : decode cb_Mo_resampledAt 33 = .ok (.iconst 1, 1) := by decide +kernel
theorem dc_Mo_resampledAt_34 : decode cb_Mo_resampledAt 34 = .ok (.isub, 1) := by decide +kernel
theorem dc_Mo_resampledAt_35 : decode cb_Mo_resampledAt 35 = .ok (.isub, 1) := by decide +kernel
theorem dc_Mo_resampledAt_36 : decode cb_Mo_resampledAt 36 = .ok (.istore 9, 2) := by decide +kernel
theorem dc_Mo_resampledAt_38 : decode cb_Mo_resampledAt 38 = .ok (.iload_n 3, 1) := by decide +kernel
theorem dc_Mo_resampledAt_39 : decode cb_Mo_resampledAt 39 = .ok (.iload_n 2, 1) := by decide +kernel
theorem dc_Mo_resampledAt_40 : decode cb_Mo_resampledAt 40 = .ok (.imul, 1) := by decide +kernel
theorem dc_Mo_resampledAt_41 : decode cb_Mo_resampledAt 41 = .ok (.iload 8, 2) := by decide +kernel
theorem dc_Mo_resampledAt_43 : decode cb_Mo_resampledAt 43 = .ok (.isub, 1) := by decide +kernel
theorem dc_Mo_resampledAt_44 : decode cb_Mo_resampledAt 44 = .ok (.istore 10, 2) := by decide +kernel
theorem dc_Mo_resampledAt_46 : decode cb_Mo_resampledAt 46 = .ok (.iload 10, 2) := by decide +kernel
theorem dc_Mo_resampledAt_48 : decode cb_Mo_resampledAt 48 = .ok (.ifCond .lt 14, 3) := by decide +kernel
theorem dc_Mo_resampledAt_51 : decode cb_Mo_resampledAt 51 = .ok (.iload 10, 2) := by decide +kernel
theorem dc_Mo_resampledAt_53 : decode cb_Mo_resampledAt 53 = .ok (.iload_n 1, 1) := by decide +kernel
theorem dc_Mo_resampledAt_54 : decode cb_Mo_resampledAt 54 = .ok (.irem, 1) := by decide +kernel
theorem dc_Mo_resampledAt_55 : decode cb_Mo_resampledAt 55 = .ok (.ifCond .ne 7, 3) := by decide +kernel
theorem dc_Mo_resampledAt_58 : decode cb_Mo_resampledAt 58 = .ok (.iconst 1, 1) := by decide +kernel
theorem dc_Mo_resampledAt_59 : decode cb_Mo_resampledAt 59 = .ok (.goto 4, 3) := by decide +kernel
theorem dc_Mo_resampledAt_62 : decode cb_Mo_resampledAt 62 = .ok (.iconst 0, 1) := by decide +kernel
theorem dc_Mo_resampledAt_63 : decode cb_Mo_resampledAt 63 = .ok (.istore 11, 2) := by decide +kernel
theorem dc_Mo_resampledAt_65 : decode cb_Mo_resampledAt 65 = .ok (.iload 11, 2) := by decide +kernel
theorem dc_Mo_resampledAt_67 : decode cb_Mo_resampledAt 67 = .ok (.ifCond .eq 16, 3) := by decide +kernel
theorem dc_Mo_resampledAt_70 : decode cb_Mo_resampledAt 70 = .ok (.aload_n 0, 1) := by decide +kernel
theorem dc_Mo_resampledAt_71 : decode cb_Mo_resampledAt 71 = .ok (.iload 10, 2) := by decide +kernel
theorem dc_Mo_resampledAt_73 : decode cb_Mo_resampledAt 73 = .ok (.iload_n 1, 1) := by decide +kernel
theorem dc_Mo_resampledAt_74 : decode cb_Mo_resampledAt 74 = .ok (.idiv, 1) := by decide +kernel
theorem dc_Mo_resampledAt_75 : decode cb_Mo_resampledAt 75 = .ok (.iload 4, 2) := by decide +kernel
theorem dc_Mo_resampledAt_77 : decode cb_Mo_resampledAt 77 = .ok (.invokevirtual 106, 3) := by decide +kernel
theorem dc_Mo_resampledAt_80 : decode cb_Mo_resampledAt 80 = .ok (.goto 4, 3) := by decide +kernel
theorem dc_Mo_resampledAt_83 : decode cb_Mo_resampledAt 83 = .ok (.lconst 0, 1) := by decide +kernel
theorem dc_Mo_resampledAt_84 : decode cb_Mo_resampledAt 84 = .ok (.lstore 12, 2) := by decide +kernel
theorem dc_Mo_resampledAt_86 : decode cb_Mo_resampledAt 86 = .ok (.lload 6, 2) := by decide +kernel
theorem dc_Mo_resampledAt_88 : decode cb_Mo_resampledAt 88 = .ok (.iload 5, 2) := by decide +kernel
theorem dc_Mo_resampledAt_90 : decode cb_Mo_resampledAt 90 = .ok (.iload 9, 2) := by decide +kernel
theorem dc_Mo_resampledAt_92 : decode cb_Mo_resampledAt 92 = .ok (.ifCond .ge 9, 3) := by decide +kernel
theorem dc_Mo_resampledAt_95 : decode cb_Mo_resampledAt 95 = .ok (.iload 9, 2) := by decide +kernel
theorem dc_Mo_resampledAt_97 : decode cb_Mo_resampledAt 97 = .ok (.ineg, 1) := by decide +kernel
theorem dc_Mo_resampledAt_98 : decode cb_Mo_resampledAt 98 = .ok (.goto 5, 3) := by decide +kernel
theorem dc_Mo_resampledAt_101 : decode cb_Mo_resampledAt 101 = .ok (.iload 9, 2) := by decide +kernel
theorem dc_Mo_resampledAt_103 : decode cb_Mo_resampledAt 103 = .ok (.isub, 1) := by decide +kernel
theorem dc_Mo_resampledAt_104 : decode cb_Mo_resampledAt 104 = .ok (.i2l, 1) := by decide +kernel
theorem dc_Mo_resampledAt_105 : decode cb_Mo_resampledAt 105 = .ok (.lload 12, 2) := by decide +kernel
theorem dc_Mo_resampledAt_107 : decode cb_Mo_resampledAt 107 = .ok (.lmul, 1) := by decide +kernel
theorem dc_Mo_resampledAt_108 : decode cb_Mo_resampledAt 108 = .ok (.ladd, 1) := by decide +kernel
theorem dc_Mo_resampledAt_109 : decode cb_Mo_resampledAt 109 = .ok (.lstore 6, 2) := by decide +kernel
theorem dc_Mo_resampledAt_111 : decode cb_Mo_resampledAt 111 = .ok (.iinc 8 1, 3) := by decide +kernel
theorem dc_Mo_resampledAt_114 : decode cb_Mo_resampledAt 114 = .ok (.goto (-96), 3) := by decide +kernel
theorem dc_Mo_resampledAt_117 : decode cb_Mo_resampledAt 117 = .ok (.iload_n 1, 1) := by decide +kernel
theorem dc_Mo_resampledAt_118 : decode cb_Mo_resampledAt 118 = .ok (.i2l, 1) := by decide +kernel
theorem dc_Mo_resampledAt_119 : decode cb_Mo_resampledAt 119 = .ok (.lload 6, 2) := by decide +kernel
theorem dc_Mo_resampledAt_121 : decode cb_Mo_resampledAt 121 = .ok (.lmul, 1) := by decide +kernel
theorem dc_Mo_resampledAt_122 : decode cb_Mo_resampledAt 122 = .ok (.iload 5, 2) := by decide +kernel
theorem dc_Mo_resampledAt_124 : decode cb_Mo_resampledAt 124 = .ok (.i2l, 1) := by decide +kernel
theorem dc_Mo_resampledAt_125 : decode cb_Mo_resampledAt 125 = .ok (.iload 5, 2) := by decide +kernel
theorem dc_Mo_resampledAt_127 : decode cb_Mo_resampledAt 127 = .ok (.i2l, 1) := by decide +kernel
theorem dc_Mo_resampledAt_128 : decode cb_Mo_resampledAt 128 = .ok (.lmul, 1) := by decide +kernel
theorem dc_Mo_resampledAt_129 : decode cb_Mo_resampledAt 129 = .ok (.invokestatic 40, 3) := by decide +kernel
theorem dc_Mo_resampledAt_132 : decode cb_Mo_resampledAt 132 = .ok (.invokestatic 110, 3) := by decide +kernel
theorem dc_Mo_resampledAt_135 : decode cb_Mo_resampledAt 135 = .ok (.ireturn, 1) := by decide +kernel
theorem yk_Mo_resampledAt : fq_Y my_Mo_resampledAt cb_Mo_resampledAt 14 (some .int) 4 := ⟨wd_967, wd_36, by decide +kernel⟩
set_option maxHeartbeats 4000000 in
set_option maxRecDepth 100000 in
theorem ct_Mo_x (l : Launch) (D : va_G) (cI cO : ClassId) (tE : Nat) (h aK aN aB aS aL aX : Nat) (rm : Nat) (sd : Bool) (ns : Nat) (iw : Nat) (ow : Nat) (ih : Bool) (oh : Bool) (ca : Nat) (us : Nat) (cl : Bool) (fl : Bool) (tk : Nat) (md : Nat) (gi : Nat) (su : Nat) (ps : Nat) (cs : Nat) (fK fN fB fS fL fX : Nat → Int32) (xi : Int32) (xs : List Int) (hL : mo_L fL xs) (sz : Nat) : Met l my_Mo_x (fq_w my_Mo_x cb_Mo_x 3 (some .long)) ({ frames := 0, cells := 0, slots := 0, locals := 0 }) (va_Pc ([.ref h, .int xi, .int (nI xs.length)]) (fq_Pre D cI cO tE sz ([(h, .inr (12, [.int (nI rm), .int (fq_b sd), .int (nI ns), .ref aK, .ref aN, .int (nI iw), .int (nI ow), .int (fq_b ih), .int (fq_b oh), .ref aB, .int (nI ca), .int (nI us), .int (fq_b cl), .int (fq_b fl), .ref aS, .int (nI tk), .ref aL, .ref aX, .int (nI md), .int (nI gi), .int (nI su), .int (nI ps), .int (nI cs)])), (aK, .inl (cI, 5, .inl fK)), (aN, .inl (cI, 25, .inl fN)), (aB, .inl (cI, 120, .inl fB)), (aS, .inl (cI, 120, .inl fS)), (aL, .inl (cI, 2300, .inl fL)), (aX, .inl (cI, 2300, .inl fX))]))) (va_Ql (S := va_W) (fun r w => w = [(h, .inr (12, [.int (nI rm), .int (fq_b sd), .int (nI ns), .ref aK, .ref aN, .int (nI iw), .int (nI ow), .int (fq_b ih), .int (fq_b oh), .ref aB, .int (nI ca), .int (nI us), .int (fq_b cl), .int (fq_b fl), .ref aS, .int (nI tk), .ref aL, .ref aX, .int (nI md), .int (nI gi), .int (nI su), .int (nI ps), .int (nI cs)])), (aK, .inl (cI, 5, .inl fK)), (aN, .inl (cI, 25, .inl fN)), (aB, .inl (cI, 120, .inl fB)), (aS, .inl (cI, 120, .inl fS)), (aL, .inl (cI, 2300, .inl fL)), (aX, .inl (cI, 2300, .inl fX))] ∧ r.toInt = fm_x xs xi.toInt) (fq_Bw D (va_A ([(h, .inr (12, [.int (nI rm), .int (fq_b sd), .int (nI ns), .ref aK, .ref aN, .int (nI iw), .int (nI ow), .int (fq_b ih), .int (fq_b oh), .ref aB, .int (nI ca), .int (nI us), .int (fq_b cl), .int (fq_b fl), .ref aS, .int (nI tk), .ref aL, .ref aX, .int (nI md), .int (nI gi), .int (nI su), .int (nI ps), .int (nI cs)])), (aK, .inl (cI, 5, .inl fK)), (aN, .inl (cI, 25, .inl fN)), (aB, .inl (cI, 120, .inl fB)), (aS, .inl (cI, 120, .inl fS)), (aL, .inl (cI, 2300, .inl fL)), (aX, .inl (cI, 2300, .inl fX))]) sz)) (va_A ([(h, .inr (12, [.int (nI rm), .int (fq_b sd), .int (nI ns), .ref aK, .ref aN, .int (nI iw), .int (nI ow), .int (fq_b ih), .int (fq_b oh), .ref aB, .int (nI ca), .int (nI us), .int (fq_b cl), .int (fq_b fl), .ref aS, .int (nI tk), .ref aL, .ref aX, .int (nI md), .int (nI gi), .int (nI su), .int (nI ps), .int (nI cs)])), (aK, .inl (cI, 5, .inl fK)), (aN, .inl (cI, 25, .inl fN)), (aB, .inl (cI, 120, .inl fB)), (aS, .inl (cI, 120, .inl fS)), (aL, .inl (cI, 2300, .inl fL)), (aX, .inl (cI, 2300, .inl fX))]) sz)) (0) (0) (va_A ([(h, .inr (12, [.int (nI rm), .int (fq_b sd), .int (nI ns), .ref aK, .ref aN, .int (nI iw), .int (nI ow), .int (fq_b ih), .int (fq_b oh), .ref aB, .int (nI ca), .int (nI us), .int (fq_b cl), .int (fq_b fl), .ref aS, .int (nI tk), .ref aL, .ref aX, .int (nI md), .int (nI gi), .int (nI su), .int (nI ps), .int (nI cs)])), (aK, .inl (cI, 5, .inl fK)), (aN, .inl (cI, 25, .inl fN)), (aB, .inl (cI, 120, .inl fB)), (aS, .inl (cI, 120, .inl fS)), (aL, .inl (cI, 2300, .inl fL)), (aX, .inl (cI, 2300, .inl fX))]) sz) := by
  refine fq_open (by decide +kernel) (Nat.le_of_ble_eq_true rfl) ?_
  intro pg ev s mt below meth cd ls K hret hlk hin hK hZ hP hD hA hS hl
  generalize va_A ([(h, .inr (12, [.int (nI rm), .int (fq_b sd), .int (nI ns), .ref aK, .ref aN, .int (nI iw), .int (nI ow), .int (fq_b ih), .int (fq_b oh), .ref aB, .int (nI ca), .int (nI us), .int (fq_b cl), .int (fq_b fl), .ref aS, .int (nI tk), .ref aL, .ref aX, .int (nI md), .int (nI gi), .int (nI su), .int (nI ps), .int (nI cs)])), (aK, .inl (cI, 5, .inl fK)), (aN, .inl (cI, 25, .inl fN)), (aB, .inl (cI, 120, .inl fB)), (aS, .inl (cI, 120, .inl fS)), (aL, .inl (cI, 2300, .inl fL)), (aX, .inl (cI, 2300, .inl fX))]) sz = A at hZ hD hA hS ⊢
  have K : fq_Ctx pg mt cd cb_Mo_x 3 s _ cn_Mo := K
  have hl : lv_has ls 3 [(0, .ref h), (1, .int xi), (2, .int (nI xs.length))] := hl
  refine lv_iload_n K.1 K.2.1 dc_Mo_x_0 rfl (lv_at hl 1 rfl) ?_
  refine lv_if_lt (tgt := 9) K.1 K.2.1 dc_Mo_x_1 rfl (fun b1 => ?_) (fun b1 => ?_)
  · skip
    refine lv_lconst (v := 0) K.1 K.2.1 dc_Mo_x_9 (by decide) ?_
    refine lv_goto (tgt := 20) K.1 K.2.1 dc_Mo_x_10 rfl ?_
    exact fq_retl K hret hlk hS hP hD ⟨rfl, by first | exact mo_x0 b1 | exact mo_x2 hL b6⟩ dc_Mo_x_20 (Nat.le_of_ble_eq_true rfl) (Nat.le_of_ble_eq_true rfl)
  · skip
    refine lv_iload_n K.1 K.2.1 dc_Mo_x_4 rfl (lv_at hl 1 rfl) ?_
    refine lv_iload_n K.1 K.2.1 dc_Mo_x_5 rfl (lv_at hl 2 rfl) ?_
    refine lv_icmp_lt (tgt := 13) K.1 K.2.1 dc_Mo_x_6 rfl (fun b6 => ?_) (fun b6 => ?_)
    · skip
      refine lv_aload_n K.1 K.2.1 dc_Mo_x_13 rfl (lv_at hl 0 rfl) ?_
      refine fq_get K hK cl_Mo hP 0 16 rfl (by decide) wd_786 rfl dc_Mo_x_14 ?_
      refine lv_iload_n K.1 K.2.1 dc_Mo_x_17 rfl (lv_at hl 1 rfl) ?_
      refine fq_ald K hK hP 5 rfl (mo_xi hL b1 b6) dc_Mo_x_18 ?_
      refine lv_i2l K.1 K.2.1 dc_Mo_x_19 rfl ?_
      exact fq_retl K hret hlk hS hP hD ⟨rfl, mo_x1 hL b1 b6⟩ dc_Mo_x_20 (Nat.le_of_ble_eq_true rfl) (Nat.le_of_ble_eq_true rfl)
    · skip
      refine lv_lconst (v := 0) K.1 K.2.1 dc_Mo_x_9 (by decide) ?_
      refine lv_goto (tgt := 20) K.1 K.2.1 dc_Mo_x_10 rfl ?_
      exact fq_retl K hret hlk hS hP hD ⟨rfl, by first | exact mo_x0 b1 | exact mo_x2 hL b6⟩ dc_Mo_x_20 (Nat.le_of_ble_eq_true rfl) (Nat.le_of_ble_eq_true rfl)
set_option maxHeartbeats 4000000 in
set_option maxRecDepth 100000 in
theorem ct_Mo_sectionAt (l : Launch) (D : va_G) (cI cO : ClassId) (tE : Nat) (h aK aN aB aS aL aX : Nat) (rm : Nat) (sd : Bool) (ns : Nat) (iw : Nat) (ow : Nat) (ih : Bool) (oh : Bool) (ca : Nat) (us : Nat) (cl : Bool) (fl : Bool) (tk : Nat) (md : Nat) (gi : Nat) (su : Nat) (ps : Nat) (cs : Nat) (fK fN fB fS fL fX : Nat → Int32) (sp : fm_S) (xs : List Int) (kk ii : Nat) (h0 : sp.1 = 0) (hok : fm_ok sp) (hN : mo_N fN kk sp) (hL : mo_L fL xs) (hxi : ∀ v ∈ xs, fm_in v) (hk : kk < 5) (hi : ii < 2300) (hX : ∀ j, j < ii → (fX j).toInt = fm_y sp xs j) (sz : Nat) : Met l my_Mo_sectionAt (fq_w my_Mo_sectionAt cb_Mo_sectionAt 10 (some .int)) ({ frames := 1, cells := 0, slots := 0, locals := 25 }) (va_Pc ([.ref h, .int (nI (5 * kk)), .int (nI ii), .int (nI xs.length)]) (fq_Pre D cI cO tE sz ([(h, .inr (12, [.int (nI rm), .int (fq_b sd), .int (nI ns), .ref aK, .ref aN, .int (nI iw), .int (nI ow), .int (fq_b ih), .int (fq_b oh), .ref aB, .int (nI ca), .int (nI us), .int (fq_b cl), .int (fq_b fl), .ref aS, .int (nI tk), .ref aL, .ref aX, .int (nI md), .int (nI gi), .int (nI su), .int (nI ps), .int (nI cs)])), (aK, .inl (cI, 5, .inl fK)), (aN, .inl (cI, 25, .inl fN)), (aB, .inl (cI, 120, .inl fB)), (aS, .inl (cI, 120, .inl fS)), (aL, .inl (cI, 2300, .inl fL)), (aX, .inl (cI, 2300, .inl fX))]))) (va_Qi (S := va_W) (fun r w => w = [(h, .inr (12, [.int (nI rm), .int (fq_b sd), .int (nI ns), .ref aK, .ref aN, .int (nI iw), .int (nI ow), .int (fq_b ih), .int (fq_b oh), .ref aB, .int (nI ca), .int (nI us), .int (fq_b cl), .int (fq_b fl), .ref aS, .int (nI tk), .ref aL, .ref aX, .int (nI md), .int (nI gi), .int (nI su), .int (nI ps), .int (nI cs)])), (aK, .inl (cI, 5, .inl fK)), (aN, .inl (cI, 25, .inl fN)), (aB, .inl (cI, 120, .inl fB)), (aS, .inl (cI, 120, .inl fS)), (aL, .inl (cI, 2300, .inl fL)), (aX, .inl (cI, 2300, .inl fX))] ∧ r.toInt = fm_y sp xs ii) (fq_Bw D (va_A ([(h, .inr (12, [.int (nI rm), .int (fq_b sd), .int (nI ns), .ref aK, .ref aN, .int (nI iw), .int (nI ow), .int (fq_b ih), .int (fq_b oh), .ref aB, .int (nI ca), .int (nI us), .int (fq_b cl), .int (fq_b fl), .ref aS, .int (nI tk), .ref aL, .ref aX, .int (nI md), .int (nI gi), .int (nI su), .int (nI ps), .int (nI cs)])), (aK, .inl (cI, 5, .inl fK)), (aN, .inl (cI, 25, .inl fN)), (aB, .inl (cI, 120, .inl fB)), (aS, .inl (cI, 120, .inl fS)), (aL, .inl (cI, 2300, .inl fL)), (aX, .inl (cI, 2300, .inl fX))]) sz)) (va_A ([(h, .inr (12, [.int (nI rm), .int (fq_b sd), .int (nI ns), .ref aK, .ref aN, .int (nI iw), .int (nI ow), .int (fq_b ih), .int (fq_b oh), .ref aB, .int (nI ca), .int (nI us), .int (fq_b cl), .int (fq_b fl), .ref aS, .int (nI tk), .ref aL, .ref aX, .int (nI md), .int (nI gi), .int (nI su), .int (nI ps), .int (nI cs)])), (aK, .inl (cI, 5, .inl fK)), (aN, .inl (cI, 25, .inl fN)), (aB, .inl (cI, 120, .inl fB)), (aS, .inl (cI, 120, .inl fS)), (aL, .inl (cI, 2300, .inl fL)), (aX, .inl (cI, 2300, .inl fX))]) sz)) (0) (0) (va_A ([(h, .inr (12, [.int (nI rm), .int (fq_b sd), .int (nI ns), .ref aK, .ref aN, .int (nI iw), .int (nI ow), .int (fq_b ih), .int (fq_b oh), .ref aB, .int (nI ca), .int (nI us), .int (fq_b cl), .int (fq_b fl), .ref aS, .int (nI tk), .ref aL, .ref aX, .int (nI md), .int (nI gi), .int (nI su), .int (nI ps), .int (nI cs)])), (aK, .inl (cI, 5, .inl fK)), (aN, .inl (cI, 25, .inl fN)), (aB, .inl (cI, 120, .inl fB)), (aS, .inl (cI, 120, .inl fS)), (aL, .inl (cI, 2300, .inl fL)), (aX, .inl (cI, 2300, .inl fX))]) sz) := by
  refine fq_open (by decide +kernel) (Nat.le_of_ble_eq_true rfl) ?_
  intro pg ev s mt below meth cd ls K hret hlk hin hK hZ hP hD hA hS hl
  generalize va_A ([(h, .inr (12, [.int (nI rm), .int (fq_b sd), .int (nI ns), .ref aK, .ref aN, .int (nI iw), .int (nI ow), .int (fq_b ih), .int (fq_b oh), .ref aB, .int (nI ca), .int (nI us), .int (fq_b cl), .int (fq_b fl), .ref aS, .int (nI tk), .ref aL, .ref aX, .int (nI md), .int (nI gi), .int (nI su), .int (nI ps), .int (nI cs)])), (aK, .inl (cI, 5, .inl fK)), (aN, .inl (cI, 25, .inl fN)), (aB, .inl (cI, 120, .inl fB)), (aS, .inl (cI, 120, .inl fS)), (aL, .inl (cI, 2300, .inl fL)), (aX, .inl (cI, 2300, .inl fX))]) sz = A at hZ hD hA hS ⊢
  have K : fq_Ctx pg mt cd cb_Mo_sectionAt 10 s _ cn_Mo := K
  have hl : lv_has ls 10 [(0, .ref h), (1, .int (nI (5 * kk))), (2, .int (nI ii)), (3, .int (nI xs.length))] := hl
  refine lv_aload_n K.1 K.2.1 dc_Mo_sectionAt_0 rfl (lv_at hl 0 rfl) ?_
  refine fq_get K hK cl_Mo hP 0 4 rfl (by decide) wd_774 rfl dc_Mo_sectionAt_1 ?_
  refine lv_iload_n K.1 K.2.1 dc_Mo_sectionAt_4 rfl (lv_at hl 1 rfl) ?_
  refine fq_ald K hK hP 2 rfl (vp_in_nI (show 5 * kk < 25 by omega) (by decide)) dc_Mo_sectionAt_5 ?_
  refine fq_asi (y := fN (5 * kk)) (by rw [nI_clamp (show 5 * kk < 2 ^ 31 by omega)]) ?_
  refine lv_i2l K.1 K.2.1 dc_Mo_sectionAt_6 rfl ?_
  refine lv_aload_n K.1 K.2.1 dc_Mo_sectionAt_7 rfl (lv_at hl 0 rfl) ?_
  refine lv_iload_n K.1 K.2.1 dc_Mo_sectionAt_8 rfl (lv_at hl 2 rfl) ?_
  refine lv_iload_n K.1 K.2.1 dc_Mo_sectionAt_9 rfl (lv_at hl 3 rfl) ?_
  have hc := fq_cut.of (wc := [(h, .inr (12, [.int (nI rm), .int (fq_b sd), .int (nI ns), .ref aK, .ref aN, .int (nI iw), .int (nI ow), .int (fq_b ih), .int (fq_b oh), .ref aB, .int (nI ca), .int (nI us), .int (fq_b cl), .int (fq_b fl), .ref aS, .int (nI tk), .ref aL, .ref aX, .int (nI md), .int (nI gi), .int (nI su), .int (nI ps), .int (nI cs)])), (aK, .inl (cI, 5, .inl fK)), (aN, .inl (cI, 25, .inl fN)), (aB, .inl (cI, 120, .inl fB)), (aS, .inl (cI, 120, .inl fS)), (aL, .inl (cI, 2300, .inl fL)), (aX, .inl (cI, 2300, .inl fX))]) hP hD hS hA [0, 1, 2, 3, 4, 5, 6] (by decide) rfl
  refine fq_cl_ (wr := []) (fq_rV K hK hZ hS hc (ct_Mo_x l D cI cO tE h aK aN aB aS aL aX rm sd ns iw ow ih oh ca us cl fl tk md gi su ps cs fK fN fB fS fL fX (nI ii) xs hL _) yk_Mo_x wd_951 wd_21 wd_949 0 rfl rfl rfl ⟨⟨rfl, rfl⟩, ⟨Nat.le_of_ble_eq_true rfl, Nat.le_of_ble_eq_true rfl⟩, ⟨Nat.le_of_ble_eq_true rfl, Nat.le_of_ble_eq_true rfl⟩⟩ hl.1 rfl (Nat.le_of_ble_eq_true rfl) dc_Mo_sectionAt_10) hP hD hS hc [0, 1, 2, 3, 4, 5, 6] [] rfl rfl (by decide) (by decide) (fun r1 w H locs hw1 hP hD hS => ?_)
  obtain ⟨rfl, hx1⟩ := hw1
  have hP : va_P D fq_cl ([(h, .inr (12, [.int (nI rm), .int (fq_b sd), .int (nI ns), .ref aK, .ref aN, .int (nI iw), .int (nI ow), .int (fq_b ih), .int (fq_b oh), .ref aB, .int (nI ca), .int (nI us), .int (fq_b cl), .int (fq_b fl), .ref aS, .int (nI tk), .ref aL, .ref aX, .int (nI md), .int (nI gi), .int (nI su), .int (nI ps), .int (nI cs)])), (aK, .inl (cI, 5, .inl fK)), (aN, .inl (cI, 25, .inl fN)), (aB, .inl (cI, 120, .inl fB)), (aS, .inl (cI, 120, .inl fS)), (aL, .inl (cI, 2300, .inl fL)), (aX, .inl (cI, 2300, .inl fX))]) _ := hP
  have hD : va_D A ([(h, .inr (12, [.int (nI rm), .int (fq_b sd), .int (nI ns), .ref aK, .ref aN, .int (nI iw), .int (nI ow), .int (fq_b ih), .int (fq_b oh), .ref aB, .int (nI ca), .int (nI us), .int (fq_b cl), .int (fq_b fl), .ref aS, .int (nI tk), .ref aL, .ref aX, .int (nI md), .int (nI gi), .int (nI su), .int (nI ps), .int (nI cs)])), (aK, .inl (cI, 5, .inl fK)), (aN, .inl (cI, 25, .inl fN)), (aB, .inl (cI, 120, .inl fB)), (aS, .inl (cI, 120, .inl fS)), (aL, .inl (cI, 2300, .inl fL)), (aX, .inl (cI, 2300, .inl fX))]) := hD
  refine lv_lmul K.1 K.2.1 dc_Mo_sectionAt_13 ?_
  refine lv_aload_n K.1 K.2.1 dc_Mo_sectionAt_14 rfl (lv_at hl 0 rfl) ?_
  refine fq_get K hK cl_Mo hP 0 4 rfl (by decide) wd_774 rfl dc_Mo_sectionAt_15 ?_
  refine lv_iload_n K.1 K.2.1 dc_Mo_sectionAt_18 rfl (lv_at hl 1 rfl) ?_
  refine lv_iconst (v := 1) K.1 K.2.1 dc_Mo_sectionAt_19 (by decide) ?_
  refine lv_iadd K.1 K.2.1 dc_Mo_sectionAt_20 ?_
  refine fq_asi (y := nI (5 * kk + 1)) (nI_add (5 * kk) 1) ?_
  refine fq_ald K hK hP 2 rfl (vp_in_nI (show 5 * kk + 1 < 25 by omega) (by decide)) dc_Mo_sectionAt_21 ?_
  refine fq_asi (y := fN (5 * kk + 1)) (by rw [nI_clamp (show 5 * kk + 1 < 2 ^ 31 by omega)]) ?_
  refine lv_i2l K.1 K.2.1 dc_Mo_sectionAt_22 rfl ?_
  refine lv_aload_n K.1 K.2.1 dc_Mo_sectionAt_23 rfl (lv_at hl 0 rfl) ?_
  refine lv_iload_n K.1 K.2.1 dc_Mo_sectionAt_24 rfl (lv_at hl 2 rfl) ?_
  refine lv_iconst (v := 1) K.1 K.2.1 dc_Mo_sectionAt_25 (by decide) ?_
  refine lv_isub K.1 K.2.1 dc_Mo_sectionAt_26 ?_
  refine lv_iload_n K.1 K.2.1 dc_Mo_sectionAt_27 rfl (lv_at hl 3 rfl) ?_
  have hc := fq_cut.of (wc := [(h, .inr (12, [.int (nI rm), .int (fq_b sd), .int (nI ns), .ref aK, .ref aN, .int (nI iw), .int (nI ow), .int (fq_b ih), .int (fq_b oh), .ref aB, .int (nI ca), .int (nI us), .int (fq_b cl), .int (fq_b fl), .ref aS, .int (nI tk), .ref aL, .ref aX, .int (nI md), .int (nI gi), .int (nI su), .int (nI ps), .int (nI cs)])), (aK, .inl (cI, 5, .inl fK)), (aN, .inl (cI, 25, .inl fN)), (aB, .inl (cI, 120, .inl fB)), (aS, .inl (cI, 120, .inl fS)), (aL, .inl (cI, 2300, .inl fL)), (aX, .inl (cI, 2300, .inl fX))]) hP hD hS hA [0, 1, 2, 3, 4, 5, 6] (by decide) rfl
  refine fq_cl_ (wr := []) (fq_rV K hK hZ hS hc (ct_Mo_x l D cI cO tE h aK aN aB aS aL aX rm sd ns iw ow ih oh ca us cl fl tk md gi su ps cs fK fN fB fS fL fX ((nI ii) - 1) xs hL _) yk_Mo_x wd_951 wd_21 wd_949 0 rfl rfl rfl ⟨⟨rfl, rfl⟩, ⟨Nat.le_of_ble_eq_true rfl, Nat.le_of_ble_eq_true rfl⟩, ⟨Nat.le_of_ble_eq_true rfl, Nat.le_of_ble_eq_true rfl⟩⟩ hl.1 rfl (Nat.le_of_ble_eq_true rfl) dc_Mo_sectionAt_28) hP hD hS hc [0, 1, 2, 3, 4, 5, 6] [] rfl rfl (by decide) (by decide) (fun r2 w H locs hw2 hP hD hS => ?_)
  obtain ⟨rfl, hx2⟩ := hw2
  have hP : va_P D fq_cl ([(h, .inr (12, [.int (nI rm), .int (fq_b sd), .int (nI ns), .ref aK, .ref aN, .int (nI iw), .int (nI ow), .int (fq_b ih), .int (fq_b oh), .ref aB, .int (nI ca), .int (nI us), .int (fq_b cl), .int (fq_b fl), .ref aS, .int (nI tk), .ref aL, .ref aX, .int (nI md), .int (nI gi), .int (nI su), .int (nI ps), .int (nI cs)])), (aK, .inl (cI, 5, .inl fK)), (aN, .inl (cI, 25, .inl fN)), (aB, .inl (cI, 120, .inl fB)), (aS, .inl (cI, 120, .inl fS)), (aL, .inl (cI, 2300, .inl fL)), (aX, .inl (cI, 2300, .inl fX))]) _ := hP
  have hD : va_D A ([(h, .inr (12, [.int (nI rm), .int (fq_b sd), .int (nI ns), .ref aK, .ref aN, .int (nI iw), .int (nI ow), .int (fq_b ih), .int (fq_b oh), .ref aB, .int (nI ca), .int (nI us), .int (fq_b cl), .int (fq_b fl), .ref aS, .int (nI tk), .ref aL, .ref aX, .int (nI md), .int (nI gi), .int (nI su), .int (nI ps), .int (nI cs)])), (aK, .inl (cI, 5, .inl fK)), (aN, .inl (cI, 25, .inl fN)), (aB, .inl (cI, 120, .inl fB)), (aS, .inl (cI, 120, .inl fS)), (aL, .inl (cI, 2300, .inl fL)), (aX, .inl (cI, 2300, .inl fX))]) := hD
  refine lv_lmul K.1 K.2.1 dc_Mo_sectionAt_31 ?_
  refine lv_ladd K.1 K.2.1 dc_Mo_sectionAt_32 ?_
  refine lv_aload_n K.1 K.2.1 dc_Mo_sectionAt_33 rfl (lv_at hl 0 rfl) ?_
  refine fq_get K hK cl_Mo hP 0 4 rfl (by decide) wd_774 rfl dc_Mo_sectionAt_34 ?_
  refine lv_iload_n K.1 K.2.1 dc_Mo_sectionAt_37 rfl (lv_at hl 1 rfl) ?_
  refine lv_iconst (v := 2) K.1 K.2.1 dc_Mo_sectionAt_38 (by decide) ?_
  refine lv_iadd K.1 K.2.1 dc_Mo_sectionAt_39 ?_
  refine fq_asi (y := nI (5 * kk + 2)) (nI_add (5 * kk) 2) ?_
  refine fq_ald K hK hP 2 rfl (vp_in_nI (show 5 * kk + 2 < 25 by omega) (by decide)) dc_Mo_sectionAt_40 ?_
  refine fq_asi (y := fN (5 * kk + 2)) (by rw [nI_clamp (show 5 * kk + 2 < 2 ^ 31 by omega)]) ?_
  refine lv_i2l K.1 K.2.1 dc_Mo_sectionAt_41 rfl ?_
  refine lv_aload_n K.1 K.2.1 dc_Mo_sectionAt_42 rfl (lv_at hl 0 rfl) ?_
  refine lv_iload_n K.1 K.2.1 dc_Mo_sectionAt_43 rfl (lv_at hl 2 rfl) ?_
  refine lv_iconst (v := 2) K.1 K.2.1 dc_Mo_sectionAt_44 (by decide) ?_
  refine lv_isub K.1 K.2.1 dc_Mo_sectionAt_45 ?_
  refine lv_iload_n K.1 K.2.1 dc_Mo_sectionAt_46 rfl (lv_at hl 3 rfl) ?_
  have hc := fq_cut.of (wc := [(h, .inr (12, [.int (nI rm), .int (fq_b sd), .int (nI ns), .ref aK, .ref aN, .int (nI iw), .int (nI ow), .int (fq_b ih), .int (fq_b oh), .ref aB, .int (nI ca), .int (nI us), .int (fq_b cl), .int (fq_b fl), .ref aS, .int (nI tk), .ref aL, .ref aX, .int (nI md), .int (nI gi), .int (nI su), .int (nI ps), .int (nI cs)])), (aK, .inl (cI, 5, .inl fK)), (aN, .inl (cI, 25, .inl fN)), (aB, .inl (cI, 120, .inl fB)), (aS, .inl (cI, 120, .inl fS)), (aL, .inl (cI, 2300, .inl fL)), (aX, .inl (cI, 2300, .inl fX))]) hP hD hS hA [0, 1, 2, 3, 4, 5, 6] (by decide) rfl
  refine fq_cl_ (wr := []) (fq_rV K hK hZ hS hc (ct_Mo_x l D cI cO tE h aK aN aB aS aL aX rm sd ns iw ow ih oh ca us cl fl tk md gi su ps cs fK fN fB fS fL fX ((nI ii) - 2) xs hL _) yk_Mo_x wd_951 wd_21 wd_949 0 rfl rfl rfl ⟨⟨rfl, rfl⟩, ⟨Nat.le_of_ble_eq_true rfl, Nat.le_of_ble_eq_true rfl⟩, ⟨Nat.le_of_ble_eq_true rfl, Nat.le_of_ble_eq_true rfl⟩⟩ hl.1 rfl (Nat.le_of_ble_eq_true rfl) dc_Mo_sectionAt_47) hP hD hS hc [0, 1, 2, 3, 4, 5, 6] [] rfl rfl (by decide) (by decide) (fun r3 w H locs hw3 hP hD hS => ?_)
  obtain ⟨rfl, hx3⟩ := hw3
  have hP : va_P D fq_cl ([(h, .inr (12, [.int (nI rm), .int (fq_b sd), .int (nI ns), .ref aK, .ref aN, .int (nI iw), .int (nI ow), .int (fq_b ih), .int (fq_b oh), .ref aB, .int (nI ca), .int (nI us), .int (fq_b cl), .int (fq_b fl), .ref aS, .int (nI tk), .ref aL, .ref aX, .int (nI md), .int (nI gi), .int (nI su), .int (nI ps), .int (nI cs)])), (aK, .inl (cI, 5, .inl fK)), (aN, .inl (cI, 25, .inl fN)), (aB, .inl (cI, 120, .inl fB)), (aS, .inl (cI, 120, .inl fS)), (aL, .inl (cI, 2300, .inl fL)), (aX, .inl (cI, 2300, .inl fX))]) _ := hP
  have hD : va_D A ([(h, .inr (12, [.int (nI rm), .int (fq_b sd), .int (nI ns), .ref aK, .ref aN, .int (nI iw), .int (nI ow), .int (fq_b ih), .int (fq_b oh), .ref aB, .int (nI ca), .int (nI us), .int (fq_b cl), .int (fq_b fl), .ref aS, .int (nI tk), .ref aL, .ref aX, .int (nI md), .int (nI gi), .int (nI su), .int (nI ps), .int (nI cs)])), (aK, .inl (cI, 5, .inl fK)), (aN, .inl (cI, 25, .inl fN)), (aB, .inl (cI, 120, .inl fB)), (aS, .inl (cI, 120, .inl fS)), (aL, .inl (cI, 2300, .inl fL)), (aX, .inl (cI, 2300, .inl fX))]) := hD
  refine lv_lmul K.1 K.2.1 dc_Mo_sectionAt_50 ?_
  refine lv_ladd K.1 K.2.1 dc_Mo_sectionAt_51 ?_
  refine lv_topl (fun v1 e_v1 => ?_)
  refine lv_lstore K.1 K.2.1 dc_Mo_sectionAt_52 hl (by decide) rfl (fun ls hl => ?_)
  have hl : lv_has ls 10 [(4, .long v1), (0, .ref h), (1, .int (nI (5 * kk))), (2, .int (nI ii)), (3, .int (nI xs.length))] := hl
  refine lv_iload_n K.1 K.2.1 dc_Mo_sectionAt_54 rfl (lv_at hl 3 rfl) ?_
  refine lv_iconst (v := 1) K.1 K.2.1 dc_Mo_sectionAt_55 (by decide) ?_
  refine lv_icmp_ge (tgt := 63) K.1 K.2.1 dc_Mo_sectionAt_56 rfl (fun b56 => ?_) (fun b56 => ?_)
  · skip
    have g1 : 1 ≤ ii := (nI_leI (a := 1) (by decide) (by omega)).mp b56
    refine lv_aload_n K.1 K.2.1 dc_Mo_sectionAt_63 rfl (lv_at hl 1 rfl) ?_
    refine fq_get K hK cl_Mo hP 0 17 rfl (by decide) wd_787 rfl dc_Mo_sectionAt_64 ?_
    refine lv_iload_n K.1 K.2.1 dc_Mo_sectionAt_67 rfl (lv_at hl 3 rfl) ?_
    refine lv_iconst (v := 1) K.1 K.2.1 dc_Mo_sectionAt_68 (by decide) ?_
    refine lv_isub K.1 K.2.1 dc_Mo_sectionAt_69 ?_
    refine fq_asi (y := nI (ii - 1)) (pk_sub (a := ii) (b := 1) g1) ?_
    refine fq_ald K hK hP 6 rfl (vp_in_nI (show ii - 1 < 2300 by omega) (by decide)) dc_Mo_sectionAt_70 ?_
    refine fq_asi (y := fX (ii - 1)) (by rw [nI_clamp (show ii - 1 < 2 ^ 31 by omega)]) ?_
    refine lv_i2l K.1 K.2.1 dc_Mo_sectionAt_71 rfl ?_
    refine lv_topl (fun v2 e_v2 => ?_)
    refine lv_lstore K.1 K.2.1 dc_Mo_sectionAt_72 hl (by decide) rfl (fun ls hl => ?_)
    have hl : lv_has ls 10 [(6, .long v2), (4, .long v1), (0, .ref h), (1, .int (nI (5 * kk))), (2, .int (nI ii)), (3, .int (nI xs.length))] := hl
    have f1 := (mo_y1 h0 hX g1)
    rw [← e_v2] at f1
    refine lv_iload_n K.1 K.2.1 dc_Mo_sectionAt_74 rfl (lv_at hl 4 rfl) ?_
    refine lv_iconst (v := 2) K.1 K.2.1 dc_Mo_sectionAt_75 (by decide) ?_
    refine lv_icmp_ge (tgt := 83) K.1 K.2.1 dc_Mo_sectionAt_76 rfl (fun b76 => ?_) (fun b76 => ?_)
    · skip
      have g2 : 2 ≤ ii := (nI_leI (a := 2) (by decide) (by omega)).mp b76
      refine lv_aload_n K.1 K.2.1 dc_Mo_sectionAt_83 rfl (lv_at hl 2 rfl) ?_
      refine fq_get K hK cl_Mo hP 0 17 rfl (by decide) wd_787 rfl dc_Mo_sectionAt_84 ?_
      refine lv_iload_n K.1 K.2.1 dc_Mo_sectionAt_87 rfl (lv_at hl 4 rfl) ?_
      refine lv_iconst (v := 2) K.1 K.2.1 dc_Mo_sectionAt_88 (by decide) ?_
      refine lv_isub K.1 K.2.1 dc_Mo_sectionAt_89 ?_
      refine fq_asi (y := nI (ii - 2)) (pk_sub (a := ii) (b := 2) g2) ?_
      refine fq_ald K hK hP 6 rfl (vp_in_nI (show ii - 2 < 2300 by omega) (by decide)) dc_Mo_sectionAt_90 ?_
      refine fq_asi (y := fX (ii - 2)) (by rw [nI_clamp (show ii - 2 < 2 ^ 31 by omega)]) ?_
      refine lv_i2l K.1 K.2.1 dc_Mo_sectionAt_91 rfl ?_
      refine lv_topl (fun v3 e_v3 => ?_)
      refine lv_lstore K.1 K.2.1 dc_Mo_sectionAt_92 hl (by decide) rfl (fun ls hl => ?_)
      have hl : lv_has ls 10 [(8, .long v3), (6, .long v2), (4, .long v1), (0, .ref h), (1, .int (nI (5 * kk))), (2, .int (nI ii)), (3, .int (nI xs.length))] := hl
      have f2 := (mo_y2 h0 hX g2)
      rw [← e_v3] at f2
      refine lv_lload K.1 K.2.1 dc_Mo_sectionAt_94 (lv_at hl 2 rfl) ?_
      refine lv_aload_n K.1 K.2.1 dc_Mo_sectionAt_96 rfl (lv_at hl 3 rfl) ?_
      refine fq_get K hK cl_Mo hP 0 4 rfl (by decide) wd_774 rfl dc_Mo_sectionAt_97 ?_
      refine lv_iload_n K.1 K.2.1 dc_Mo_sectionAt_100 rfl (lv_at hl 4 rfl) ?_
      refine lv_iconst (v := 3) K.1 K.2.1 dc_Mo_sectionAt_101 (by decide) ?_
      refine lv_iadd K.1 K.2.1 dc_Mo_sectionAt_102 ?_
      refine fq_asi (y := nI (5 * kk + 3)) (nI_add (5 * kk) 3) ?_
      refine fq_ald K hK hP 2 rfl (vp_in_nI (show 5 * kk + 3 < 25 by omega) (by decide)) dc_Mo_sectionAt_103 ?_
      refine fq_asi (y := fN (5 * kk + 3)) (by rw [nI_clamp (show 5 * kk + 3 < 2 ^ 31 by omega)]) ?_
      refine lv_i2l K.1 K.2.1 dc_Mo_sectionAt_104 rfl ?_
      refine lv_lload K.1 K.2.1 dc_Mo_sectionAt_105 (lv_at hl 1 rfl) ?_
      refine lv_lmul K.1 K.2.1 dc_Mo_sectionAt_107 ?_
      refine lv_lsub K.1 K.2.1 dc_Mo_sectionAt_108 ?_
      refine lv_aload_n K.1 K.2.1 dc_Mo_sectionAt_109 rfl (lv_at hl 3 rfl) ?_
      refine fq_get K hK cl_Mo hP 0 4 rfl (by decide) wd_774 rfl dc_Mo_sectionAt_110 ?_
      refine lv_iload_n K.1 K.2.1 dc_Mo_sectionAt_113 rfl (lv_at hl 4 rfl) ?_
      refine lv_iconst (v := 4) K.1 K.2.1 dc_Mo_sectionAt_114 (by decide) ?_
      refine lv_iadd K.1 K.2.1 dc_Mo_sectionAt_115 ?_
      refine fq_asi (y := nI (5 * kk + 4)) (nI_add (5 * kk) 4) ?_
      refine fq_ald K hK hP 2 rfl (vp_in_nI (show 5 * kk + 4 < 25 by omega) (by decide)) dc_Mo_sectionAt_116 ?_
      refine fq_asi (y := fN (5 * kk + 4)) (by rw [nI_clamp (show 5 * kk + 4 < 2 ^ 31 by omega)]) ?_
      refine lv_i2l K.1 K.2.1 dc_Mo_sectionAt_117 rfl ?_
      refine lv_lload K.1 K.2.1 dc_Mo_sectionAt_118 (lv_at hl 0 rfl) ?_
      refine lv_lmul K.1 K.2.1 dc_Mo_sectionAt_120 ?_
      refine lv_lsub K.1 K.2.1 dc_Mo_sectionAt_121 ?_
      refine lv_topl (fun v4 e_v4 => ?_)
      refine lv_lstore K.1 K.2.1 dc_Mo_sectionAt_122 hl (by decide) rfl (fun ls hl => ?_)
      have hl : lv_has ls 10 [(4, .long v4), (8, .long v3), (6, .long v2), (0, .ref h), (1, .int (nI (5 * kk))), (2, .int (nI ii)), (3, .int (nI xs.length))] := hl
      refine lv_lload K.1 K.2.1 dc_Mo_sectionAt_124 (lv_at hl 0 rfl) ?_
      refine lv_ldc2 (v := 16384) K.1 K.2.1 K.2.2.2.1 (K.2.2.2.2 _ wd_872) dc_Mo_sectionAt_126 ?_
      have hc := fq_cut.of (wc := []) hP hD hS hA [] (by decide) rfl
      refine fq_cl_ (wr := [(h, .inr (12, [.int (nI rm), .int (fq_b sd), .int (nI ns), .ref aK, .ref aN, .int (nI iw), .int (nI ow), .int (fq_b ih), .int (fq_b oh), .ref aB, .int (nI ca), .int (nI us), .int (fq_b cl), .int (fq_b fl), .ref aS, .int (nI tk), .ref aL, .ref aX, .int (nI md), .int (nI gi), .int (nI su), .int (nI ps), .int (nI cs)])), (aK, .inl (cI, 5, .inl fK)), (aN, .inl (cI, 25, .inl fN)), (aB, .inl (cI, 120, .inl fB)), (aS, .inl (cI, 120, .inl fS)), (aL, .inl (cI, 2300, .inl fL)), (aX, .inl (cI, 2300, .inl fX))]) (fq_rS K hK hZ hS hc (ct_Mo_floor l D cI cO tE v4 16384 (by decide) _) yk_Mo_floor wd_868 wd_867 ⟨⟨rfl, rfl⟩, ⟨Nat.le_of_ble_eq_true rfl, Nat.le_of_ble_eq_true rfl⟩, ⟨Nat.le_of_ble_eq_true rfl, Nat.le_of_ble_eq_true rfl⟩⟩ hl.1 rfl (Nat.le_of_ble_eq_true rfl) dc_Mo_sectionAt_129) hP hD hS hc [] [0, 1, 2, 3, 4, 5, 6] rfl rfl (by decide) (by decide) (fun r4 w H locs hw4 hP hD hS => ?_)
      obtain ⟨rfl, hd1⟩ := hw4
      have hP : va_P D fq_cl ([(h, .inr (12, [.int (nI rm), .int (fq_b sd), .int (nI ns), .ref aK, .ref aN, .int (nI iw), .int (nI ow), .int (fq_b ih), .int (fq_b oh), .ref aB, .int (nI ca), .int (nI us), .int (fq_b cl), .int (fq_b fl), .ref aS, .int (nI tk), .ref aL, .ref aX, .int (nI md), .int (nI gi), .int (nI su), .int (nI ps), .int (nI cs)])), (aK, .inl (cI, 5, .inl fK)), (aN, .inl (cI, 25, .inl fN)), (aB, .inl (cI, 120, .inl fB)), (aS, .inl (cI, 120, .inl fS)), (aL, .inl (cI, 2300, .inl fL)), (aX, .inl (cI, 2300, .inl fX))]) _ := hP
      have hD : va_D A ([(h, .inr (12, [.int (nI rm), .int (fq_b sd), .int (nI ns), .ref aK, .ref aN, .int (nI iw), .int (nI ow), .int (fq_b ih), .int (fq_b oh), .ref aB, .int (nI ca), .int (nI us), .int (fq_b cl), .int (fq_b fl), .ref aS, .int (nI tk), .ref aL, .ref aX, .int (nI md), .int (nI gi), .int (nI su), .int (nI ps), .int (nI cs)])), (aK, .inl (cI, 5, .inl fK)), (aN, .inl (cI, 25, .inl fN)), (aB, .inl (cI, 120, .inl fB)), (aS, .inl (cI, 120, .inl fS)), (aL, .inl (cI, 2300, .inl fL)), (aX, .inl (cI, 2300, .inl fX))]) := hD
      have hc := fq_cut.of (wc := []) hP hD hS hA [] (by decide) rfl
      refine fq_ci (wr := [(h, .inr (12, [.int (nI rm), .int (fq_b sd), .int (nI ns), .ref aK, .ref aN, .int (nI iw), .int (nI ow), .int (fq_b ih), .int (fq_b oh), .ref aB, .int (nI ca), .int (nI us), .int (fq_b cl), .int (fq_b fl), .ref aS, .int (nI tk), .ref aL, .ref aX, .int (nI md), .int (nI gi), .int (nI su), .int (nI ps), .int (nI cs)])), (aK, .inl (cI, 5, .inl fK)), (aN, .inl (cI, 25, .inl fN)), (aB, .inl (cI, 120, .inl fB)), (aS, .inl (cI, 120, .inl fS)), (aL, .inl (cI, 2300, .inl fL)), (aX, .inl (cI, 2300, .inl fX))]) (fq_rS K hK hZ hS hc (ct_Mo_clipped l D cI cO tE r4 _) yk_Mo_clipped wd_954 wd_953 ⟨⟨rfl, rfl⟩, ⟨Nat.le_of_ble_eq_true rfl, Nat.le_of_ble_eq_true rfl⟩, ⟨Nat.le_of_ble_eq_true rfl, Nat.le_of_ble_eq_true rfl⟩⟩ hl.1 rfl (Nat.le_of_ble_eq_true rfl) dc_Mo_sectionAt_132) hP hD hS hc [] [0, 1, 2, 3, 4, 5, 6] rfl rfl (by decide) (by decide) (fun r5 w H locs hw5 hP hD hS => ?_)
      obtain ⟨rfl, hd2⟩ := hw5
      have hP : va_P D fq_cl ([(h, .inr (12, [.int (nI rm), .int (fq_b sd), .int (nI ns), .ref aK, .ref aN, .int (nI iw), .int (nI ow), .int (fq_b ih), .int (fq_b oh), .ref aB, .int (nI ca), .int (nI us), .int (fq_b cl), .int (fq_b fl), .ref aS, .int (nI tk), .ref aL, .ref aX, .int (nI md), .int (nI gi), .int (nI su), .int (nI ps), .int (nI cs)])), (aK, .inl (cI, 5, .inl fK)), (aN, .inl (cI, 25, .inl fN)), (aB, .inl (cI, 120, .inl fB)), (aS, .inl (cI, 120, .inl fS)), (aL, .inl (cI, 2300, .inl fL)), (aX, .inl (cI, 2300, .inl fX))]) _ := hP
      have hD : va_D A ([(h, .inr (12, [.int (nI rm), .int (fq_b sd), .int (nI ns), .ref aK, .ref aN, .int (nI iw), .int (nI ow), .int (fq_b ih), .int (fq_b oh), .ref aB, .int (nI ca), .int (nI us), .int (fq_b cl), .int (fq_b fl), .ref aS, .int (nI tk), .ref aL, .ref aX, .int (nI md), .int (nI gi), .int (nI su), .int (nI ps), .int (nI cs)])), (aK, .inl (cI, 5, .inl fK)), (aN, .inl (cI, 25, .inl fN)), (aB, .inl (cI, 120, .inl fB)), (aS, .inl (cI, 120, .inl fS)), (aL, .inl (cI, 2300, .inl fL)), (aX, .inl (cI, 2300, .inl fX))]) := hD
      exact fq_reti K hret hlk hS hP hD ⟨rfl, mo_sec h0 hok hN hxi hi hx1 hx2 hx3 f1 f2 e_v1 e_v4 hd1 hd2⟩ dc_Mo_sectionAt_135 (Nat.le_of_ble_eq_true rfl) (Nat.le_of_ble_eq_true rfl)
    · skip
      have g2 : ¬ 2 ≤ ii := fun z => b76 ((nI_leI (a := 2) (by decide) (by omega)).mpr z)
      refine lv_lconst (v := 0) K.1 K.2.1 dc_Mo_sectionAt_79 (by decide) ?_
      refine lv_goto (tgt := 92) K.1 K.2.1 dc_Mo_sectionAt_80 rfl ?_
      refine lv_lstore K.1 K.2.1 dc_Mo_sectionAt_92 hl (by decide) rfl (fun ls hl => ?_)
      have hl : lv_has ls 10 [(8, .long 0), (6, .long v2), (4, .long v1), (0, .ref h), (1, .int (nI (5 * kk))), (2, .int (nI ii)), (3, .int (nI xs.length))] := hl
      have f2 := (mo_z2 (b0 := sp.2.1) (b1 := sp.2.2.1) (b2 := sp.2.2.2.1) (a1 := sp.2.2.2.2.1) (a2 := sp.2.2.2.2.2) (xs := xs) g2)
      refine lv_lload K.1 K.2.1 dc_Mo_sectionAt_94 (lv_at hl 2 rfl) ?_
      refine lv_aload_n K.1 K.2.1 dc_Mo_sectionAt_96 rfl (lv_at hl 3 rfl) ?_
      refine fq_get K hK cl_Mo hP 0 4 rfl (by decide) wd_774 rfl dc_Mo_sectionAt_97 ?_
      refine lv_iload_n K.1 K.2.1 dc_Mo_sectionAt_100 rfl (lv_at hl 4 rfl) ?_
      refine lv_iconst (v := 3) K.1 K.2.1 dc_Mo_sectionAt_101 (by decide) ?_
      refine lv_iadd K.1 K.2.1 dc_Mo_sectionAt_102 ?_
      refine fq_asi (y := nI (5 * kk + 3)) (nI_add (5 * kk) 3) ?_
      refine fq_ald K hK hP 2 rfl (vp_in_nI (show 5 * kk + 3 < 25 by omega) (by decide)) dc_Mo_sectionAt_103 ?_
      refine fq_asi (y := fN (5 * kk + 3)) (by rw [nI_clamp (show 5 * kk + 3 < 2 ^ 31 by omega)]) ?_
      refine lv_i2l K.1 K.2.1 dc_Mo_sectionAt_104 rfl ?_
      refine lv_lload K.1 K.2.1 dc_Mo_sectionAt_105 (lv_at hl 1 rfl) ?_
      refine lv_lmul K.1 K.2.1 dc_Mo_sectionAt_107 ?_
      refine lv_lsub K.1 K.2.1 dc_Mo_sectionAt_108 ?_
      refine lv_aload_n K.1 K.2.1 dc_Mo_sectionAt_109 rfl (lv_at hl 3 rfl) ?_
      refine fq_get K hK cl_Mo hP 0 4 rfl (by decide) wd_774 rfl dc_Mo_sectionAt_110 ?_
      refine lv_iload_n K.1 K.2.1 dc_Mo_sectionAt_113 rfl (lv_at hl 4 rfl) ?_
      refine lv_iconst (v := 4) K.1 K.2.1 dc_Mo_sectionAt_114 (by decide) ?_
      refine lv_iadd K.1 K.2.1 dc_Mo_sectionAt_115 ?_
      refine fq_asi (y := nI (5 * kk + 4)) (nI_add (5 * kk) 4) ?_
      refine fq_ald K hK hP 2 rfl (vp_in_nI (show 5 * kk + 4 < 25 by omega) (by decide)) dc_Mo_sectionAt_116 ?_
      refine fq_asi (y := fN (5 * kk + 4)) (by rw [nI_clamp (show 5 * kk + 4 < 2 ^ 31 by omega)]) ?_
      refine lv_i2l K.1 K.2.1 dc_Mo_sectionAt_117 rfl ?_
      refine lv_lload K.1 K.2.1 dc_Mo_sectionAt_118 (lv_at hl 0 rfl) ?_
      refine lv_lmul K.1 K.2.1 dc_Mo_sectionAt_120 ?_
      refine lv_lsub K.1 K.2.1 dc_Mo_sectionAt_121 ?_
      refine lv_topl (fun v5 e_v5 => ?_)
      refine lv_lstore K.1 K.2.1 dc_Mo_sectionAt_122 hl (by decide) rfl (fun ls hl => ?_)
      have hl : lv_has ls 10 [(4, .long v5), (8, .long 0), (6, .long v2), (0, .ref h), (1, .int (nI (5 * kk))), (2, .int (nI ii)), (3, .int (nI xs.length))] := hl
      refine lv_lload K.1 K.2.1 dc_Mo_sectionAt_124 (lv_at hl 0 rfl) ?_
      refine lv_ldc2 (v := 16384) K.1 K.2.1 K.2.2.2.1 (K.2.2.2.2 _ wd_872) dc_Mo_sectionAt_126 ?_
      have hc := fq_cut.of (wc := []) hP hD hS hA [] (by decide) rfl
      refine fq_cl_ (wr := [(h, .inr (12, [.int (nI rm), .int (fq_b sd), .int (nI ns), .ref aK, .ref aN, .int (nI iw), .int (nI ow), .int (fq_b ih), .int (fq_b oh), .ref aB, .int (nI ca), .int (nI us), .int (fq_b cl), .int (fq_b fl), .ref aS, .int (nI tk), .ref aL, .ref aX, .int (nI md), .int (nI gi), .int (nI su), .int (nI ps), .int (nI cs)])), (aK, .inl (cI, 5, .inl fK)), (aN, .inl (cI, 25, .inl fN)), (aB, .inl (cI, 120, .inl fB)), (aS, .inl (cI, 120, .inl fS)), (aL, .inl (cI, 2300, .inl fL)), (aX, .inl (cI, 2300, .inl fX))]) (fq_rS K hK hZ hS hc (ct_Mo_floor l D cI cO tE v5 16384 (by decide) _) yk_Mo_floor wd_868 wd_867 ⟨⟨rfl, rfl⟩, ⟨Nat.le_of_ble_eq_true rfl, Nat.le_of_ble_eq_true rfl⟩, ⟨Nat.le_of_ble_eq_true rfl, Nat.le_of_ble_eq_true rfl⟩⟩ hl.1 rfl (Nat.le_of_ble_eq_true rfl) dc_Mo_sectionAt_129) hP hD hS hc [] [0, 1, 2, 3, 4, 5, 6] rfl rfl (by decide) (by decide) (fun r6 w H locs hw6 hP hD hS => ?_)
      obtain ⟨rfl, hd3⟩ := hw6
      have hP : va_P D fq_cl ([(h, .inr (12, [.int (nI rm), .int (fq_b sd), .int (nI ns), .ref aK, .ref aN, .int (nI iw), .int (nI ow), .int (fq_b ih), .int (fq_b oh), .ref aB, .int (nI ca), .int (nI us), .int (fq_b cl), .int (fq_b fl), .ref aS, .int (nI tk), .ref aL, .ref aX, .int (nI md), .int (nI gi), .int (nI su), .int (nI ps), .int (nI cs)])), (aK, .inl (cI, 5, .inl fK)), (aN, .inl (cI, 25, .inl fN)), (aB, .inl (cI, 120, .inl fB)), (aS, .inl (cI, 120, .inl fS)), (aL, .inl (cI, 2300, .inl fL)), (aX, .inl (cI, 2300, .inl fX))]) _ := hP
      have hD : va_D A ([(h, .inr (12, [.int (nI rm), .int (fq_b sd), .int (nI ns), .ref aK, .ref aN, .int (nI iw), .int (nI ow), .int (fq_b ih), .int (fq_b oh), .ref aB, .int (nI ca), .int (nI us), .int (fq_b cl), .int (fq_b fl), .ref aS, .int (nI tk), .ref aL, .ref aX, .int (nI md), .int (nI gi), .int (nI su), .int (nI ps), .int (nI cs)])), (aK, .inl (cI, 5, .inl fK)), (aN, .inl (cI, 25, .inl fN)), (aB, .inl (cI, 120, .inl fB)), (aS, .inl (cI, 120, .inl fS)), (aL, .inl (cI, 2300, .inl fL)), (aX, .inl (cI, 2300, .inl fX))]) := hD
      have hc := fq_cut.of (wc := []) hP hD hS hA [] (by decide) rfl
      refine fq_ci (wr := [(h, .inr (12, [.int (nI rm), .int (fq_b sd), .int (nI ns), .ref aK, .ref aN, .int (nI iw), .int (nI ow), .int (fq_b ih), .int (fq_b oh), .ref aB, .int (nI ca), .int (nI us), .int (fq_b cl), .int (fq_b fl), .ref aS, .int (nI tk), .ref aL, .ref aX, .int (nI md), .int (nI gi), .int (nI su), .int (nI ps), .int (nI cs)])), (aK, .inl (cI, 5, .inl fK)), (aN, .inl (cI, 25, .inl fN)), (aB, .inl (cI, 120, .inl fB)), (aS, .inl (cI, 120, .inl fS)), (aL, .inl (cI, 2300, .inl fL)), (aX, .inl (cI, 2300, .inl fX))]) (fq_rS K hK hZ hS hc (ct_Mo_clipped l D cI cO tE r6 _) yk_Mo_clipped wd_954 wd_953 ⟨⟨rfl, rfl⟩, ⟨Nat.le_of_ble_eq_true rfl, Nat.le_of_ble_eq_true rfl⟩, ⟨Nat.le_of_ble_eq_true rfl, Nat.le_of_ble_eq_true rfl⟩⟩ hl.1 rfl (Nat.le_of_ble_eq_true rfl) dc_Mo_sectionAt_132) hP hD hS hc [] [0, 1, 2, 3, 4, 5, 6] rfl rfl (by decide) (by decide) (fun r7 w H locs hw7 hP hD hS => ?_)
      obtain ⟨rfl, hd4⟩ := hw7
      have hP : va_P D fq_cl ([(h, .inr (12, [.int (nI rm), .int (fq_b sd), .int (nI ns), .ref aK, .ref aN, .int (nI iw), .int (nI ow), .int (fq_b ih), .int (fq_b oh), .ref aB, .int (nI ca), .int (nI us), .int (fq_b cl), .int (fq_b fl), .ref aS, .int (nI tk), .ref aL, .ref aX, .int (nI md), .int (nI gi), .int (nI su), .int (nI ps), .int (nI cs)])), (aK, .inl (cI, 5, .inl fK)), (aN, .inl (cI, 25, .inl fN)), (aB, .inl (cI, 120, .inl fB)), (aS, .inl (cI, 120, .inl fS)), (aL, .inl (cI, 2300, .inl fL)), (aX, .inl (cI, 2300, .inl fX))]) _ := hP
      have hD : va_D A ([(h, .inr (12, [.int (nI rm), .int (fq_b sd), .int (nI ns), .ref aK, .ref aN, .int (nI iw), .int (nI ow), .int (fq_b ih), .int (fq_b oh), .ref aB, .int (nI ca), .int (nI us), .int (fq_b cl), .int (fq_b fl), .ref aS, .int (nI tk), .ref aL, .ref aX, .int (nI md), .int (nI gi), .int (nI su), .int (nI ps), .int (nI cs)])), (aK, .inl (cI, 5, .inl fK)), (aN, .inl (cI, 25, .inl fN)), (aB, .inl (cI, 120, .inl fB)), (aS, .inl (cI, 120, .inl fS)), (aL, .inl (cI, 2300, .inl fL)), (aX, .inl (cI, 2300, .inl fX))]) := hD
      exact fq_reti K hret hlk hS hP hD ⟨rfl, mo_sec h0 hok hN hxi hi hx1 hx2 hx3 f1 f2 e_v1 e_v5 hd3 hd4⟩ dc_Mo_sectionAt_135 (Nat.le_of_ble_eq_true rfl) (Nat.le_of_ble_eq_true rfl)
  · skip
    have g1 : ¬ 1 ≤ ii := fun z => b56 ((nI_leI (a := 1) (by decide) (by omega)).mpr z)
    refine lv_lconst (v := 0) K.1 K.2.1 dc_Mo_sectionAt_59 (by decide) ?_
    refine lv_goto (tgt := 72) K.1 K.2.1 dc_Mo_sectionAt_60 rfl ?_
    refine lv_lstore K.1 K.2.1 dc_Mo_sectionAt_72 hl (by decide) rfl (fun ls hl => ?_)
    have hl : lv_has ls 10 [(6, .long 0), (4, .long v1), (0, .ref h), (1, .int (nI (5 * kk))), (2, .int (nI ii)), (3, .int (nI xs.length))] := hl
    have f1 := (mo_z1 (b0 := sp.2.1) (b1 := sp.2.2.1) (b2 := sp.2.2.2.1) (a1 := sp.2.2.2.2.1) (a2 := sp.2.2.2.2.2) (xs := xs) g1)
    refine lv_iload_n K.1 K.2.1 dc_Mo_sectionAt_74 rfl (lv_at hl 4 rfl) ?_
    refine lv_iconst (v := 2) K.1 K.2.1 dc_Mo_sectionAt_75 (by decide) ?_
    refine lv_icmp_ge (tgt := 83) K.1 K.2.1 dc_Mo_sectionAt_76 rfl (fun b76 => ?_) (fun b76 => ?_)
    · skip
      have g2 : 2 ≤ ii := (nI_leI (a := 2) (by decide) (by omega)).mp b76
      refine lv_aload_n K.1 K.2.1 dc_Mo_sectionAt_83 rfl (lv_at hl 2 rfl) ?_
      refine fq_get K hK cl_Mo hP 0 17 rfl (by decide) wd_787 rfl dc_Mo_sectionAt_84 ?_
      refine lv_iload_n K.1 K.2.1 dc_Mo_sectionAt_87 rfl (lv_at hl 4 rfl) ?_
      refine lv_iconst (v := 2) K.1 K.2.1 dc_Mo_sectionAt_88 (by decide) ?_
      refine lv_isub K.1 K.2.1 dc_Mo_sectionAt_89 ?_
      refine fq_asi (y := nI (ii - 2)) (pk_sub (a := ii) (b := 2) g2) ?_
      refine fq_ald K hK hP 6 rfl (vp_in_nI (show ii - 2 < 2300 by omega) (by decide)) dc_Mo_sectionAt_90 ?_
      refine fq_asi (y := fX (ii - 2)) (by rw [nI_clamp (show ii - 2 < 2 ^ 31 by omega)]) ?_
      refine lv_i2l K.1 K.2.1 dc_Mo_sectionAt_91 rfl ?_
      refine lv_topl (fun v6 e_v6 => ?_)
      refine lv_lstore K.1 K.2.1 dc_Mo_sectionAt_92 hl (by decide) rfl (fun ls hl => ?_)
      have hl : lv_has ls 10 [(8, .long v6), (6, .long 0), (4, .long v1), (0, .ref h), (1, .int (nI (5 * kk))), (2, .int (nI ii)), (3, .int (nI xs.length))] := hl
      have f2 := (mo_y2 h0 hX g2)
      rw [← e_v6] at f2
      refine lv_lload K.1 K.2.1 dc_Mo_sectionAt_94 (lv_at hl 2 rfl) ?_
      refine lv_aload_n K.1 K.2.1 dc_Mo_sectionAt_96 rfl (lv_at hl 3 rfl) ?_
      refine fq_get K hK cl_Mo hP 0 4 rfl (by decide) wd_774 rfl dc_Mo_sectionAt_97 ?_
      refine lv_iload_n K.1 K.2.1 dc_Mo_sectionAt_100 rfl (lv_at hl 4 rfl) ?_
      refine lv_iconst (v := 3) K.1 K.2.1 dc_Mo_sectionAt_101 (by decide) ?_
      refine lv_iadd K.1 K.2.1 dc_Mo_sectionAt_102 ?_
      refine fq_asi (y := nI (5 * kk + 3)) (nI_add (5 * kk) 3) ?_
      refine fq_ald K hK hP 2 rfl (vp_in_nI (show 5 * kk + 3 < 25 by omega) (by decide)) dc_Mo_sectionAt_103 ?_
      refine fq_asi (y := fN (5 * kk + 3)) (by rw [nI_clamp (show 5 * kk + 3 < 2 ^ 31 by omega)]) ?_
      refine lv_i2l K.1 K.2.1 dc_Mo_sectionAt_104 rfl ?_
      refine lv_lload K.1 K.2.1 dc_Mo_sectionAt_105 (lv_at hl 1 rfl) ?_
      refine lv_lmul K.1 K.2.1 dc_Mo_sectionAt_107 ?_
      refine lv_lsub K.1 K.2.1 dc_Mo_sectionAt_108 ?_
      refine lv_aload_n K.1 K.2.1 dc_Mo_sectionAt_109 rfl (lv_at hl 3 rfl) ?_
      refine fq_get K hK cl_Mo hP 0 4 rfl (by decide) wd_774 rfl dc_Mo_sectionAt_110 ?_
      refine lv_iload_n K.1 K.2.1 dc_Mo_sectionAt_113 rfl (lv_at hl 4 rfl) ?_
      refine lv_iconst (v := 4) K.1 K.2.1 dc_Mo_sectionAt_114 (by decide) ?_
      refine lv_iadd K.1 K.2.1 dc_Mo_sectionAt_115 ?_
      refine fq_asi (y := nI (5 * kk + 4)) (nI_add (5 * kk) 4) ?_
      refine fq_ald K hK hP 2 rfl (vp_in_nI (show 5 * kk + 4 < 25 by omega) (by decide)) dc_Mo_sectionAt_116 ?_
      refine fq_asi (y := fN (5 * kk + 4)) (by rw [nI_clamp (show 5 * kk + 4 < 2 ^ 31 by omega)]) ?_
      refine lv_i2l K.1 K.2.1 dc_Mo_sectionAt_117 rfl ?_
      refine lv_lload K.1 K.2.1 dc_Mo_sectionAt_118 (lv_at hl 0 rfl) ?_
      refine lv_lmul K.1 K.2.1 dc_Mo_sectionAt_120 ?_
      refine lv_lsub K.1 K.2.1 dc_Mo_sectionAt_121 ?_
      refine lv_topl (fun v7 e_v7 => ?_)
      refine lv_lstore K.1 K.2.1 dc_Mo_sectionAt_122 hl (by decide) rfl (fun ls hl => ?_)
      have hl : lv_has ls 10 [(4, .long v7), (8, .long v6), (6, .long 0), (0, .ref h), (1, .int (nI (5 * kk))), (2, .int (nI ii)), (3, .int (nI xs.length))] := hl
      refine lv_lload K.1 K.2.1 dc_Mo_sectionAt_124 (lv_at hl 0 rfl) ?_
      refine lv_ldc2 (v := 16384) K.1 K.2.1 K.2.2.2.1 (K.2.2.2.2 _ wd_872) dc_Mo_sectionAt_126 ?_
      have hc := fq_cut.of (wc := []) hP hD hS hA [] (by decide) rfl
      refine fq_cl_ (wr := [(h, .inr (12, [.int (nI rm), .int (fq_b sd), .int (nI ns), .ref aK, .ref aN, .int (nI iw), .int (nI ow), .int (fq_b ih), .int (fq_b oh), .ref aB, .int (nI ca), .int (nI us), .int (fq_b cl), .int (fq_b fl), .ref aS, .int (nI tk), .ref aL, .ref aX, .int (nI md), .int (nI gi), .int (nI su), .int (nI ps), .int (nI cs)])), (aK, .inl (cI, 5, .inl fK)), (aN, .inl (cI, 25, .inl fN)), (aB, .inl (cI, 120, .inl fB)), (aS, .inl (cI, 120, .inl fS)), (aL, .inl (cI, 2300, .inl fL)), (aX, .inl (cI, 2300, .inl fX))]) (fq_rS K hK hZ hS hc (ct_Mo_floor l D cI cO tE v7 16384 (by decide) _) yk_Mo_floor wd_868 wd_867 ⟨⟨rfl, rfl⟩, ⟨Nat.le_of_ble_eq_true rfl, Nat.le_of_ble_eq_true rfl⟩, ⟨Nat.le_of_ble_eq_true rfl, Nat.le_of_ble_eq_true rfl⟩⟩ hl.1 rfl (Nat.le_of_ble_eq_true rfl) dc_Mo_sectionAt_129) hP hD hS hc [] [0, 1, 2, 3, 4, 5, 6] rfl rfl (by decide) (by decide) (fun r8 w H locs hw8 hP hD hS => ?_)
      obtain ⟨rfl, hd5⟩ := hw8
      have hP : va_P D fq_cl ([(h, .inr (12, [.int (nI rm), .int (fq_b sd), .int (nI ns), .ref aK, .ref aN, .int (nI iw), .int (nI ow), .int (fq_b ih), .int (fq_b oh), .ref aB, .int (nI ca), .int (nI us), .int (fq_b cl), .int (fq_b fl), .ref aS, .int (nI tk), .ref aL, .ref aX, .int (nI md), .int (nI gi), .int (nI su), .int (nI ps), .int (nI cs)])), (aK, .inl (cI, 5, .inl fK)), (aN, .inl (cI, 25, .inl fN)), (aB, .inl (cI, 120, .inl fB)), (aS, .inl (cI, 120, .inl fS)), (aL, .inl (cI, 2300, .inl fL)), (aX, .inl (cI, 2300, .inl fX))]) _ := hP
      have hD : va_D A ([(h, .inr (12, [.int (nI rm), .int (fq_b sd), .int (nI ns), .ref aK, .ref aN, .int (nI iw), .int (nI ow), .int (fq_b ih), .int (fq_b oh), .ref aB, .int (nI ca), .int (nI us), .int (fq_b cl), .int (fq_b fl), .ref aS, .int (nI tk), .ref aL, .ref aX, .int (nI md), .int (nI gi), .int (nI su), .int (nI ps), .int (nI cs)])), (aK, .inl (cI, 5, .inl fK)), (aN, .inl (cI, 25, .inl fN)), (aB, .inl (cI, 120, .inl fB)), (aS, .inl (cI, 120, .inl fS)), (aL, .inl (cI, 2300, .inl fL)), (aX, .inl (cI, 2300, .inl fX))]) := hD
      have hc := fq_cut.of (wc := []) hP hD hS hA [] (by decide) rfl
      refine fq_ci (wr := [(h, .inr (12, [.int (nI rm), .int (fq_b sd), .int (nI ns), .ref aK, .ref aN, .int (nI iw), .int (nI ow), .int (fq_b ih), .int (fq_b oh), .ref aB, .int (nI ca), .int (nI us), .int (fq_b cl), .int (fq_b fl), .ref aS, .int (nI tk), .ref aL, .ref aX, .int (nI md), .int (nI gi), .int (nI su), .int (nI ps), .int (nI cs)])), (aK, .inl (cI, 5, .inl fK)), (aN, .inl (cI, 25, .inl fN)), (aB, .inl (cI, 120, .inl fB)), (aS, .inl (cI, 120, .inl fS)), (aL, .inl (cI, 2300, .inl fL)), (aX, .inl (cI, 2300, .inl fX))]) (fq_rS K hK hZ hS hc (ct_Mo_clipped l D cI cO tE r8 _) yk_Mo_clipped wd_954 wd_953 ⟨⟨rfl, rfl⟩, ⟨Nat.le_of_ble_eq_true rfl, Nat.le_of_ble_eq_true rfl⟩, ⟨Nat.le_of_ble_eq_true rfl, Nat.le_of_ble_eq_true rfl⟩⟩ hl.1 rfl (Nat.le_of_ble_eq_true rfl) dc_Mo_sectionAt_132) hP hD hS hc [] [0, 1, 2, 3, 4, 5, 6] rfl rfl (by decide) (by decide) (fun r9 w H locs hw9 hP hD hS => ?_)
      obtain ⟨rfl, hd6⟩ := hw9
      have hP : va_P D fq_cl ([(h, .inr (12, [.int (nI rm), .int (fq_b sd), .int (nI ns), .ref aK, .ref aN, .int (nI iw), .int (nI ow), .int (fq_b ih), .int (fq_b oh), .ref aB, .int (nI ca), .int (nI us), .int (fq_b cl), .int (fq_b fl), .ref aS, .int (nI tk), .ref aL, .ref aX, .int (nI md), .int (nI gi), .int (nI su), .int (nI ps), .int (nI cs)])), (aK, .inl (cI, 5, .inl fK)), (aN, .inl (cI, 25, .inl fN)), (aB, .inl (cI, 120, .inl fB)), (aS, .inl (cI, 120, .inl fS)), (aL, .inl (cI, 2300, .inl fL)), (aX, .inl (cI, 2300, .inl fX))]) _ := hP
      have hD : va_D A ([(h, .inr (12, [.int (nI rm), .int (fq_b sd), .int (nI ns), .ref aK, .ref aN, .int (nI iw), .int (nI ow), .int (fq_b ih), .int (fq_b oh), .ref aB, .int (nI ca), .int (nI us), .int (fq_b cl), .int (fq_b fl), .ref aS, .int (nI tk), .ref aL, .ref aX, .int (nI md), .int (nI gi), .int (nI su), .int (nI ps), .int (nI cs)])), (aK, .inl (cI, 5, .inl fK)), (aN, .inl (cI, 25, .inl fN)), (aB, .inl (cI, 120, .inl fB)), (aS, .inl (cI, 120, .inl fS)), (aL, .inl (cI, 2300, .inl fL)), (aX, .inl (cI, 2300, .inl fX))]) := hD
      exact fq_reti K hret hlk hS hP hD ⟨rfl, mo_sec h0 hok hN hxi hi hx1 hx2 hx3 f1 f2 e_v1 e_v7 hd5 hd6⟩ dc_Mo_sectionAt_135 (Nat.le_of_ble_eq_true rfl) (Nat.le_of_ble_eq_true rfl)
    · skip
      have g2 : ¬ 2 ≤ ii := fun z => b76 ((nI_leI (a := 2) (by decide) (by omega)).mpr z)
      refine lv_lconst (v := 0) K.1 K.2.1 dc_Mo_sectionAt_79 (by decide) ?_
      refine lv_goto (tgt := 92) K.1 K.2.1 dc_Mo_sectionAt_80 rfl ?_
      refine lv_lstore K.1 K.2.1 dc_Mo_sectionAt_92 hl (by decide) rfl (fun ls hl => ?_)
      have hl : lv_has ls 10 [(8, .long 0), (6, .long 0), (4, .long v1), (0, .ref h), (1, .int (nI (5 * kk))), (2, .int (nI ii)), (3, .int (nI xs.length))] := hl
      have f2 := (mo_z2 (b0 := sp.2.1) (b1 := sp.2.2.1) (b2 := sp.2.2.2.1) (a1 := sp.2.2.2.2.1) (a2 := sp.2.2.2.2.2) (xs := xs) g2)
      refine lv_lload K.1 K.2.1 dc_Mo_sectionAt_94 (lv_at hl 2 rfl) ?_
      refine lv_aload_n K.1 K.2.1 dc_Mo_sectionAt_96 rfl (lv_at hl 3 rfl) ?_
      refine fq_get K hK cl_Mo hP 0 4 rfl (by decide) wd_774 rfl dc_Mo_sectionAt_97 ?_
      refine lv_iload_n K.1 K.2.1 dc_Mo_sectionAt_100 rfl (lv_at hl 4 rfl) ?_
      refine lv_iconst (v := 3) K.1 K.2.1 dc_Mo_sectionAt_101 (by decide) ?_
      refine lv_iadd K.1 K.2.1 dc_Mo_sectionAt_102 ?_
      refine fq_asi (y := nI (5 * kk + 3)) (nI_add (5 * kk) 3) ?_
      refine fq_ald K hK hP 2 rfl (vp_in_nI (show 5 * kk + 3 < 25 by omega) (by decide)) dc_Mo_sectionAt_103 ?_
      refine fq_asi (y := fN (5 * kk + 3)) (by rw [nI_clamp (show 5 * kk + 3 < 2 ^ 31 by omega)]) ?_
      refine lv_i2l K.1 K.2.1 dc_Mo_sectionAt_104 rfl ?_
      refine lv_lload K.1 K.2.1 dc_Mo_sectionAt_105 (lv_at hl 1 rfl) ?_
      refine lv_lmul K.1 K.2.1 dc_Mo_sectionAt_107 ?_
      refine lv_lsub K.1 K.2.1 dc_Mo_sectionAt_108 ?_
      refine lv_aload_n K.1 K.2.1 dc_Mo_sectionAt_109 rfl (lv_at hl 3 rfl) ?_
      refine fq_get K hK cl_Mo hP 0 4 rfl (by decide) wd_774 rfl dc_Mo_sectionAt_110 ?_
      refine lv_iload_n K.1 K.2.1 dc_Mo_sectionAt_113 rfl (lv_at hl 4 rfl) ?_
      refine lv_iconst (v := 4) K.1 K.2.1 dc_Mo_sectionAt_114 (by decide) ?_
      refine lv_iadd K.1 K.2.1 dc_Mo_sectionAt_115 ?_
      refine fq_asi (y := nI (5 * kk + 4)) (nI_add (5 * kk) 4) ?_
      refine fq_ald K hK hP 2 rfl (vp_in_nI (show 5 * kk + 4 < 25 by omega) (by decide)) dc_Mo_sectionAt_116 ?_
      refine fq_asi (y := fN (5 * kk + 4)) (by rw [nI_clamp (show 5 * kk + 4 < 2 ^ 31 by omega)]) ?_
      refine lv_i2l K.1 K.2.1 dc_Mo_sectionAt_117 rfl ?_
      refine lv_lload K.1 K.2.1 dc_Mo_sectionAt_118 (lv_at hl 0 rfl) ?_
      refine lv_lmul K.1 K.2.1 dc_Mo_sectionAt_120 ?_
      refine lv_lsub K.1 K.2.1 dc_Mo_sectionAt_121 ?_
      refine lv_topl (fun v8 e_v8 => ?_)
      refine lv_lstore K.1 K.2.1 dc_Mo_sectionAt_122 hl (by decide) rfl (fun ls hl => ?_)
      have hl : lv_has ls 10 [(4, .long v8), (8, .long 0), (6, .long 0), (0, .ref h), (1, .int (nI (5 * kk))), (2, .int (nI ii)), (3, .int (nI xs.length))] := hl
      refine lv_lload K.1 K.2.1 dc_Mo_sectionAt_124 (lv_at hl 0 rfl) ?_
      refine lv_ldc2 (v := 16384) K.1 K.2.1 K.2.2.2.1 (K.2.2.2.2 _ wd_872) dc_Mo_sectionAt_126 ?_
      have hc := fq_cut.of (wc := []) hP hD hS hA [] (by decide) rfl
      refine fq_cl_ (wr := [(h, .inr (12, [.int (nI rm), .int (fq_b sd), .int (nI ns), .ref aK, .ref aN, .int (nI iw), .int (nI ow), .int (fq_b ih), .int (fq_b oh), .ref aB, .int (nI ca), .int (nI us), .int (fq_b cl), .int (fq_b fl), .ref aS, .int (nI tk), .ref aL, .ref aX, .int (nI md), .int (nI gi), .int (nI su), .int (nI ps), .int (nI cs)])), (aK, .inl (cI, 5, .inl fK)), (aN, .inl (cI, 25, .inl fN)), (aB, .inl (cI, 120, .inl fB)), (aS, .inl (cI, 120, .inl fS)), (aL, .inl (cI, 2300, .inl fL)), (aX, .inl (cI, 2300, .inl fX))]) (fq_rS K hK hZ hS hc (ct_Mo_floor l D cI cO tE v8 16384 (by decide) _) yk_Mo_floor wd_868 wd_867 ⟨⟨rfl, rfl⟩, ⟨Nat.le_of_ble_eq_true rfl, Nat.le_of_ble_eq_true rfl⟩, ⟨Nat.le_of_ble_eq_true rfl, Nat.le_of_ble_eq_true rfl⟩⟩ hl.1 rfl (Nat.le_of_ble_eq_true rfl) dc_Mo_sectionAt_129) hP hD hS hc [] [0, 1, 2, 3, 4, 5, 6] rfl rfl (by decide) (by decide) (fun r10 w H locs hw10 hP hD hS => ?_)
      obtain ⟨rfl, hd7⟩ := hw10
      have hP : va_P D fq_cl ([(h, .inr (12, [.int (nI rm), .int (fq_b sd), .int (nI ns), .ref aK, .ref aN, .int (nI iw), .int (nI ow), .int (fq_b ih), .int (fq_b oh), .ref aB, .int (nI ca), .int (nI us), .int (fq_b cl), .int (fq_b fl), .ref aS, .int (nI tk), .ref aL, .ref aX, .int (nI md), .int (nI gi), .int (nI su), .int (nI ps), .int (nI cs)])), (aK, .inl (cI, 5, .inl fK)), (aN, .inl (cI, 25, .inl fN)), (aB, .inl (cI, 120, .inl fB)), (aS, .inl (cI, 120, .inl fS)), (aL, .inl (cI, 2300, .inl fL)), (aX, .inl (cI, 2300, .inl fX))]) _ := hP
      have hD : va_D A ([(h, .inr (12, [.int (nI rm), .int (fq_b sd), .int (nI ns), .ref aK, .ref aN, .int (nI iw), .int (nI ow), .int (fq_b ih), .int (fq_b oh), .ref aB, .int (nI ca), .int (nI us), .int (fq_b cl), .int (fq_b fl), .ref aS, .int (nI tk), .ref aL, .ref aX, .int (nI md), .int (nI gi), .int (nI su), .int (nI ps), .int (nI cs)])), (aK, .inl (cI, 5, .inl fK)), (aN, .inl (cI, 25, .inl fN)), (aB, .inl (cI, 120, .inl fB)), (aS, .inl (cI, 120, .inl fS)), (aL, .inl (cI, 2300, .inl fL)), (aX, .inl (cI, 2300, .inl fX))]) := hD
      have hc := fq_cut.of (wc := []) hP hD hS hA [] (by decide) rfl
      refine fq_ci (wr := [(h, .inr (12, [.int (nI rm), .int (fq_b sd), .int (nI ns), .ref aK, .ref aN, .int (nI iw), .int (nI ow), .int (fq_b ih), .int (fq_b oh), .ref aB, .int (nI ca), .int (nI us), .int (fq_b cl), .int (fq_b fl), .ref aS, .int (nI tk), .ref aL, .ref aX, .int (nI md), .int (nI gi), .int (nI su), .int (nI ps), .int (nI cs)])), (aK, .inl (cI, 5, .inl fK)), (aN, .inl (cI, 25, .inl fN)), (aB, .inl (cI, 120, .inl fB)), (aS, .inl (cI, 120, .inl fS)), (aL, .inl (cI, 2300, .inl fL)), (aX, .inl (cI, 2300, .inl fX))]) (fq_rS K hK hZ hS hc (ct_Mo_clipped l D cI cO tE r10 _) yk_Mo_clipped wd_954 wd_953 ⟨⟨rfl, rfl⟩, ⟨Nat.le_of_ble_eq_true rfl, Nat.le_of_ble_eq_true rfl⟩, ⟨Nat.le_of_ble_eq_true rfl, Nat.le_of_ble_eq_true rfl⟩⟩ hl.1 rfl (Nat.le_of_ble_eq_true rfl) dc_Mo_sectionAt_132) hP hD hS hc [] [0, 1, 2, 3, 4, 5, 6] rfl rfl (by decide) (by decide) (fun r11 w H locs hw11 hP hD hS => ?_)
      obtain ⟨rfl, hd8⟩ := hw11
      have hP : va_P D fq_cl ([(h, .inr (12, [.int (nI rm), .int (fq_b sd), .int (nI ns), .ref aK, .ref aN, .int (nI iw), .int (nI ow), .int (fq_b ih), .int (fq_b oh), .ref aB, .int (nI ca), .int (nI us), .int (fq_b cl), .int (fq_b fl), .ref aS, .int (nI tk), .ref aL, .ref aX, .int (nI md), .int (nI gi), .int (nI su), .int (nI ps), .int (nI cs)])), (aK, .inl (cI, 5, .inl fK)), (aN, .inl (cI, 25, .inl fN)), (aB, .inl (cI, 120, .inl fB)), (aS, .inl (cI, 120, .inl fS)), (aL, .inl (cI, 2300, .inl fL)), (aX, .inl (cI, 2300, .inl fX))]) _ := hP
      have hD : va_D A ([(h, .inr (12, [.int (nI rm), .int (fq_b sd), .int (nI ns), .ref aK, .ref aN, .int (nI iw), .int (nI ow), .int (fq_b ih), .int (fq_b oh), .ref aB, .int (nI ca), .int (nI us), .int (fq_b cl), .int (fq_b fl), .ref aS, .int (nI tk), .ref aL, .ref aX, .int (nI md), .int (nI gi), .int (nI su), .int (nI ps), .int (nI cs)])), (aK, .inl (cI, 5, .inl fK)), (aN, .inl (cI, 25, .inl fN)), (aB, .inl (cI, 120, .inl fB)), (aS, .inl (cI, 120, .inl fS)), (aL, .inl (cI, 2300, .inl fL)), (aX, .inl (cI, 2300, .inl fX))]) := hD
      exact fq_reti K hret hlk hS hP hD ⟨rfl, mo_sec h0 hok hN hxi hi hx1 hx2 hx3 f1 f2 e_v1 e_v8 hd7 hd8⟩ dc_Mo_sectionAt_135 (Nat.le_of_ble_eq_true rfl) (Nat.le_of_ble_eq_true rfl)
set_option maxHeartbeats 4000000 in
set_option maxRecDepth 100000 in
theorem ct_Mo_windowAt (l : Launch) (D : va_G) (cI cO : ClassId) (tE : Nat) (h aK aN aB aS aL aX : Nat) (rm : Nat) (sd : Bool) (ns : Nat) (iw : Nat) (ow : Nat) (ih : Bool) (oh : Bool) (ca : Nat) (us : Nat) (cl : Bool) (fl : Bool) (tk : Nat) (md : Nat) (gi : Nat) (su : Nat) (ps : Nat) (cs : Nat) (fK fN fB fS fL fX : Nat → Int32) (sp : fm_S) (xs : List Int) (sh : Int32) (ii : Nat) (h2 : sp.1 = 2) (hok : fm_ok sp) (hsh : sh.toInt = sp.2.1) (hL : mo_L fL xs) (hxi : ∀ v ∈ xs, fm_in v) (hi : ii < 2300) (sz : Nat) : Met l my_Mo_windowAt (fq_w my_Mo_windowAt cb_Mo_windowAt 13 (some .int)) ({ frames := 1, cells := 0, slots := 0, locals := 25 }) (va_Pc ([.ref h, .int sh, .int (nI sp.2.2.1.toNat), .int (nI ii), .int (nI xs.length)]) (fq_Pre D cI cO tE sz ([(h, .inr (12, [.int (nI rm), .int (fq_b sd), .int (nI ns), .ref aK, .ref aN, .int (nI iw), .int (nI ow), .int (fq_b ih), .int (fq_b oh), .ref aB, .int (nI ca), .int (nI us), .int (fq_b cl), .int (fq_b fl), .ref aS, .int (nI tk), .ref aL, .ref aX, .int (nI md), .int (nI gi), .int (nI su), .int (nI ps), .int (nI cs)])), (aK, .inl (cI, 5, .inl fK)), (aN, .inl (cI, 25, .inl fN)), (aB, .inl (cI, 120, .inl fB)), (aS, .inl (cI, 120, .inl fS)), (aL, .inl (cI, 2300, .inl fL)), (aX, .inl (cI, 2300, .inl fX))]))) (va_Qi (S := va_W) (fun r w => w = [(h, .inr (12, [.int (nI rm), .int (fq_b sd), .int (nI ns), .ref aK, .ref aN, .int (nI iw), .int (nI ow), .int (fq_b ih), .int (fq_b oh), .ref aB, .int (nI ca), .int (nI us), .int (fq_b cl), .int (fq_b fl), .ref aS, .int (nI tk), .ref aL, .ref aX, .int (nI md), .int (nI gi), .int (nI su), .int (nI ps), .int (nI cs)])), (aK, .inl (cI, 5, .inl fK)), (aN, .inl (cI, 25, .inl fN)), (aB, .inl (cI, 120, .inl fB)), (aS, .inl (cI, 120, .inl fS)), (aL, .inl (cI, 2300, .inl fL)), (aX, .inl (cI, 2300, .inl fX))] ∧ r.toInt = fm_y sp xs ii) (fq_Bw D (va_A ([(h, .inr (12, [.int (nI rm), .int (fq_b sd), .int (nI ns), .ref aK, .ref aN, .int (nI iw), .int (nI ow), .int (fq_b ih), .int (fq_b oh), .ref aB, .int (nI ca), .int (nI us), .int (fq_b cl), .int (fq_b fl), .ref aS, .int (nI tk), .ref aL, .ref aX, .int (nI md), .int (nI gi), .int (nI su), .int (nI ps), .int (nI cs)])), (aK, .inl (cI, 5, .inl fK)), (aN, .inl (cI, 25, .inl fN)), (aB, .inl (cI, 120, .inl fB)), (aS, .inl (cI, 120, .inl fS)), (aL, .inl (cI, 2300, .inl fL)), (aX, .inl (cI, 2300, .inl fX))]) sz)) (va_A ([(h, .inr (12, [.int (nI rm), .int (fq_b sd), .int (nI ns), .ref aK, .ref aN, .int (nI iw), .int (nI ow), .int (fq_b ih), .int (fq_b oh), .ref aB, .int (nI ca), .int (nI us), .int (fq_b cl), .int (fq_b fl), .ref aS, .int (nI tk), .ref aL, .ref aX, .int (nI md), .int (nI gi), .int (nI su), .int (nI ps), .int (nI cs)])), (aK, .inl (cI, 5, .inl fK)), (aN, .inl (cI, 25, .inl fN)), (aB, .inl (cI, 120, .inl fB)), (aS, .inl (cI, 120, .inl fS)), (aL, .inl (cI, 2300, .inl fL)), (aX, .inl (cI, 2300, .inl fX))]) sz)) (0) (0) (va_A ([(h, .inr (12, [.int (nI rm), .int (fq_b sd), .int (nI ns), .ref aK, .ref aN, .int (nI iw), .int (nI ow), .int (fq_b ih), .int (fq_b oh), .ref aB, .int (nI ca), .int (nI us), .int (fq_b cl), .int (fq_b fl), .ref aS, .int (nI tk), .ref aL, .ref aX, .int (nI md), .int (nI gi), .int (nI su), .int (nI ps), .int (nI cs)])), (aK, .inl (cI, 5, .inl fK)), (aN, .inl (cI, 25, .inl fN)), (aB, .inl (cI, 120, .inl fB)), (aS, .inl (cI, 120, .inl fS)), (aL, .inl (cI, 2300, .inl fL)), (aX, .inl (cI, 2300, .inl fX))]) sz) := by
  refine fq_open (by decide +kernel) (Nat.le_of_ble_eq_true rfl) ?_
  intro pg ev s mt below meth cd ls K hret hlk hin hK hZ hP hD hA hS hl
  generalize va_A ([(h, .inr (12, [.int (nI rm), .int (fq_b sd), .int (nI ns), .ref aK, .ref aN, .int (nI iw), .int (nI ow), .int (fq_b ih), .int (fq_b oh), .ref aB, .int (nI ca), .int (nI us), .int (fq_b cl), .int (fq_b fl), .ref aS, .int (nI tk), .ref aL, .ref aX, .int (nI md), .int (nI gi), .int (nI su), .int (nI ps), .int (nI cs)])), (aK, .inl (cI, 5, .inl fK)), (aN, .inl (cI, 25, .inl fN)), (aB, .inl (cI, 120, .inl fB)), (aS, .inl (cI, 120, .inl fS)), (aL, .inl (cI, 2300, .inl fL)), (aX, .inl (cI, 2300, .inl fX))]) sz = A at hZ hD hA hS ⊢
  have K : fq_Ctx pg mt cd cb_Mo_windowAt 13 s _ cn_Mo := K
  have hl : lv_has ls 13 [(0, .ref h), (1, .int sh), (2, .int (nI sp.2.2.1.toNat)), (3, .int (nI ii)), (4, .int (nI xs.length))] := hl
  have hl8 := mo_wl hok h2
  refine lv_lconst (v := 0) K.1 K.2.1 dc_Mo_windowAt_0 (by decide) ?_
  refine lv_lstore K.1 K.2.1 dc_Mo_windowAt_1 hl (by decide) rfl (fun ls hl => ?_)
  have hl : lv_has ls 13 [(5, .long 0), (0, .ref h), (1, .int sh), (2, .int (nI sp.2.2.1.toNat)), (3, .int (nI ii)), (4, .int (nI xs.length))] := hl
  refine lv_lconst (v := 0) K.1 K.2.1 dc_Mo_windowAt_3 (by decide) ?_
  refine lv_lstore K.1 K.2.1 dc_Mo_windowAt_4 hl (by decide) rfl (fun ls hl => ?_)
  have hl : lv_has ls 13 [(7, .long 0), (5, .long 0), (0, .ref h), (1, .int sh), (2, .int (nI sp.2.2.1.toNat)), (3, .int (nI ii)), (4, .int (nI xs.length))] := hl
  refine lv_iconst (v := 0) K.1 K.2.1 dc_Mo_windowAt_6 (by decide) ?_
  refine lv_istore K.1 K.2.1 dc_Mo_windowAt_7 hl (by decide) rfl (fun ls hl => ?_)
  have hl : lv_has ls 13 [(9, .int 0), (7, .long 0), (5, .long 0), (0, .ref h), (1, .int sh), (2, .int (nI sp.2.2.1.toNat)), (3, .int (nI ii)), (4, .int (nI xs.length))] := hl
  refine fq_lp (σ := Nat × Int64 × Int64) (fun x => sp.2.2.1.toNat - x.1) (fun x H locs ls => (x.1 ≤ sp.2.2.1.toNat ∧ x.2.1.toInt = fm_sum (fun kj => fm_wt sp.2.1 sp.2.2.1.toNat kj * fm_x xs ((ii : Int) - kj)) x.1 ∧ x.2.2.toInt = fm_sum (fm_wt sp.2.1 sp.2.2.1.toNat) x.1) ∧ lv_has ls 13 [(0, .ref h), (1, .int sh), (2, .int (nI sp.2.2.1.toNat)), (3, .int (nI ii)), (4, .int (nI xs.length)), (5, .long x.2.1), (7, .long x.2.2), (9, .int (nI x.1))] ∧ va_P D fq_cl ([(h, .inr (12, [.int (nI rm), .int (fq_b sd), .int (nI ns), .ref aK, .ref aN, .int (nI iw), .int (nI ow), .int (fq_b ih), .int (fq_b oh), .ref aB, .int (nI ca), .int (nI us), .int (fq_b cl), .int (fq_b fl), .ref aS, .int (nI tk), .ref aL, .ref aX, .int (nI md), .int (nI gi), .int (nI su), .int (nI ps), .int (nI cs)])), (aK, .inl (cI, 5, .inl fK)), (aN, .inl (cI, 25, .inl fN)), (aB, .inl (cI, 120, .inl fB)), (aS, .inl (cI, 120, .inl fS)), (aL, .inl (cI, 2300, .inl fL)), (aX, .inl (cI, 2300, .inl fX))]) H ∧ va_D A ([(h, .inr (12, [.int (nI rm), .int (fq_b sd), .int (nI ns), .ref aK, .ref aN, .int (nI iw), .int (nI ow), .int (fq_b ih), .int (fq_b oh), .ref aB, .int (nI ca), .int (nI us), .int (fq_b cl), .int (fq_b fl), .ref aS, .int (nI tk), .ref aL, .ref aX, .int (nI md), .int (nI gi), .int (nI su), .int (nI ps), .int (nI cs)])), (aK, .inl (cI, 5, .inl fK)), (aN, .inl (cI, 25, .inl fN)), (aB, .inl (cI, 120, .inl fB)), (aS, .inl (cI, 120, .inl fS)), (aL, .inl (cI, 2300, .inl fL)), (aX, .inl (cI, 2300, .inl fX))]) ∧ va_S A s.heap H locs) ?_ (0, 0, 0) _ _ _ ⟨⟨Nat.zero_le _, rfl, rfl⟩, lv_sub hl [3, 4, 5, 6, 7, 2, 1, 0] rfl, hP, hD, hS⟩
  rintro ⟨k, sm, tw⟩ H locs ls ⟨hI9, hl, hP, hD, hS⟩ ih9
  have hI9 : k ≤ sp.2.2.1.toNat ∧ sm.toInt = fm_sum (fun kj => fm_wt sp.2.1 sp.2.2.1.toNat kj * fm_x xs ((ii : Int) - kj)) k ∧ tw.toInt = fm_sum (fm_wt sp.2.1 sp.2.2.1.toNat) k := hI9
  have hl : lv_has ls 13 [(0, .ref h), (1, .int sh), (2, .int (nI sp.2.2.1.toNat)), (3, .int (nI ii)), (4, .int (nI xs.length)), (5, .long sm), (7, .long tw), (9, .int (nI k))] := hl
  have hP : va_P D fq_cl ([(h, .inr (12, [.int (nI rm), .int (fq_b sd), .int (nI ns), .ref aK, .ref aN, .int (nI iw), .int (nI ow), .int (fq_b ih), .int (fq_b oh), .ref aB, .int (nI ca), .int (nI us), .int (fq_b cl), .int (fq_b fl), .ref aS, .int (nI tk), .ref aL, .ref aX, .int (nI md), .int (nI gi), .int (nI su), .int (nI ps), .int (nI cs)])), (aK, .inl (cI, 5, .inl fK)), (aN, .inl (cI, 25, .inl fN)), (aB, .inl (cI, 120, .inl fB)), (aS, .inl (cI, 120, .inl fS)), (aL, .inl (cI, 2300, .inl fL)), (aX, .inl (cI, 2300, .inl fX))]) _ := hP
  have hD : va_D A ([(h, .inr (12, [.int (nI rm), .int (fq_b sd), .int (nI ns), .ref aK, .ref aN, .int (nI iw), .int (nI ow), .int (fq_b ih), .int (fq_b oh), .ref aB, .int (nI ca), .int (nI us), .int (fq_b cl), .int (fq_b fl), .ref aS, .int (nI tk), .ref aL, .ref aX, .int (nI md), .int (nI gi), .int (nI su), .int (nI ps), .int (nI cs)])), (aK, .inl (cI, 5, .inl fK)), (aN, .inl (cI, 25, .inl fN)), (aB, .inl (cI, 120, .inl fB)), (aS, .inl (cI, 120, .inl fS)), (aL, .inl (cI, 2300, .inl fL)), (aX, .inl (cI, 2300, .inl fX))]) := hD
  refine lv_iload K.1 K.2.1 dc_Mo_windowAt_9 (lv_at hl 7 rfl) ?_
  refine lv_iload_n K.1 K.2.1 dc_Mo_windowAt_11 rfl (lv_at hl 2 rfl) ?_
  refine lv_icmp_ge (tgt := 97) K.1 K.2.1 dc_Mo_windowAt_12 rfl (fun b12 => ?_) (fun b12 => ?_)
  · skip
    have hk : k = sp.2.2.1.toNat := by have := hI9.1; rw [nI_leI (by omega) (by omega)] at b12; omega
    refine lv_lload K.1 K.2.1 dc_Mo_windowAt_97 (lv_at hl 5 rfl) ?_
    refine lv_lload K.1 K.2.1 dc_Mo_windowAt_99 (lv_at hl 6 rfl) ?_
    have hc := fq_cut.of (wc := []) hP hD hS hA [] (by decide) rfl
    refine fq_cl_ (wr := [(h, .inr (12, [.int (nI rm), .int (fq_b sd), .int (nI ns), .ref aK, .ref aN, .int (nI iw), .int (nI ow), .int (fq_b ih), .int (fq_b oh), .ref aB, .int (nI ca), .int (nI us), .int (fq_b cl), .int (fq_b fl), .ref aS, .int (nI tk), .ref aL, .ref aX, .int (nI md), .int (nI gi), .int (nI su), .int (nI ps), .int (nI cs)])), (aK, .inl (cI, 5, .inl fK)), (aN, .inl (cI, 25, .inl fN)), (aB, .inl (cI, 120, .inl fB)), (aS, .inl (cI, 120, .inl fS)), (aL, .inl (cI, 2300, .inl fL)), (aX, .inl (cI, 2300, .inl fX))]) (fq_rS K hK hZ hS hc (ct_Mo_floor l D cI cO tE sm tw (mo_wp hok h2 hk hI9.2.2) _) yk_Mo_floor wd_868 wd_867 ⟨⟨rfl, rfl⟩, ⟨Nat.le_of_ble_eq_true rfl, Nat.le_of_ble_eq_true rfl⟩, ⟨Nat.le_of_ble_eq_true rfl, Nat.le_of_ble_eq_true rfl⟩⟩ hl.1 rfl (Nat.le_of_ble_eq_true rfl) dc_Mo_windowAt_101) hP hD hS hc [] [0, 1, 2, 3, 4, 5, 6] rfl rfl (by decide) (by decide) (fun r1 w H locs hw1 hP hD hS => ?_)
    obtain ⟨rfl, hd1⟩ := hw1
    have hP : va_P D fq_cl ([(h, .inr (12, [.int (nI rm), .int (fq_b sd), .int (nI ns), .ref aK, .ref aN, .int (nI iw), .int (nI ow), .int (fq_b ih), .int (fq_b oh), .ref aB, .int (nI ca), .int (nI us), .int (fq_b cl), .int (fq_b fl), .ref aS, .int (nI tk), .ref aL, .ref aX, .int (nI md), .int (nI gi), .int (nI su), .int (nI ps), .int (nI cs)])), (aK, .inl (cI, 5, .inl fK)), (aN, .inl (cI, 25, .inl fN)), (aB, .inl (cI, 120, .inl fB)), (aS, .inl (cI, 120, .inl fS)), (aL, .inl (cI, 2300, .inl fL)), (aX, .inl (cI, 2300, .inl fX))]) _ := hP
    have hD : va_D A ([(h, .inr (12, [.int (nI rm), .int (fq_b sd), .int (nI ns), .ref aK, .ref aN, .int (nI iw), .int (nI ow), .int (fq_b ih), .int (fq_b oh), .ref aB, .int (nI ca), .int (nI us), .int (fq_b cl), .int (fq_b fl), .ref aS, .int (nI tk), .ref aL, .ref aX, .int (nI md), .int (nI gi), .int (nI su), .int (nI ps), .int (nI cs)])), (aK, .inl (cI, 5, .inl fK)), (aN, .inl (cI, 25, .inl fN)), (aB, .inl (cI, 120, .inl fB)), (aS, .inl (cI, 120, .inl fS)), (aL, .inl (cI, 2300, .inl fL)), (aX, .inl (cI, 2300, .inl fX))]) := hD
    refine lv_l2i K.1 K.2.1 dc_Mo_windowAt_104 rfl ?_
    exact fq_reti K hret hlk hS hP hD ⟨rfl, mo_wv hok h2 hxi hk hI9 hd1⟩ dc_Mo_windowAt_105 (Nat.le_of_ble_eq_true rfl) (Nat.le_of_ble_eq_true rfl)
  · skip
    have hk : k < sp.2.2.1.toNat := by have := hI9.1; rw [nI_leI (by omega) (by omega)] at b12; omega
    refine lv_iload K.1 K.2.1 dc_Mo_windowAt_15 (lv_at hl 7 rfl) ?_
    refine lv_iconst (v := 1) K.1 K.2.1 dc_Mo_windowAt_17 (by decide) ?_
    refine lv_iadd K.1 K.2.1 dc_Mo_windowAt_18 ?_
    refine fq_asi (y := nI (k + 1)) (nI_1 k) ?_
    refine lv_istore K.1 K.2.1 dc_Mo_windowAt_19 hl (by decide) rfl (fun ls hl => ?_)
    have hl : lv_has ls 13 [(10, .int (nI (k + 1))), (0, .ref h), (1, .int sh), (2, .int (nI sp.2.2.1.toNat)), (3, .int (nI ii)), (4, .int (nI xs.length)), (5, .long sm), (7, .long tw), (9, .int (nI k))] := hl
    refine lv_iload_n K.1 K.2.1 dc_Mo_windowAt_21 rfl (lv_at hl 3 rfl) ?_
    refine lv_iload K.1 K.2.1 dc_Mo_windowAt_22 (lv_at hl 8 rfl) ?_
    refine lv_isub K.1 K.2.1 dc_Mo_windowAt_24 ?_
    refine fq_asi (y := nI (sp.2.2.1.toNat - k)) (pk_sub (by omega)) ?_
    refine lv_istore K.1 K.2.1 dc_Mo_windowAt_25 hl (by decide) rfl (fun ls hl => ?_)
    have hl : lv_has ls 13 [(11, .int (nI (sp.2.2.1.toNat - k))), (10, .int (nI (k + 1))), (0, .ref h), (1, .int sh), (2, .int (nI sp.2.2.1.toNat)), (3, .int (nI ii)), (4, .int (nI xs.length)), (5, .long sm), (7, .long tw), (9, .int (nI k))] := hl
    refine lv_iload_n K.1 K.2.1 dc_Mo_windowAt_27 rfl (lv_at hl 3 rfl) ?_
    refine lv_if_ne (tgt := 35) K.1 K.2.1 dc_Mo_windowAt_28 rfl (fun b28 => ?_) (fun b28 => ?_)
    · skip
      refine lv_iload_n K.1 K.2.1 dc_Mo_windowAt_35 rfl (lv_at hl 3 rfl) ?_
      refine lv_iconst (v := 2) K.1 K.2.1 dc_Mo_windowAt_36 (by decide) ?_
      refine lv_icmp_ne (tgt := 48) K.1 K.2.1 dc_Mo_windowAt_37 rfl (fun b37 => ?_) (fun b37 => ?_)
      · skip
        refine lv_iload K.1 K.2.1 dc_Mo_windowAt_48 (lv_at hl 1 rfl) ?_
        refine lv_iload K.1 K.2.1 dc_Mo_windowAt_50 (lv_at hl 0 rfl) ?_
        refine lv_icmp_ge (tgt := 60) K.1 K.2.1 dc_Mo_windowAt_52 rfl (fun b52 => ?_) (fun b52 => ?_)
        · skip
          refine lv_iload K.1 K.2.1 dc_Mo_windowAt_60 (lv_at hl 0 rfl) ?_
          have hW : (nI (sp.2.2.1.toNat - k) : Int32).toInt = fm_wt sp.2.1 sp.2.2.1.toNat k := by have z := mo_w1b b28 b37 hk hl8.2.2 b52; rw [hsh] at z; exact z
          refine lv_istore K.1 K.2.1 dc_Mo_windowAt_62 hl (by decide) rfl (fun ls hl => ?_)
          have hl : lv_has ls 13 [(12, .int (nI (sp.2.2.1.toNat - k))), (11, .int (nI (sp.2.2.1.toNat - k))), (10, .int (nI (k + 1))), (0, .ref h), (1, .int sh), (2, .int (nI sp.2.2.1.toNat)), (3, .int (nI ii)), (4, .int (nI xs.length)), (5, .long sm), (7, .long tw), (9, .int (nI k))] := hl
          refine lv_lload K.1 K.2.1 dc_Mo_windowAt_64 (lv_at hl 8 rfl) ?_
          refine lv_iload K.1 K.2.1 dc_Mo_windowAt_66 (lv_at hl 0 rfl) ?_
          refine lv_i2l K.1 K.2.1 dc_Mo_windowAt_68 rfl ?_
          refine lv_aload_n K.1 K.2.1 dc_Mo_windowAt_69 rfl (lv_at hl 3 rfl) ?_
          refine lv_iload_n K.1 K.2.1 dc_Mo_windowAt_70 rfl (lv_at hl 6 rfl) ?_
          refine lv_iload K.1 K.2.1 dc_Mo_windowAt_71 (lv_at hl 10 rfl) ?_
          refine lv_isub K.1 K.2.1 dc_Mo_windowAt_73 ?_
          refine lv_iload K.1 K.2.1 dc_Mo_windowAt_74 (lv_at hl 7 rfl) ?_
          have hc := fq_cut.of (wc := [(h, .inr (12, [.int (nI rm), .int (fq_b sd), .int (nI ns), .ref aK, .ref aN, .int (nI iw), .int (nI ow), .int (fq_b ih), .int (fq_b oh), .ref aB, .int (nI ca), .int (nI us), .int (fq_b cl), .int (fq_b fl), .ref aS, .int (nI tk), .ref aL, .ref aX, .int (nI md), .int (nI gi), .int (nI su), .int (nI ps), .int (nI cs)])), (aK, .inl (cI, 5, .inl fK)), (aN, .inl (cI, 25, .inl fN)), (aB, .inl (cI, 120, .inl fB)), (aS, .inl (cI, 120, .inl fS)), (aL, .inl (cI, 2300, .inl fL)), (aX, .inl (cI, 2300, .inl fX))]) hP hD hS hA [0, 1, 2, 3, 4, 5, 6] (by decide) rfl
          refine fq_cl_ (wr := []) (fq_rV K hK hZ hS hc (ct_Mo_x l D cI cO tE h aK aN aB aS aL aX rm sd ns iw ow ih oh ca us cl fl tk md gi su ps cs fK fN fB fS fL fX ((nI ii) - (nI k)) xs hL _) yk_Mo_x wd_951 wd_21 wd_949 0 rfl rfl rfl ⟨⟨rfl, rfl⟩, ⟨Nat.le_of_ble_eq_true rfl, Nat.le_of_ble_eq_true rfl⟩, ⟨Nat.le_of_ble_eq_true rfl, Nat.le_of_ble_eq_true rfl⟩⟩ hl.1 rfl (Nat.le_of_ble_eq_true rfl) dc_Mo_windowAt_76) hP hD hS hc [0, 1, 2, 3, 4, 5, 6] [] rfl rfl (by decide) (by decide) (fun r2 w H locs hw2 hP hD hS => ?_)
          obtain ⟨rfl, hx1⟩ := hw2
          have hP : va_P D fq_cl ([(h, .inr (12, [.int (nI rm), .int (fq_b sd), .int (nI ns), .ref aK, .ref aN, .int (nI iw), .int (nI ow), .int (fq_b ih), .int (fq_b oh), .ref aB, .int (nI ca), .int (nI us), .int (fq_b cl), .int (fq_b fl), .ref aS, .int (nI tk), .ref aL, .ref aX, .int (nI md), .int (nI gi), .int (nI su), .int (nI ps), .int (nI cs)])), (aK, .inl (cI, 5, .inl fK)), (aN, .inl (cI, 25, .inl fN)), (aB, .inl (cI, 120, .inl fB)), (aS, .inl (cI, 120, .inl fS)), (aL, .inl (cI, 2300, .inl fL)), (aX, .inl (cI, 2300, .inl fX))]) _ := hP
          have hD : va_D A ([(h, .inr (12, [.int (nI rm), .int (fq_b sd), .int (nI ns), .ref aK, .ref aN, .int (nI iw), .int (nI ow), .int (fq_b ih), .int (fq_b oh), .ref aB, .int (nI ca), .int (nI us), .int (fq_b cl), .int (fq_b fl), .ref aS, .int (nI tk), .ref aL, .ref aX, .int (nI md), .int (nI gi), .int (nI su), .int (nI ps), .int (nI cs)])), (aK, .inl (cI, 5, .inl fK)), (aN, .inl (cI, 25, .inl fN)), (aB, .inl (cI, 120, .inl fB)), (aS, .inl (cI, 120, .inl fS)), (aL, .inl (cI, 2300, .inl fL)), (aX, .inl (cI, 2300, .inl fX))]) := hD
          refine lv_lmul K.1 K.2.1 dc_Mo_windowAt_79 ?_
          refine lv_ladd K.1 K.2.1 dc_Mo_windowAt_80 ?_
          refine lv_topl (fun v1 e_v1 => ?_)
          refine lv_lstore K.1 K.2.1 dc_Mo_windowAt_81 hl (by decide) rfl (fun ls hl => ?_)
          have hl : lv_has ls 13 [(5, .long v1), (12, .int (nI (sp.2.2.1.toNat - k))), (11, .int (nI (sp.2.2.1.toNat - k))), (10, .int (nI (k + 1))), (0, .ref h), (1, .int sh), (2, .int (nI sp.2.2.1.toNat)), (3, .int (nI ii)), (4, .int (nI xs.length)), (7, .long tw), (9, .int (nI k))] := hl
          refine lv_lload K.1 K.2.1 dc_Mo_windowAt_83 (lv_at hl 9 rfl) ?_
          refine lv_iload K.1 K.2.1 dc_Mo_windowAt_85 (lv_at hl 1 rfl) ?_
          refine lv_i2l K.1 K.2.1 dc_Mo_windowAt_87 rfl ?_
          refine lv_ladd K.1 K.2.1 dc_Mo_windowAt_88 ?_
          refine lv_topl (fun v2 e_v2 => ?_)
          refine lv_lstore K.1 K.2.1 dc_Mo_windowAt_89 hl (by decide) rfl (fun ls hl => ?_)
          have hl : lv_has ls 13 [(7, .long v2), (5, .long v1), (12, .int (nI (sp.2.2.1.toNat - k))), (11, .int (nI (sp.2.2.1.toNat - k))), (10, .int (nI (k + 1))), (0, .ref h), (1, .int sh), (2, .int (nI sp.2.2.1.toNat)), (3, .int (nI ii)), (4, .int (nI xs.length)), (9, .int (nI k))] := hl
          refine lv_iinc (v := nI (k + 1)) K.1 K.2.1 dc_Mo_windowAt_91 hl (k := 10) rfl (nI_1 k) (by decide) rfl (fun ls hl => ?_)
          have hl : lv_has ls 13 [(9, .int (nI (k + 1))), (7, .long v2), (5, .long v1), (12, .int (nI (sp.2.2.1.toNat - k))), (11, .int (nI (sp.2.2.1.toNat - k))), (10, .int (nI (k + 1))), (0, .ref h), (1, .int sh), (2, .int (nI sp.2.2.1.toNat)), (3, .int (nI ii)), (4, .int (nI xs.length))] := hl
          refine lv_goto (tgt := 9) K.1 K.2.1 dc_Mo_windowAt_94 rfl ?_
          exact ih9 (k + 1, v1, v2) _ _ _ (by show sp.2.2.1.toNat - (k + 1) < sp.2.2.1.toNat - k; omega) ⟨(mo_wst hok h2 hxi hi hk hI9 hW hx1 e_v1 e_v2), lv_sub hl [6, 7, 8, 9, 10, 2, 1, 0] rfl, hP, hD, hS⟩
        · skip
          refine lv_iload K.1 K.2.1 dc_Mo_windowAt_55 (lv_at hl 1 rfl) ?_
          refine lv_goto (tgt := 62) K.1 K.2.1 dc_Mo_windowAt_57 rfl ?_
          have hW : (nI (k + 1) : Int32).toInt = fm_wt sp.2.1 sp.2.2.1.toNat k := by have z := mo_w1a b28 b37 hk hl8.2.2 b52; rw [hsh] at z; exact z
          refine lv_istore K.1 K.2.1 dc_Mo_windowAt_62 hl (by decide) rfl (fun ls hl => ?_)
          have hl : lv_has ls 13 [(12, .int (nI (k + 1))), (11, .int (nI (sp.2.2.1.toNat - k))), (10, .int (nI (k + 1))), (0, .ref h), (1, .int sh), (2, .int (nI sp.2.2.1.toNat)), (3, .int (nI ii)), (4, .int (nI xs.length)), (5, .long sm), (7, .long tw), (9, .int (nI k))] := hl
          refine lv_lload K.1 K.2.1 dc_Mo_windowAt_64 (lv_at hl 8 rfl) ?_
          refine lv_iload K.1 K.2.1 dc_Mo_windowAt_66 (lv_at hl 0 rfl) ?_
          refine lv_i2l K.1 K.2.1 dc_Mo_windowAt_68 rfl ?_
          refine lv_aload_n K.1 K.2.1 dc_Mo_windowAt_69 rfl (lv_at hl 3 rfl) ?_
          refine lv_iload_n K.1 K.2.1 dc_Mo_windowAt_70 rfl (lv_at hl 6 rfl) ?_
          refine lv_iload K.1 K.2.1 dc_Mo_windowAt_71 (lv_at hl 10 rfl) ?_
          refine lv_isub K.1 K.2.1 dc_Mo_windowAt_73 ?_
          refine lv_iload K.1 K.2.1 dc_Mo_windowAt_74 (lv_at hl 7 rfl) ?_
          have hc := fq_cut.of (wc := [(h, .inr (12, [.int (nI rm), .int (fq_b sd), .int (nI ns), .ref aK, .ref aN, .int (nI iw), .int (nI ow), .int (fq_b ih), .int (fq_b oh), .ref aB, .int (nI ca), .int (nI us), .int (fq_b cl), .int (fq_b fl), .ref aS, .int (nI tk), .ref aL, .ref aX, .int (nI md), .int (nI gi), .int (nI su), .int (nI ps), .int (nI cs)])), (aK, .inl (cI, 5, .inl fK)), (aN, .inl (cI, 25, .inl fN)), (aB, .inl (cI, 120, .inl fB)), (aS, .inl (cI, 120, .inl fS)), (aL, .inl (cI, 2300, .inl fL)), (aX, .inl (cI, 2300, .inl fX))]) hP hD hS hA [0, 1, 2, 3, 4, 5, 6] (by decide) rfl
          refine fq_cl_ (wr := []) (fq_rV K hK hZ hS hc (ct_Mo_x l D cI cO tE h aK aN aB aS aL aX rm sd ns iw ow ih oh ca us cl fl tk md gi su ps cs fK fN fB fS fL fX ((nI ii) - (nI k)) xs hL _) yk_Mo_x wd_951 wd_21 wd_949 0 rfl rfl rfl ⟨⟨rfl, rfl⟩, ⟨Nat.le_of_ble_eq_true rfl, Nat.le_of_ble_eq_true rfl⟩, ⟨Nat.le_of_ble_eq_true rfl, Nat.le_of_ble_eq_true rfl⟩⟩ hl.1 rfl (Nat.le_of_ble_eq_true rfl) dc_Mo_windowAt_76) hP hD hS hc [0, 1, 2, 3, 4, 5, 6] [] rfl rfl (by decide) (by decide) (fun r3 w H locs hw3 hP hD hS => ?_)
          obtain ⟨rfl, hx2⟩ := hw3
          have hP : va_P D fq_cl ([(h, .inr (12, [.int (nI rm), .int (fq_b sd), .int (nI ns), .ref aK, .ref aN, .int (nI iw), .int (nI ow), .int (fq_b ih), .int (fq_b oh), .ref aB, .int (nI ca), .int (nI us), .int (fq_b cl), .int (fq_b fl), .ref aS, .int (nI tk), .ref aL, .ref aX, .int (nI md), .int (nI gi), .int (nI su), .int (nI ps), .int (nI cs)])), (aK, .inl (cI, 5, .inl fK)), (aN, .inl (cI, 25, .inl fN)), (aB, .inl (cI, 120, .inl fB)), (aS, .inl (cI, 120, .inl fS)), (aL, .inl (cI, 2300, .inl fL)), (aX, .inl (cI, 2300, .inl fX))]) _ := hP
          have hD : va_D A ([(h, .inr (12, [.int (nI rm), .int (fq_b sd), .int (nI ns), .ref aK, .ref aN, .int (nI iw), .int (nI ow), .int (fq_b ih), .int (fq_b oh), .ref aB, .int (nI ca), .int (nI us), .int (fq_b cl), .int (fq_b fl), .ref aS, .int (nI tk), .ref aL, .ref aX, .int (nI md), .int (nI gi), .int (nI su), .int (nI ps), .int (nI cs)])), (aK, .inl (cI, 5, .inl fK)), (aN, .inl (cI, 25, .inl fN)), (aB, .inl (cI, 120, .inl fB)), (aS, .inl (cI, 120, .inl fS)), (aL, .inl (cI, 2300, .inl fL)), (aX, .inl (cI, 2300, .inl fX))]) := hD
          refine lv_lmul K.1 K.2.1 dc_Mo_windowAt_79 ?_
          refine lv_ladd K.1 K.2.1 dc_Mo_windowAt_80 ?_
          refine lv_topl (fun v3 e_v3 => ?_)
          refine lv_lstore K.1 K.2.1 dc_Mo_windowAt_81 hl (by decide) rfl (fun ls hl => ?_)
          have hl : lv_has ls 13 [(5, .long v3), (12, .int (nI (k + 1))), (11, .int (nI (sp.2.2.1.toNat - k))), (10, .int (nI (k + 1))), (0, .ref h), (1, .int sh), (2, .int (nI sp.2.2.1.toNat)), (3, .int (nI ii)), (4, .int (nI xs.length)), (7, .long tw), (9, .int (nI k))] := hl
          refine lv_lload K.1 K.2.1 dc_Mo_windowAt_83 (lv_at hl 9 rfl) ?_
          refine lv_iload K.1 K.2.1 dc_Mo_windowAt_85 (lv_at hl 1 rfl) ?_
          refine lv_i2l K.1 K.2.1 dc_Mo_windowAt_87 rfl ?_
          refine lv_ladd K.1 K.2.1 dc_Mo_windowAt_88 ?_
          refine lv_topl (fun v4 e_v4 => ?_)
          refine lv_lstore K.1 K.2.1 dc_Mo_windowAt_89 hl (by decide) rfl (fun ls hl => ?_)
          have hl : lv_has ls 13 [(7, .long v4), (5, .long v3), (12, .int (nI (k + 1))), (11, .int (nI (sp.2.2.1.toNat - k))), (10, .int (nI (k + 1))), (0, .ref h), (1, .int sh), (2, .int (nI sp.2.2.1.toNat)), (3, .int (nI ii)), (4, .int (nI xs.length)), (9, .int (nI k))] := hl
          refine lv_iinc (v := nI (k + 1)) K.1 K.2.1 dc_Mo_windowAt_91 hl (k := 10) rfl (nI_1 k) (by decide) rfl (fun ls hl => ?_)
          have hl : lv_has ls 13 [(9, .int (nI (k + 1))), (7, .long v4), (5, .long v3), (12, .int (nI (k + 1))), (11, .int (nI (sp.2.2.1.toNat - k))), (10, .int (nI (k + 1))), (0, .ref h), (1, .int sh), (2, .int (nI sp.2.2.1.toNat)), (3, .int (nI ii)), (4, .int (nI xs.length))] := hl
          refine lv_goto (tgt := 9) K.1 K.2.1 dc_Mo_windowAt_94 rfl ?_
          exact ih9 (k + 1, v3, v4) _ _ _ (by show sp.2.2.1.toNat - (k + 1) < sp.2.2.1.toNat - k; omega) ⟨(mo_wst hok h2 hxi hi hk hI9 hW hx2 e_v3 e_v4), lv_sub hl [6, 7, 8, 9, 10, 2, 1, 0] rfl, hP, hD, hS⟩
      · skip
        refine lv_iload K.1 K.2.1 dc_Mo_windowAt_40 (lv_at hl 1 rfl) ?_
        refine lv_iload K.1 K.2.1 dc_Mo_windowAt_42 (lv_at hl 0 rfl) ?_
        refine lv_imul K.1 K.2.1 dc_Mo_windowAt_44 ?_
        refine lv_goto (tgt := 62) K.1 K.2.1 dc_Mo_windowAt_45 rfl ?_
        have hW : ((nI (k + 1)) * (nI (sp.2.2.1.toNat - k)) : Int32).toInt = fm_wt sp.2.1 sp.2.2.1.toNat k := by have z := wn_w2 b37 hk hl8.2.2; rw [hsh] at z; exact z
        refine lv_topi (fun v5 e_v5 => ?_)
        refine lv_istore K.1 K.2.1 dc_Mo_windowAt_62 hl (by decide) rfl (fun ls hl => ?_)
        have hl : lv_has ls 13 [(12, .int v5), (11, .int (nI (sp.2.2.1.toNat - k))), (10, .int (nI (k + 1))), (0, .ref h), (1, .int sh), (2, .int (nI sp.2.2.1.toNat)), (3, .int (nI ii)), (4, .int (nI xs.length)), (5, .long sm), (7, .long tw), (9, .int (nI k))] := hl
        rw [← e_v5] at hW
        refine lv_lload K.1 K.2.1 dc_Mo_windowAt_64 (lv_at hl 8 rfl) ?_
        refine lv_iload K.1 K.2.1 dc_Mo_windowAt_66 (lv_at hl 0 rfl) ?_
        refine lv_i2l K.1 K.2.1 dc_Mo_windowAt_68 rfl ?_
        refine lv_aload_n K.1 K.2.1 dc_Mo_windowAt_69 rfl (lv_at hl 3 rfl) ?_
        refine lv_iload_n K.1 K.2.1 dc_Mo_windowAt_70 rfl (lv_at hl 6 rfl) ?_
        refine lv_iload K.1 K.2.1 dc_Mo_windowAt_71 (lv_at hl 10 rfl) ?_
        refine lv_isub K.1 K.2.1 dc_Mo_windowAt_73 ?_
        refine lv_iload K.1 K.2.1 dc_Mo_windowAt_74 (lv_at hl 7 rfl) ?_
        have hc := fq_cut.of (wc := [(h, .inr (12, [.int (nI rm), .int (fq_b sd), .int (nI ns), .ref aK, .ref aN, .int (nI iw), .int (nI ow), .int (fq_b ih), .int (fq_b oh), .ref aB, .int (nI ca), .int (nI us), .int (fq_b cl), .int (fq_b fl), .ref aS, .int (nI tk), .ref aL, .ref aX, .int (nI md), .int (nI gi), .int (nI su), .int (nI ps), .int (nI cs)])), (aK, .inl (cI, 5, .inl fK)), (aN, .inl (cI, 25, .inl fN)), (aB, .inl (cI, 120, .inl fB)), (aS, .inl (cI, 120, .inl fS)), (aL, .inl (cI, 2300, .inl fL)), (aX, .inl (cI, 2300, .inl fX))]) hP hD hS hA [0, 1, 2, 3, 4, 5, 6] (by decide) rfl
        refine fq_cl_ (wr := []) (fq_rV K hK hZ hS hc (ct_Mo_x l D cI cO tE h aK aN aB aS aL aX rm sd ns iw ow ih oh ca us cl fl tk md gi su ps cs fK fN fB fS fL fX ((nI ii) - (nI k)) xs hL _) yk_Mo_x wd_951 wd_21 wd_949 0 rfl rfl rfl ⟨⟨rfl, rfl⟩, ⟨Nat.le_of_ble_eq_true rfl, Nat.le_of_ble_eq_true rfl⟩, ⟨Nat.le_of_ble_eq_true rfl, Nat.le_of_ble_eq_true rfl⟩⟩ hl.1 rfl (Nat.le_of_ble_eq_true rfl) dc_Mo_windowAt_76) hP hD hS hc [0, 1, 2, 3, 4, 5, 6] [] rfl rfl (by decide) (by decide) (fun r4 w H locs hw4 hP hD hS => ?_)
        obtain ⟨rfl, hx3⟩ := hw4
        have hP : va_P D fq_cl ([(h, .inr (12, [.int (nI rm), .int (fq_b sd), .int (nI ns), .ref aK, .ref aN, .int (nI iw), .int (nI ow), .int (fq_b ih), .int (fq_b oh), .ref aB, .int (nI ca), .int (nI us), .int (fq_b cl), .int (fq_b fl), .ref aS, .int (nI tk), .ref aL, .ref aX, .int (nI md), .int (nI gi), .int (nI su), .int (nI ps), .int (nI cs)])), (aK, .inl (cI, 5, .inl fK)), (aN, .inl (cI, 25, .inl fN)), (aB, .inl (cI, 120, .inl fB)), (aS, .inl (cI, 120, .inl fS)), (aL, .inl (cI, 2300, .inl fL)), (aX, .inl (cI, 2300, .inl fX))]) _ := hP
        have hD : va_D A ([(h, .inr (12, [.int (nI rm), .int (fq_b sd), .int (nI ns), .ref aK, .ref aN, .int (nI iw), .int (nI ow), .int (fq_b ih), .int (fq_b oh), .ref aB, .int (nI ca), .int (nI us), .int (fq_b cl), .int (fq_b fl), .ref aS, .int (nI tk), .ref aL, .ref aX, .int (nI md), .int (nI gi), .int (nI su), .int (nI ps), .int (nI cs)])), (aK, .inl (cI, 5, .inl fK)), (aN, .inl (cI, 25, .inl fN)), (aB, .inl (cI, 120, .inl fB)), (aS, .inl (cI, 120, .inl fS)), (aL, .inl (cI, 2300, .inl fL)), (aX, .inl (cI, 2300, .inl fX))]) := hD
        refine lv_lmul K.1 K.2.1 dc_Mo_windowAt_79 ?_
        refine lv_ladd K.1 K.2.1 dc_Mo_windowAt_80 ?_
        refine lv_topl (fun v6 e_v6 => ?_)
        refine lv_lstore K.1 K.2.1 dc_Mo_windowAt_81 hl (by decide) rfl (fun ls hl => ?_)
        have hl : lv_has ls 13 [(5, .long v6), (12, .int v5), (11, .int (nI (sp.2.2.1.toNat - k))), (10, .int (nI (k + 1))), (0, .ref h), (1, .int sh), (2, .int (nI sp.2.2.1.toNat)), (3, .int (nI ii)), (4, .int (nI xs.length)), (7, .long tw), (9, .int (nI k))] := hl
        refine lv_lload K.1 K.2.1 dc_Mo_windowAt_83 (lv_at hl 9 rfl) ?_
        refine lv_iload K.1 K.2.1 dc_Mo_windowAt_85 (lv_at hl 1 rfl) ?_
        refine lv_i2l K.1 K.2.1 dc_Mo_windowAt_87 rfl ?_
        refine lv_ladd K.1 K.2.1 dc_Mo_windowAt_88 ?_
        refine lv_topl (fun v7 e_v7 => ?_)
        refine lv_lstore K.1 K.2.1 dc_Mo_windowAt_89 hl (by decide) rfl (fun ls hl => ?_)
        have hl : lv_has ls 13 [(7, .long v7), (5, .long v6), (12, .int v5), (11, .int (nI (sp.2.2.1.toNat - k))), (10, .int (nI (k + 1))), (0, .ref h), (1, .int sh), (2, .int (nI sp.2.2.1.toNat)), (3, .int (nI ii)), (4, .int (nI xs.length)), (9, .int (nI k))] := hl
        refine lv_iinc (v := nI (k + 1)) K.1 K.2.1 dc_Mo_windowAt_91 hl (k := 10) rfl (nI_1 k) (by decide) rfl (fun ls hl => ?_)
        have hl : lv_has ls 13 [(9, .int (nI (k + 1))), (7, .long v7), (5, .long v6), (12, .int v5), (11, .int (nI (sp.2.2.1.toNat - k))), (10, .int (nI (k + 1))), (0, .ref h), (1, .int sh), (2, .int (nI sp.2.2.1.toNat)), (3, .int (nI ii)), (4, .int (nI xs.length))] := hl
        refine lv_goto (tgt := 9) K.1 K.2.1 dc_Mo_windowAt_94 rfl ?_
        exact ih9 (k + 1, v6, v7) _ _ _ (by show sp.2.2.1.toNat - (k + 1) < sp.2.2.1.toNat - k; omega) ⟨(mo_wst hok h2 hxi hi hk hI9 hW hx3 e_v6 e_v7), lv_sub hl [6, 7, 8, 9, 10, 2, 1, 0] rfl, hP, hD, hS⟩
    · skip
      refine lv_iconst (v := 1) K.1 K.2.1 dc_Mo_windowAt_31 (by decide) ?_
      refine lv_goto (tgt := 62) K.1 K.2.1 dc_Mo_windowAt_32 rfl ?_
      have hW : (1 : Int32).toInt = fm_wt sp.2.1 sp.2.2.1.toNat k := by have z := wn_w0 (k := k) (len := sp.2.2.1.toNat) b28; rw [hsh] at z; exact z
      refine lv_istore K.1 K.2.1 dc_Mo_windowAt_62 hl (by decide) rfl (fun ls hl => ?_)
      have hl : lv_has ls 13 [(12, .int 1), (11, .int (nI (sp.2.2.1.toNat - k))), (10, .int (nI (k + 1))), (0, .ref h), (1, .int sh), (2, .int (nI sp.2.2.1.toNat)), (3, .int (nI ii)), (4, .int (nI xs.length)), (5, .long sm), (7, .long tw), (9, .int (nI k))] := hl
      refine lv_lload K.1 K.2.1 dc_Mo_windowAt_64 (lv_at hl 8 rfl) ?_
      refine lv_iload K.1 K.2.1 dc_Mo_windowAt_66 (lv_at hl 0 rfl) ?_
      refine lv_i2l K.1 K.2.1 dc_Mo_windowAt_68 rfl ?_
      refine lv_aload_n K.1 K.2.1 dc_Mo_windowAt_69 rfl (lv_at hl 3 rfl) ?_
      refine lv_iload_n K.1 K.2.1 dc_Mo_windowAt_70 rfl (lv_at hl 6 rfl) ?_
      refine lv_iload K.1 K.2.1 dc_Mo_windowAt_71 (lv_at hl 10 rfl) ?_
      refine lv_isub K.1 K.2.1 dc_Mo_windowAt_73 ?_
      refine lv_iload K.1 K.2.1 dc_Mo_windowAt_74 (lv_at hl 7 rfl) ?_
      have hc := fq_cut.of (wc := [(h, .inr (12, [.int (nI rm), .int (fq_b sd), .int (nI ns), .ref aK, .ref aN, .int (nI iw), .int (nI ow), .int (fq_b ih), .int (fq_b oh), .ref aB, .int (nI ca), .int (nI us), .int (fq_b cl), .int (fq_b fl), .ref aS, .int (nI tk), .ref aL, .ref aX, .int (nI md), .int (nI gi), .int (nI su), .int (nI ps), .int (nI cs)])), (aK, .inl (cI, 5, .inl fK)), (aN, .inl (cI, 25, .inl fN)), (aB, .inl (cI, 120, .inl fB)), (aS, .inl (cI, 120, .inl fS)), (aL, .inl (cI, 2300, .inl fL)), (aX, .inl (cI, 2300, .inl fX))]) hP hD hS hA [0, 1, 2, 3, 4, 5, 6] (by decide) rfl
      refine fq_cl_ (wr := []) (fq_rV K hK hZ hS hc (ct_Mo_x l D cI cO tE h aK aN aB aS aL aX rm sd ns iw ow ih oh ca us cl fl tk md gi su ps cs fK fN fB fS fL fX ((nI ii) - (nI k)) xs hL _) yk_Mo_x wd_951 wd_21 wd_949 0 rfl rfl rfl ⟨⟨rfl, rfl⟩, ⟨Nat.le_of_ble_eq_true rfl, Nat.le_of_ble_eq_true rfl⟩, ⟨Nat.le_of_ble_eq_true rfl, Nat.le_of_ble_eq_true rfl⟩⟩ hl.1 rfl (Nat.le_of_ble_eq_true rfl) dc_Mo_windowAt_76) hP hD hS hc [0, 1, 2, 3, 4, 5, 6] [] rfl rfl (by decide) (by decide) (fun r5 w H locs hw5 hP hD hS => ?_)
      obtain ⟨rfl, hx4⟩ := hw5
      have hP : va_P D fq_cl ([(h, .inr (12, [.int (nI rm), .int (fq_b sd), .int (nI ns), .ref aK, .ref aN, .int (nI iw), .int (nI ow), .int (fq_b ih), .int (fq_b oh), .ref aB, .int (nI ca), .int (nI us), .int (fq_b cl), .int (fq_b fl), .ref aS, .int (nI tk), .ref aL, .ref aX, .int (nI md), .int (nI gi), .int (nI su), .int (nI ps), .int (nI cs)])), (aK, .inl (cI, 5, .inl fK)), (aN, .inl (cI, 25, .inl fN)), (aB, .inl (cI, 120, .inl fB)), (aS, .inl (cI, 120, .inl fS)), (aL, .inl (cI, 2300, .inl fL)), (aX, .inl (cI, 2300, .inl fX))]) _ := hP
      have hD : va_D A ([(h, .inr (12, [.int (nI rm), .int (fq_b sd), .int (nI ns), .ref aK, .ref aN, .int (nI iw), .int (nI ow), .int (fq_b ih), .int (fq_b oh), .ref aB, .int (nI ca), .int (nI us), .int (fq_b cl), .int (fq_b fl), .ref aS, .int (nI tk), .ref aL, .ref aX, .int (nI md), .int (nI gi), .int (nI su), .int (nI ps), .int (nI cs)])), (aK, .inl (cI, 5, .inl fK)), (aN, .inl (cI, 25, .inl fN)), (aB, .inl (cI, 120, .inl fB)), (aS, .inl (cI, 120, .inl fS)), (aL, .inl (cI, 2300, .inl fL)), (aX, .inl (cI, 2300, .inl fX))]) := hD
      refine lv_lmul K.1 K.2.1 dc_Mo_windowAt_79 ?_
      refine lv_ladd K.1 K.2.1 dc_Mo_windowAt_80 ?_
      refine lv_topl (fun v8 e_v8 => ?_)
      refine lv_lstore K.1 K.2.1 dc_Mo_windowAt_81 hl (by decide) rfl (fun ls hl => ?_)
      have hl : lv_has ls 13 [(5, .long v8), (12, .int 1), (11, .int (nI (sp.2.2.1.toNat - k))), (10, .int (nI (k + 1))), (0, .ref h), (1, .int sh), (2, .int (nI sp.2.2.1.toNat)), (3, .int (nI ii)), (4, .int (nI xs.length)), (7, .long tw), (9, .int (nI k))] := hl
      refine lv_lload K.1 K.2.1 dc_Mo_windowAt_83 (lv_at hl 9 rfl) ?_
      refine lv_iload K.1 K.2.1 dc_Mo_windowAt_85 (lv_at hl 1 rfl) ?_
      refine lv_i2l K.1 K.2.1 dc_Mo_windowAt_87 rfl ?_
      refine lv_ladd K.1 K.2.1 dc_Mo_windowAt_88 ?_
      refine lv_topl (fun v9 e_v9 => ?_)
      refine lv_lstore K.1 K.2.1 dc_Mo_windowAt_89 hl (by decide) rfl (fun ls hl => ?_)
      have hl : lv_has ls 13 [(7, .long v9), (5, .long v8), (12, .int 1), (11, .int (nI (sp.2.2.1.toNat - k))), (10, .int (nI (k + 1))), (0, .ref h), (1, .int sh), (2, .int (nI sp.2.2.1.toNat)), (3, .int (nI ii)), (4, .int (nI xs.length)), (9, .int (nI k))] := hl
      refine lv_iinc (v := nI (k + 1)) K.1 K.2.1 dc_Mo_windowAt_91 hl (k := 10) rfl (nI_1 k) (by decide) rfl (fun ls hl => ?_)
      have hl : lv_has ls 13 [(9, .int (nI (k + 1))), (7, .long v9), (5, .long v8), (12, .int 1), (11, .int (nI (sp.2.2.1.toNat - k))), (10, .int (nI (k + 1))), (0, .ref h), (1, .int sh), (2, .int (nI sp.2.2.1.toNat)), (3, .int (nI ii)), (4, .int (nI xs.length))] := hl
      refine lv_goto (tgt := 9) K.1 K.2.1 dc_Mo_windowAt_94 rfl ?_
      exact ih9 (k + 1, v8, v9) _ _ _ (by show sp.2.2.1.toNat - (k + 1) < sp.2.2.1.toNat - k; omega) ⟨(mo_wst hok h2 hxi hi hk hI9 hW hx4 e_v8 e_v9), lv_sub hl [6, 7, 8, 9, 10, 2, 1, 0] rfl, hP, hD, hS⟩
set_option maxHeartbeats 4000000 in
set_option maxRecDepth 100000 in
theorem ct_Mo_resampledAt (l : Launch) (D : va_G) (cI cO : ClassId) (tE : Nat) (h aK aN aB aS aL aX : Nat) (rm : Nat) (sd : Bool) (ns : Nat) (iw : Nat) (ow : Nat) (ih : Bool) (oh : Bool) (ca : Nat) (us : Nat) (cl : Bool) (fl : Bool) (tk : Nat) (md : Nat) (gi : Nat) (su : Nat) (ps : Nat) (cs : Nat) (fK fN fB fS fL fX : Nat → Int32) (sp : fm_S) (xs : List Int) (u d ii : Nat) (hU : mo_U sp u d) (hL : mo_L fL xs) (hxi : ∀ v ∈ xs, fm_in v) (hi : ii < 2300) (sz : Nat) : Met l my_Mo_resampledAt (fq_w my_Mo_resampledAt cb_Mo_resampledAt 14 (some .int)) ({ frames := 1, cells := 0, slots := 0, locals := 25 }) (va_Pc ([.ref h, .int (nI u), .int (nI d), .int (nI ii), .int (nI xs.length)]) (fq_Pre D cI cO tE sz ([(h, .inr (12, [.int (nI rm), .int (fq_b sd), .int (nI ns), .ref aK, .ref aN, .int (nI iw), .int (nI ow), .int (fq_b ih), .int (fq_b oh), .ref aB, .int (nI ca), .int (nI us), .int (fq_b cl), .int (fq_b fl), .ref aS, .int (nI tk), .ref aL, .ref aX, .int (nI md), .int (nI gi), .int (nI su), .int (nI ps), .int (nI cs)])), (aK, .inl (cI, 5, .inl fK)), (aN, .inl (cI, 25, .inl fN)), (aB, .inl (cI, 120, .inl fB)), (aS, .inl (cI, 120, .inl fS)), (aL, .inl (cI, 2300, .inl fL)), (aX, .inl (cI, 2300, .inl fX))]))) (va_Qi (S := va_W) (fun r w => w = [(h, .inr (12, [.int (nI rm), .int (fq_b sd), .int (nI ns), .ref aK, .ref aN, .int (nI iw), .int (nI ow), .int (fq_b ih), .int (fq_b oh), .ref aB, .int (nI ca), .int (nI us), .int (fq_b cl), .int (fq_b fl), .ref aS, .int (nI tk), .ref aL, .ref aX, .int (nI md), .int (nI gi), .int (nI su), .int (nI ps), .int (nI cs)])), (aK, .inl (cI, 5, .inl fK)), (aN, .inl (cI, 25, .inl fN)), (aB, .inl (cI, 120, .inl fB)), (aS, .inl (cI, 120, .inl fS)), (aL, .inl (cI, 2300, .inl fL)), (aX, .inl (cI, 2300, .inl fX))] ∧ r.toInt = fm_y sp xs ii) (fq_Bw D (va_A ([(h, .inr (12, [.int (nI rm), .int (fq_b sd), .int (nI ns), .ref aK, .ref aN, .int (nI iw), .int (nI ow), .int (fq_b ih), .int (fq_b oh), .ref aB, .int (nI ca), .int (nI us), .int (fq_b cl), .int (fq_b fl), .ref aS, .int (nI tk), .ref aL, .ref aX, .int (nI md), .int (nI gi), .int (nI su), .int (nI ps), .int (nI cs)])), (aK, .inl (cI, 5, .inl fK)), (aN, .inl (cI, 25, .inl fN)), (aB, .inl (cI, 120, .inl fB)), (aS, .inl (cI, 120, .inl fS)), (aL, .inl (cI, 2300, .inl fL)), (aX, .inl (cI, 2300, .inl fX))]) sz)) (va_A ([(h, .inr (12, [.int (nI rm), .int (fq_b sd), .int (nI ns), .ref aK, .ref aN, .int (nI iw), .int (nI ow), .int (fq_b ih), .int (fq_b oh), .ref aB, .int (nI ca), .int (nI us), .int (fq_b cl), .int (fq_b fl), .ref aS, .int (nI tk), .ref aL, .ref aX, .int (nI md), .int (nI gi), .int (nI su), .int (nI ps), .int (nI cs)])), (aK, .inl (cI, 5, .inl fK)), (aN, .inl (cI, 25, .inl fN)), (aB, .inl (cI, 120, .inl fB)), (aS, .inl (cI, 120, .inl fS)), (aL, .inl (cI, 2300, .inl fL)), (aX, .inl (cI, 2300, .inl fX))]) sz)) (0) (0) (va_A ([(h, .inr (12, [.int (nI rm), .int (fq_b sd), .int (nI ns), .ref aK, .ref aN, .int (nI iw), .int (nI ow), .int (fq_b ih), .int (fq_b oh), .ref aB, .int (nI ca), .int (nI us), .int (fq_b cl), .int (fq_b fl), .ref aS, .int (nI tk), .ref aL, .ref aX, .int (nI md), .int (nI gi), .int (nI su), .int (nI ps), .int (nI cs)])), (aK, .inl (cI, 5, .inl fK)), (aN, .inl (cI, 25, .inl fN)), (aB, .inl (cI, 120, .inl fB)), (aS, .inl (cI, 120, .inl fS)), (aL, .inl (cI, 2300, .inl fL)), (aX, .inl (cI, 2300, .inl fX))]) sz) := by
  refine fq_open (by decide +kernel) (Nat.le_of_ble_eq_true rfl) ?_
  intro pg ev s mt below meth cd ls K hret hlk hin hK hZ hP hD hA hS hl
  generalize va_A ([(h, .inr (12, [.int (nI rm), .int (fq_b sd), .int (nI ns), .ref aK, .ref aN, .int (nI iw), .int (nI ow), .int (fq_b ih), .int (fq_b oh), .ref aB, .int (nI ca), .int (nI us), .int (fq_b cl), .int (fq_b fl), .ref aS, .int (nI tk), .ref aL, .ref aX, .int (nI md), .int (nI gi), .int (nI su), .int (nI ps), .int (nI cs)])), (aK, .inl (cI, 5, .inl fK)), (aN, .inl (cI, 25, .inl fN)), (aB, .inl (cI, 120, .inl fB)), (aS, .inl (cI, 120, .inl fS)), (aL, .inl (cI, 2300, .inl fL)), (aX, .inl (cI, 2300, .inl fX))]) sz = A at hZ hD hA hS ⊢
  have K : fq_Ctx pg mt cd cb_Mo_resampledAt 14 s _ cn_Mo := K
  have hl : lv_has ls 14 [(0, .ref h), (1, .int (nI u)), (2, .int (nI d)), (3, .int (nI ii)), (4, .int (nI xs.length))] := hl
  have hrb := rs_rb hU.2.2.2.1 hU.2.2.2.2
  refine lv_iload_n K.1 K.2.1 dc_Mo_resampledAt_0 rfl (lv_at hl 1 rfl) ?_
  refine lv_iload_n K.1 K.2.1 dc_Mo_resampledAt_1 rfl (lv_at hl 2 rfl) ?_
  refine lv_icmp_le (tgt := 9) K.1 K.2.1 dc_Mo_resampledAt_2 rfl (fun b2 => ?_) (fun b2 => ?_)
  · skip
    refine lv_iload_n K.1 K.2.1 dc_Mo_resampledAt_9 rfl (lv_at hl 2 rfl) ?_
    refine fq_asi (y := nI (rs_r u d)) (mo_mx1 hU.2.2.2.1 hU.2.2.2.2 b2) ?_
    refine lv_istore K.1 K.2.1 dc_Mo_resampledAt_10 hl (by decide) rfl (fun ls hl => ?_)
    have hl : lv_has ls 14 [(5, .int (nI (rs_r u d))), (0, .ref h), (1, .int (nI u)), (2, .int (nI d)), (3, .int (nI ii)), (4, .int (nI xs.length))] := hl
    refine lv_lconst (v := 0) K.1 K.2.1 dc_Mo_resampledAt_12 (by decide) ?_
    refine lv_lstore K.1 K.2.1 dc_Mo_resampledAt_13 hl (by decide) rfl (fun ls hl => ?_)
    have hl : lv_has ls 14 [(6, .long 0), (5, .int (nI (rs_r u d))), (0, .ref h), (1, .int (nI u)), (2, .int (nI d)), (3, .int (nI ii)), (4, .int (nI xs.length))] := hl
    refine lv_iconst (v := 0) K.1 K.2.1 dc_Mo_resampledAt_15 (by decide) ?_
    refine lv_istore K.1 K.2.1 dc_Mo_resampledAt_16 hl (by decide) rfl (fun ls hl => ?_)
    have hl : lv_has ls 14 [(8, .int 0), (6, .long 0), (5, .int (nI (rs_r u d))), (0, .ref h), (1, .int (nI u)), (2, .int (nI d)), (3, .int (nI ii)), (4, .int (nI xs.length))] := hl
    refine fq_lp (σ := Nat × Int64) (fun x => 2 * rs_r u d - 1 - x.1) (fun x H locs ls => (x.1 ≤ 2 * rs_r u d - 1 ∧ x.2.toInt = fm_sum (fun kj => fm_far (rs_r u d : Int) kj * fm_u (u : Int) xs ((ii : Int) * d - kj)) x.1) ∧ lv_has ls 14 [(0, .ref h), (1, .int (nI u)), (2, .int (nI d)), (3, .int (nI ii)), (4, .int (nI xs.length)), (5, .int (nI (rs_r u d))), (6, .long x.2), (8, .int (nI x.1))] ∧ va_P D fq_cl ([(h, .inr (12, [.int (nI rm), .int (fq_b sd), .int (nI ns), .ref aK, .ref aN, .int (nI iw), .int (nI ow), .int (fq_b ih), .int (fq_b oh), .ref aB, .int (nI ca), .int (nI us), .int (fq_b cl), .int (fq_b fl), .ref aS, .int (nI tk), .ref aL, .ref aX, .int (nI md), .int (nI gi), .int (nI su), .int (nI ps), .int (nI cs)])), (aK, .inl (cI, 5, .inl fK)), (aN, .inl (cI, 25, .inl fN)), (aB, .inl (cI, 120, .inl fB)), (aS, .inl (cI, 120, .inl fS)), (aL, .inl (cI, 2300, .inl fL)), (aX, .inl (cI, 2300, .inl fX))]) H ∧ va_D A ([(h, .inr (12, [.int (nI rm), .int (fq_b sd), .int (nI ns), .ref aK, .ref aN, .int (nI iw), .int (nI ow), .int (fq_b ih), .int (fq_b oh), .ref aB, .int (nI ca), .int (nI us), .int (fq_b cl), .int (fq_b fl), .ref aS, .int (nI tk), .ref aL, .ref aX, .int (nI md), .int (nI gi), .int (nI su), .int (nI ps), .int (nI cs)])), (aK, .inl (cI, 5, .inl fK)), (aN, .inl (cI, 25, .inl fN)), (aB, .inl (cI, 120, .inl fB)), (aS, .inl (cI, 120, .inl fS)), (aL, .inl (cI, 2300, .inl fL)), (aX, .inl (cI, 2300, .inl fX))]) ∧ va_S A s.heap H locs) ?_ (0, 0) _ _ _ ⟨⟨Nat.zero_le _, rfl⟩, lv_sub hl [3, 4, 5, 6, 7, 2, 1, 0] rfl, hP, hD, hS⟩
    rintro ⟨k, sm⟩ H locs ls ⟨hI18, hl, hP, hD, hS⟩ ih18
    have hI18 : k ≤ 2 * rs_r u d - 1 ∧ sm.toInt = fm_sum (fun kj => fm_far (rs_r u d : Int) kj * fm_u (u : Int) xs ((ii : Int) * d - kj)) k := hI18
    have hl : lv_has ls 14 [(0, .ref h), (1, .int (nI u)), (2, .int (nI d)), (3, .int (nI ii)), (4, .int (nI xs.length)), (5, .int (nI (rs_r u d))), (6, .long sm), (8, .int (nI k))] := hl
    have hP : va_P D fq_cl ([(h, .inr (12, [.int (nI rm), .int (fq_b sd), .int (nI ns), .ref aK, .ref aN, .int (nI iw), .int (nI ow), .int (fq_b ih), .int (fq_b oh), .ref aB, .int (nI ca), .int (nI us), .int (fq_b cl), .int (fq_b fl), .ref aS, .int (nI tk), .ref aL, .ref aX, .int (nI md), .int (nI gi), .int (nI su), .int (nI ps), .int (nI cs)])), (aK, .inl (cI, 5, .inl fK)), (aN, .inl (cI, 25, .inl fN)), (aB, .inl (cI, 120, .inl fB)), (aS, .inl (cI, 120, .inl fS)), (aL, .inl (cI, 2300, .inl fL)), (aX, .inl (cI, 2300, .inl fX))]) _ := hP
    have hD : va_D A ([(h, .inr (12, [.int (nI rm), .int (fq_b sd), .int (nI ns), .ref aK, .ref aN, .int (nI iw), .int (nI ow), .int (fq_b ih), .int (fq_b oh), .ref aB, .int (nI ca), .int (nI us), .int (fq_b cl), .int (fq_b fl), .ref aS, .int (nI tk), .ref aL, .ref aX, .int (nI md), .int (nI gi), .int (nI su), .int (nI ps), .int (nI cs)])), (aK, .inl (cI, 5, .inl fK)), (aN, .inl (cI, 25, .inl fN)), (aB, .inl (cI, 120, .inl fB)), (aS, .inl (cI, 120, .inl fS)), (aL, .inl (cI, 2300, .inl fL)), (aX, .inl (cI, 2300, .inl fX))]) := hD
    refine lv_iload K.1 K.2.1 dc_Mo_resampledAt_18 (lv_at hl 7 rfl) ?_
    refine lv_iconst (v := 2) K.1 K.2.1 dc_Mo_resampledAt_20 (by decide) ?_
    refine lv_iload K.1 K.2.1 dc_Mo_resampledAt_21 (lv_at hl 5 rfl) ?_
    refine lv_imul K.1 K.2.1 dc_Mo_resampledAt_23 ?_
    refine fq_asi (y := nI (2 * rs_r u d)) (pk_mul 2 _) ?_
    refine lv_iconst (v := 2) K.1 K.2.1 dc_Mo_resampledAt_24 (by decide) ?_
    refine lv_isub K.1 K.2.1 dc_Mo_resampledAt_25 ?_
    refine fq_asi (y := nI (2 * rs_r u d - 2)) (pk_sub (a := 2 * rs_r u d) (b := 2) (by omega)) ?_
    refine lv_icmp_gt (tgt := 117) K.1 K.2.1 dc_Mo_resampledAt_26 rfl (fun b26 => ?_) (fun b26 => ?_)
    · skip
      have hk : k = 2 * rs_r u d - 1 := mo_kg hI18.1 hrb b26
      refine lv_iload_n K.1 K.2.1 dc_Mo_resampledAt_117 rfl (lv_at hl 1 rfl) ?_
      refine lv_i2l K.1 K.2.1 dc_Mo_resampledAt_118 rfl ?_
      refine lv_lload K.1 K.2.1 dc_Mo_resampledAt_119 (lv_at hl 6 rfl) ?_
      refine lv_lmul K.1 K.2.1 dc_Mo_resampledAt_121 ?_
      refine lv_iload K.1 K.2.1 dc_Mo_resampledAt_122 (lv_at hl 5 rfl) ?_
      refine lv_i2l K.1 K.2.1 dc_Mo_resampledAt_124 rfl ?_
      refine lv_iload K.1 K.2.1 dc_Mo_resampledAt_125 (lv_at hl 5 rfl) ?_
      refine lv_i2l K.1 K.2.1 dc_Mo_resampledAt_127 rfl ?_
      refine lv_lmul K.1 K.2.1 dc_Mo_resampledAt_128 ?_
      have hc := fq_cut.of (wc := []) hP hD hS hA [] (by decide) rfl
      refine fq_cl_ (wr := [(h, .inr (12, [.int (nI rm), .int (fq_b sd), .int (nI ns), .ref aK, .ref aN, .int (nI iw), .int (nI ow), .int (fq_b ih), .int (fq_b oh), .ref aB, .int (nI ca), .int (nI us), .int (fq_b cl), .int (fq_b fl), .ref aS, .int (nI tk), .ref aL, .ref aX, .int (nI md), .int (nI gi), .int (nI su), .int (nI ps), .int (nI cs)])), (aK, .inl (cI, 5, .inl fK)), (aN, .inl (cI, 25, .inl fN)), (aB, .inl (cI, 120, .inl fB)), (aS, .inl (cI, 120, .inl fS)), (aL, .inl (cI, 2300, .inl fL)), (aX, .inl (cI, 2300, .inl fX))]) (fq_rS K hK hZ hS hc (ct_Mo_floor l D cI cO tE (((nI u).toInt64) * sm) (((nI (rs_r u d)).toInt64) * ((nI (rs_r u d)).toInt64)) (rs_pos hrb) _) yk_Mo_floor wd_868 wd_867 ⟨⟨rfl, rfl⟩, ⟨Nat.le_of_ble_eq_true rfl, Nat.le_of_ble_eq_true rfl⟩, ⟨Nat.le_of_ble_eq_true rfl, Nat.le_of_ble_eq_true rfl⟩⟩ hl.1 rfl (Nat.le_of_ble_eq_true rfl) dc_Mo_resampledAt_129) hP hD hS hc [] [0, 1, 2, 3, 4, 5, 6] rfl rfl (by decide) (by decide) (fun r1 w H locs hw1 hP hD hS => ?_)
      obtain ⟨rfl, hd1⟩ := hw1
      have hP : va_P D fq_cl ([(h, .inr (12, [.int (nI rm), .int (fq_b sd), .int (nI ns), .ref aK, .ref aN, .int (nI iw), .int (nI ow), .int (fq_b ih), .int (fq_b oh), .ref aB, .int (nI ca), .int (nI us), .int (fq_b cl), .int (fq_b fl), .ref aS, .int (nI tk), .ref aL, .ref aX, .int (nI md), .int (nI gi), .int (nI su), .int (nI ps), .int (nI cs)])), (aK, .inl (cI, 5, .inl fK)), (aN, .inl (cI, 25, .inl fN)), (aB, .inl (cI, 120, .inl fB)), (aS, .inl (cI, 120, .inl fS)), (aL, .inl (cI, 2300, .inl fL)), (aX, .inl (cI, 2300, .inl fX))]) _ := hP
      have hD : va_D A ([(h, .inr (12, [.int (nI rm), .int (fq_b sd), .int (nI ns), .ref aK, .ref aN, .int (nI iw), .int (nI ow), .int (fq_b ih), .int (fq_b oh), .ref aB, .int (nI ca), .int (nI us), .int (fq_b cl), .int (fq_b fl), .ref aS, .int (nI tk), .ref aL, .ref aX, .int (nI md), .int (nI gi), .int (nI su), .int (nI ps), .int (nI cs)])), (aK, .inl (cI, 5, .inl fK)), (aN, .inl (cI, 25, .inl fN)), (aB, .inl (cI, 120, .inl fB)), (aS, .inl (cI, 120, .inl fS)), (aL, .inl (cI, 2300, .inl fL)), (aX, .inl (cI, 2300, .inl fX))]) := hD
      have hc := fq_cut.of (wc := []) hP hD hS hA [] (by decide) rfl
      refine fq_ci (wr := [(h, .inr (12, [.int (nI rm), .int (fq_b sd), .int (nI ns), .ref aK, .ref aN, .int (nI iw), .int (nI ow), .int (fq_b ih), .int (fq_b oh), .ref aB, .int (nI ca), .int (nI us), .int (fq_b cl), .int (fq_b fl), .ref aS, .int (nI tk), .ref aL, .ref aX, .int (nI md), .int (nI gi), .int (nI su), .int (nI ps), .int (nI cs)])), (aK, .inl (cI, 5, .inl fK)), (aN, .inl (cI, 25, .inl fN)), (aB, .inl (cI, 120, .inl fB)), (aS, .inl (cI, 120, .inl fS)), (aL, .inl (cI, 2300, .inl fL)), (aX, .inl (cI, 2300, .inl fX))]) (fq_rS K hK hZ hS hc (ct_Mo_clipped l D cI cO tE r1 _) yk_Mo_clipped wd_954 wd_953 ⟨⟨rfl, rfl⟩, ⟨Nat.le_of_ble_eq_true rfl, Nat.le_of_ble_eq_true rfl⟩, ⟨Nat.le_of_ble_eq_true rfl, Nat.le_of_ble_eq_true rfl⟩⟩ hl.1 rfl (Nat.le_of_ble_eq_true rfl) dc_Mo_resampledAt_132) hP hD hS hc [] [0, 1, 2, 3, 4, 5, 6] rfl rfl (by decide) (by decide) (fun r2 w H locs hw2 hP hD hS => ?_)
      obtain ⟨rfl, hd2⟩ := hw2
      have hP : va_P D fq_cl ([(h, .inr (12, [.int (nI rm), .int (fq_b sd), .int (nI ns), .ref aK, .ref aN, .int (nI iw), .int (nI ow), .int (fq_b ih), .int (fq_b oh), .ref aB, .int (nI ca), .int (nI us), .int (fq_b cl), .int (fq_b fl), .ref aS, .int (nI tk), .ref aL, .ref aX, .int (nI md), .int (nI gi), .int (nI su), .int (nI ps), .int (nI cs)])), (aK, .inl (cI, 5, .inl fK)), (aN, .inl (cI, 25, .inl fN)), (aB, .inl (cI, 120, .inl fB)), (aS, .inl (cI, 120, .inl fS)), (aL, .inl (cI, 2300, .inl fL)), (aX, .inl (cI, 2300, .inl fX))]) _ := hP
      have hD : va_D A ([(h, .inr (12, [.int (nI rm), .int (fq_b sd), .int (nI ns), .ref aK, .ref aN, .int (nI iw), .int (nI ow), .int (fq_b ih), .int (fq_b oh), .ref aB, .int (nI ca), .int (nI us), .int (fq_b cl), .int (fq_b fl), .ref aS, .int (nI tk), .ref aL, .ref aX, .int (nI md), .int (nI gi), .int (nI su), .int (nI ps), .int (nI cs)])), (aK, .inl (cI, 5, .inl fK)), (aN, .inl (cI, 25, .inl fN)), (aB, .inl (cI, 120, .inl fB)), (aS, .inl (cI, 120, .inl fS)), (aL, .inl (cI, 2300, .inl fL)), (aX, .inl (cI, 2300, .inl fX))]) := hD
      exact fq_reti K hret hlk hS hP hD ⟨rfl, mo_rv hU hxi hk hI18 hd1 hd2⟩ dc_Mo_resampledAt_135 (Nat.le_of_ble_eq_true rfl) (Nat.le_of_ble_eq_true rfl)
    · skip
      have hk : k < 2 * rs_r u d - 1 := mo_kl hI18.1 hrb b26
      refine lv_iload K.1 K.2.1 dc_Mo_resampledAt_29 (lv_at hl 7 rfl) ?_
      refine lv_iload K.1 K.2.1 dc_Mo_resampledAt_31 (lv_at hl 5 rfl) ?_
      refine lv_iconst (v := 1) K.1 K.2.1 dc_Mo_resampledAt_33 (by decide) ?_
      refine lv_isub K.1 K.2.1 dc_Mo_resampledAt_34 ?_
      refine lv_isub K.1 K.2.1 dc_Mo_resampledAt_35 ?_
      refine lv_topi (fun v1 e_v1 => ?_)
      refine lv_istore K.1 K.2.1 dc_Mo_resampledAt_36 hl (by decide) rfl (fun ls hl => ?_)
      have hl : lv_has ls 14 [(9, .int v1), (0, .ref h), (1, .int (nI u)), (2, .int (nI d)), (3, .int (nI ii)), (4, .int (nI xs.length)), (5, .int (nI (rs_r u d))), (6, .long sm), (8, .int (nI k))] := hl
      refine lv_iload_n K.1 K.2.1 dc_Mo_resampledAt_38 rfl (lv_at hl 4 rfl) ?_
      refine lv_iload_n K.1 K.2.1 dc_Mo_resampledAt_39 rfl (lv_at hl 3 rfl) ?_
      refine lv_imul K.1 K.2.1 dc_Mo_resampledAt_40 ?_
      refine fq_asi (y := nI (ii * d)) (pk_mul ii d) ?_
      refine lv_iload K.1 K.2.1 dc_Mo_resampledAt_41 (lv_at hl 8 rfl) ?_
      refine lv_isub K.1 K.2.1 dc_Mo_resampledAt_43 ?_
      refine lv_topi (fun v2 e_v2 => ?_)
      refine lv_istore K.1 K.2.1 dc_Mo_resampledAt_44 hl (by decide) rfl (fun ls hl => ?_)
      have hl : lv_has ls 14 [(10, .int v2), (9, .int v1), (0, .ref h), (1, .int (nI u)), (2, .int (nI d)), (3, .int (nI ii)), (4, .int (nI xs.length)), (5, .int (nI (rs_r u d))), (6, .long sm), (8, .int (nI k))] := hl
      have hpl : v2.toInt = (ii : Int) * d - k := mo_pl hi hU.2.2.2.2 hk hrb e_v2
      refine lv_iload K.1 K.2.1 dc_Mo_resampledAt_46 (lv_at hl 0 rfl) ?_
      refine lv_if_lt (tgt := 62) K.1 K.2.1 dc_Mo_resampledAt_48 rfl (fun b48 => ?_) (fun b48 => ?_)
      · skip
        refine lv_iconst (v := 0) K.1 K.2.1 dc_Mo_resampledAt_62 (by decide) ?_
        refine lv_istore K.1 K.2.1 dc_Mo_resampledAt_63 hl (by decide) rfl (fun ls hl => ?_)
        have hl : lv_has ls 14 [(11, .int 0), (10, .int v2), (9, .int v1), (0, .ref h), (1, .int (nI u)), (2, .int (nI d)), (3, .int (nI ii)), (4, .int (nI xs.length)), (5, .int (nI (rs_r u d))), (6, .long sm), (8, .int (nI k))] := hl
        refine lv_iload K.1 K.2.1 dc_Mo_resampledAt_65 (lv_at hl 0 rfl) ?_
        refine lv_if_eq (tgt := 83) K.1 K.2.1 dc_Mo_resampledAt_67 rfl (fun b67 => ?_) (fun b67 => absurd rfl b67)
        refine lv_lconst (v := 0) K.1 K.2.1 dc_Mo_resampledAt_83 (by decide) ?_
        have hz : (0 : Int64).toInt = fm_u (u : Int) xs ((ii : Int) * d - k) := by first | exact mo_u0 hpl b48 | exact mo_u1 hU.2.2.2.1 hpl b55
        refine lv_lstore K.1 K.2.1 dc_Mo_resampledAt_84 hl (by decide) rfl (fun ls hl => ?_)
        have hl : lv_has ls 14 [(12, .long 0), (11, .int 0), (10, .int v2), (9, .int v1), (0, .ref h), (1, .int (nI u)), (2, .int (nI d)), (3, .int (nI ii)), (4, .int (nI xs.length)), (5, .int (nI (rs_r u d))), (6, .long sm), (8, .int (nI k))] := hl
        refine lv_lload K.1 K.2.1 dc_Mo_resampledAt_86 (lv_at hl 10 rfl) ?_
        refine lv_iload K.1 K.2.1 dc_Mo_resampledAt_88 (lv_at hl 9 rfl) ?_
        refine lv_iload K.1 K.2.1 dc_Mo_resampledAt_90 (lv_at hl 3 rfl) ?_
        refine lv_if_ge (tgt := 101) K.1 K.2.1 dc_Mo_resampledAt_92 rfl (fun b92 => ?_) (fun b92 => ?_)
        · skip
          refine lv_iload K.1 K.2.1 dc_Mo_resampledAt_101 (lv_at hl 3 rfl) ?_
          refine lv_isub K.1 K.2.1 dc_Mo_resampledAt_103 ?_
          have hf : ((nI (rs_r u d)) - v1).toInt = fm_far (rs_r u d : Int) k := mo_f1 hrb hk e_v1 b92
          refine lv_i2l K.1 K.2.1 dc_Mo_resampledAt_104 rfl ?_
          refine lv_lload K.1 K.2.1 dc_Mo_resampledAt_105 (lv_at hl 0 rfl) ?_
          refine lv_lmul K.1 K.2.1 dc_Mo_resampledAt_107 ?_
          refine lv_ladd K.1 K.2.1 dc_Mo_resampledAt_108 ?_
          refine lv_topl (fun v3 e_v3 => ?_)
          refine lv_lstore K.1 K.2.1 dc_Mo_resampledAt_109 hl (by decide) rfl (fun ls hl => ?_)
          have hl : lv_has ls 14 [(6, .long v3), (12, .long 0), (11, .int 0), (10, .int v2), (9, .int v1), (0, .ref h), (1, .int (nI u)), (2, .int (nI d)), (3, .int (nI ii)), (4, .int (nI xs.length)), (5, .int (nI (rs_r u d))), (8, .int (nI k))] := hl
          refine lv_iinc (v := nI (k + 1)) K.1 K.2.1 dc_Mo_resampledAt_111 hl (k := 11) rfl (nI_1 k) (by decide) rfl (fun ls hl => ?_)
          have hl : lv_has ls 14 [(8, .int (nI (k + 1))), (6, .long v3), (12, .long 0), (11, .int 0), (10, .int v2), (9, .int v1), (0, .ref h), (1, .int (nI u)), (2, .int (nI d)), (3, .int (nI ii)), (4, .int (nI xs.length)), (5, .int (nI (rs_r u d)))] := hl
          refine lv_goto (tgt := 18) K.1 K.2.1 dc_Mo_resampledAt_114 rfl ?_
          exact ih18 (k + 1, v3) _ _ _ (by show 2 * rs_r u d - 1 - (k + 1) < 2 * rs_r u d - 1 - k; omega) ⟨(mo_rst hU hxi hk hI18 hf hz e_v3), lv_sub hl [6, 7, 8, 9, 10, 11, 1, 0] rfl, hP, hD, hS⟩
        · skip
          refine lv_iload K.1 K.2.1 dc_Mo_resampledAt_95 (lv_at hl 3 rfl) ?_
          refine lv_ineg K.1 K.2.1 dc_Mo_resampledAt_97 ?_
          refine lv_goto (tgt := 103) K.1 K.2.1 dc_Mo_resampledAt_98 rfl ?_
          refine lv_isub K.1 K.2.1 dc_Mo_resampledAt_103 ?_
          have hf : ((nI (rs_r u d)) - (-v1)).toInt = fm_far (rs_r u d : Int) k := mo_f2 hrb hk e_v1 b92
          refine lv_i2l K.1 K.2.1 dc_Mo_resampledAt_104 rfl ?_
          refine lv_lload K.1 K.2.1 dc_Mo_resampledAt_105 (lv_at hl 0 rfl) ?_
          refine lv_lmul K.1 K.2.1 dc_Mo_resampledAt_107 ?_
          refine lv_ladd K.1 K.2.1 dc_Mo_resampledAt_108 ?_
          refine lv_topl (fun v4 e_v4 => ?_)
          refine lv_lstore K.1 K.2.1 dc_Mo_resampledAt_109 hl (by decide) rfl (fun ls hl => ?_)
          have hl : lv_has ls 14 [(6, .long v4), (12, .long 0), (11, .int 0), (10, .int v2), (9, .int v1), (0, .ref h), (1, .int (nI u)), (2, .int (nI d)), (3, .int (nI ii)), (4, .int (nI xs.length)), (5, .int (nI (rs_r u d))), (8, .int (nI k))] := hl
          refine lv_iinc (v := nI (k + 1)) K.1 K.2.1 dc_Mo_resampledAt_111 hl (k := 11) rfl (nI_1 k) (by decide) rfl (fun ls hl => ?_)
          have hl : lv_has ls 14 [(8, .int (nI (k + 1))), (6, .long v4), (12, .long 0), (11, .int 0), (10, .int v2), (9, .int v1), (0, .ref h), (1, .int (nI u)), (2, .int (nI d)), (3, .int (nI ii)), (4, .int (nI xs.length)), (5, .int (nI (rs_r u d)))] := hl
          refine lv_goto (tgt := 18) K.1 K.2.1 dc_Mo_resampledAt_114 rfl ?_
          exact ih18 (k + 1, v4) _ _ _ (by show 2 * rs_r u d - 1 - (k + 1) < 2 * rs_r u d - 1 - k; omega) ⟨(mo_rst hU hxi hk hI18 hf hz e_v4), lv_sub hl [6, 7, 8, 9, 10, 11, 1, 0] rfl, hP, hD, hS⟩
      · skip
        refine lv_iload K.1 K.2.1 dc_Mo_resampledAt_51 (lv_at hl 0 rfl) ?_
        refine lv_iload_n K.1 K.2.1 dc_Mo_resampledAt_53 rfl (lv_at hl 3 rfl) ?_
        refine lv_irem K.1 K.2.1 dc_Mo_resampledAt_54 (nI_ne0 (by have := hU.2.2.2.1; omega) (by have := hU.2.2.2.1; omega)) ?_
        refine lv_if_ne (tgt := 62) K.1 K.2.1 dc_Mo_resampledAt_55 rfl (fun b55 => ?_) (fun b55 => ?_)
        · skip
          refine lv_iconst (v := 0) K.1 K.2.1 dc_Mo_resampledAt_62 (by decide) ?_
          refine lv_istore K.1 K.2.1 dc_Mo_resampledAt_63 hl (by decide) rfl (fun ls hl => ?_)
          have hl : lv_has ls 14 [(11, .int 0), (10, .int v2), (9, .int v1), (0, .ref h), (1, .int (nI u)), (2, .int (nI d)), (3, .int (nI ii)), (4, .int (nI xs.length)), (5, .int (nI (rs_r u d))), (6, .long sm), (8, .int (nI k))] := hl
          refine lv_iload K.1 K.2.1 dc_Mo_resampledAt_65 (lv_at hl 0 rfl) ?_
          refine lv_if_eq (tgt := 83) K.1 K.2.1 dc_Mo_resampledAt_67 rfl (fun b67 => ?_) (fun b67 => absurd rfl b67)
          refine lv_lconst (v := 0) K.1 K.2.1 dc_Mo_resampledAt_83 (by decide) ?_
          have hz : (0 : Int64).toInt = fm_u (u : Int) xs ((ii : Int) * d - k) := by first | exact mo_u0 hpl b48 | exact mo_u1 hU.2.2.2.1 hpl b55
          refine lv_lstore K.1 K.2.1 dc_Mo_resampledAt_84 hl (by decide) rfl (fun ls hl => ?_)
          have hl : lv_has ls 14 [(12, .long 0), (11, .int 0), (10, .int v2), (9, .int v1), (0, .ref h), (1, .int (nI u)), (2, .int (nI d)), (3, .int (nI ii)), (4, .int (nI xs.length)), (5, .int (nI (rs_r u d))), (6, .long sm), (8, .int (nI k))] := hl
          refine lv_lload K.1 K.2.1 dc_Mo_resampledAt_86 (lv_at hl 10 rfl) ?_
          refine lv_iload K.1 K.2.1 dc_Mo_resampledAt_88 (lv_at hl 9 rfl) ?_
          refine lv_iload K.1 K.2.1 dc_Mo_resampledAt_90 (lv_at hl 3 rfl) ?_
          refine lv_if_ge (tgt := 101) K.1 K.2.1 dc_Mo_resampledAt_92 rfl (fun b92 => ?_) (fun b92 => ?_)
          · skip
            refine lv_iload K.1 K.2.1 dc_Mo_resampledAt_101 (lv_at hl 3 rfl) ?_
            refine lv_isub K.1 K.2.1 dc_Mo_resampledAt_103 ?_
            have hf : ((nI (rs_r u d)) - v1).toInt = fm_far (rs_r u d : Int) k := mo_f1 hrb hk e_v1 b92
            refine lv_i2l K.1 K.2.1 dc_Mo_resampledAt_104 rfl ?_
            refine lv_lload K.1 K.2.1 dc_Mo_resampledAt_105 (lv_at hl 0 rfl) ?_
            refine lv_lmul K.1 K.2.1 dc_Mo_resampledAt_107 ?_
            refine lv_ladd K.1 K.2.1 dc_Mo_resampledAt_108 ?_
            refine lv_topl (fun v5 e_v5 => ?_)
            refine lv_lstore K.1 K.2.1 dc_Mo_resampledAt_109 hl (by decide) rfl (fun ls hl => ?_)
            have hl : lv_has ls 14 [(6, .long v5), (12, .long 0), (11, .int 0), (10, .int v2), (9, .int v1), (0, .ref h), (1, .int (nI u)), (2, .int (nI d)), (3, .int (nI ii)), (4, .int (nI xs.length)), (5, .int (nI (rs_r u d))), (8, .int (nI k))] := hl
            refine lv_iinc (v := nI (k + 1)) K.1 K.2.1 dc_Mo_resampledAt_111 hl (k := 11) rfl (nI_1 k) (by decide) rfl (fun ls hl => ?_)
            have hl : lv_has ls 14 [(8, .int (nI (k + 1))), (6, .long v5), (12, .long 0), (11, .int 0), (10, .int v2), (9, .int v1), (0, .ref h), (1, .int (nI u)), (2, .int (nI d)), (3, .int (nI ii)), (4, .int (nI xs.length)), (5, .int (nI (rs_r u d)))] := hl
            refine lv_goto (tgt := 18) K.1 K.2.1 dc_Mo_resampledAt_114 rfl ?_
            exact ih18 (k + 1, v5) _ _ _ (by show 2 * rs_r u d - 1 - (k + 1) < 2 * rs_r u d - 1 - k; omega) ⟨(mo_rst hU hxi hk hI18 hf hz e_v5), lv_sub hl [6, 7, 8, 9, 10, 11, 1, 0] rfl, hP, hD, hS⟩
          · skip
            refine lv_iload K.1 K.2.1 dc_Mo_resampledAt_95 (lv_at hl 3 rfl) ?_
            refine lv_ineg K.1 K.2.1 dc_Mo_resampledAt_97 ?_
            refine lv_goto (tgt := 103) K.1 K.2.1 dc_Mo_resampledAt_98 rfl ?_
            refine lv_isub K.1 K.2.1 dc_Mo_resampledAt_103 ?_
            have hf : ((nI (rs_r u d)) - (-v1)).toInt = fm_far (rs_r u d : Int) k := mo_f2 hrb hk e_v1 b92
            refine lv_i2l K.1 K.2.1 dc_Mo_resampledAt_104 rfl ?_
            refine lv_lload K.1 K.2.1 dc_Mo_resampledAt_105 (lv_at hl 0 rfl) ?_
            refine lv_lmul K.1 K.2.1 dc_Mo_resampledAt_107 ?_
            refine lv_ladd K.1 K.2.1 dc_Mo_resampledAt_108 ?_
            refine lv_topl (fun v6 e_v6 => ?_)
            refine lv_lstore K.1 K.2.1 dc_Mo_resampledAt_109 hl (by decide) rfl (fun ls hl => ?_)
            have hl : lv_has ls 14 [(6, .long v6), (12, .long 0), (11, .int 0), (10, .int v2), (9, .int v1), (0, .ref h), (1, .int (nI u)), (2, .int (nI d)), (3, .int (nI ii)), (4, .int (nI xs.length)), (5, .int (nI (rs_r u d))), (8, .int (nI k))] := hl
            refine lv_iinc (v := nI (k + 1)) K.1 K.2.1 dc_Mo_resampledAt_111 hl (k := 11) rfl (nI_1 k) (by decide) rfl (fun ls hl => ?_)
            have hl : lv_has ls 14 [(8, .int (nI (k + 1))), (6, .long v6), (12, .long 0), (11, .int 0), (10, .int v2), (9, .int v1), (0, .ref h), (1, .int (nI u)), (2, .int (nI d)), (3, .int (nI ii)), (4, .int (nI xs.length)), (5, .int (nI (rs_r u d)))] := hl
            refine lv_goto (tgt := 18) K.1 K.2.1 dc_Mo_resampledAt_114 rfl ?_
            exact ih18 (k + 1, v6) _ _ _ (by show 2 * rs_r u d - 1 - (k + 1) < 2 * rs_r u d - 1 - k; omega) ⟨(mo_rst hU hxi hk hI18 hf hz e_v6), lv_sub hl [6, 7, 8, 9, 10, 11, 1, 0] rfl, hP, hD, hS⟩
        · skip
          refine lv_iconst (v := 1) K.1 K.2.1 dc_Mo_resampledAt_58 (by decide) ?_
          refine lv_goto (tgt := 63) K.1 K.2.1 dc_Mo_resampledAt_59 rfl ?_
          refine lv_istore K.1 K.2.1 dc_Mo_resampledAt_63 hl (by decide) rfl (fun ls hl => ?_)
          have hl : lv_has ls 14 [(11, .int 1), (10, .int v2), (9, .int v1), (0, .ref h), (1, .int (nI u)), (2, .int (nI d)), (3, .int (nI ii)), (4, .int (nI xs.length)), (5, .int (nI (rs_r u d))), (6, .long sm), (8, .int (nI k))] := hl
          refine lv_iload K.1 K.2.1 dc_Mo_resampledAt_65 (lv_at hl 0 rfl) ?_
          refine lv_if_eq (tgt := 83) K.1 K.2.1 dc_Mo_resampledAt_67 rfl (fun b67 => absurd b67 (by decide)) (fun b67 => ?_)
          refine lv_aload_n K.1 K.2.1 dc_Mo_resampledAt_70 rfl (lv_at hl 3 rfl) ?_
          refine lv_iload K.1 K.2.1 dc_Mo_resampledAt_71 (lv_at hl 1 rfl) ?_
          refine lv_iload_n K.1 K.2.1 dc_Mo_resampledAt_73 rfl (lv_at hl 4 rfl) ?_
          refine lv_idiv K.1 K.2.1 dc_Mo_resampledAt_74 (nI_ne0 (by have := hU.2.2.2.1; omega) (by have := hU.2.2.2.1; omega)) ?_
          refine lv_iload K.1 K.2.1 dc_Mo_resampledAt_75 (lv_at hl 7 rfl) ?_
          have hc := fq_cut.of (wc := [(h, .inr (12, [.int (nI rm), .int (fq_b sd), .int (nI ns), .ref aK, .ref aN, .int (nI iw), .int (nI ow), .int (fq_b ih), .int (fq_b oh), .ref aB, .int (nI ca), .int (nI us), .int (fq_b cl), .int (fq_b fl), .ref aS, .int (nI tk), .ref aL, .ref aX, .int (nI md), .int (nI gi), .int (nI su), .int (nI ps), .int (nI cs)])), (aK, .inl (cI, 5, .inl fK)), (aN, .inl (cI, 25, .inl fN)), (aB, .inl (cI, 120, .inl fB)), (aS, .inl (cI, 120, .inl fS)), (aL, .inl (cI, 2300, .inl fL)), (aX, .inl (cI, 2300, .inl fX))]) hP hD hS hA [0, 1, 2, 3, 4, 5, 6] (by decide) rfl
          refine fq_cl_ (wr := []) (fq_rV K hK hZ hS hc (ct_Mo_x l D cI cO tE h aK aN aB aS aL aX rm sd ns iw ow ih oh ca us cl fl tk md gi su ps cs fK fN fB fS fL fX (v2 / (nI u)) xs hL _) yk_Mo_x wd_951 wd_21 wd_949 0 rfl rfl rfl ⟨⟨rfl, rfl⟩, ⟨Nat.le_of_ble_eq_true rfl, Nat.le_of_ble_eq_true rfl⟩, ⟨Nat.le_of_ble_eq_true rfl, Nat.le_of_ble_eq_true rfl⟩⟩ hl.1 rfl (Nat.le_of_ble_eq_true rfl) dc_Mo_resampledAt_77) hP hD hS hc [0, 1, 2, 3, 4, 5, 6] [] rfl rfl (by decide) (by decide) (fun r3 w H locs hw3 hP hD hS => ?_)
          obtain ⟨rfl, hx1⟩ := hw3
          have hP : va_P D fq_cl ([(h, .inr (12, [.int (nI rm), .int (fq_b sd), .int (nI ns), .ref aK, .ref aN, .int (nI iw), .int (nI ow), .int (fq_b ih), .int (fq_b oh), .ref aB, .int (nI ca), .int (nI us), .int (fq_b cl), .int (fq_b fl), .ref aS, .int (nI tk), .ref aL, .ref aX, .int (nI md), .int (nI gi), .int (nI su), .int (nI ps), .int (nI cs)])), (aK, .inl (cI, 5, .inl fK)), (aN, .inl (cI, 25, .inl fN)), (aB, .inl (cI, 120, .inl fB)), (aS, .inl (cI, 120, .inl fS)), (aL, .inl (cI, 2300, .inl fL)), (aX, .inl (cI, 2300, .inl fX))]) _ := hP
          have hD : va_D A ([(h, .inr (12, [.int (nI rm), .int (fq_b sd), .int (nI ns), .ref aK, .ref aN, .int (nI iw), .int (nI ow), .int (fq_b ih), .int (fq_b oh), .ref aB, .int (nI ca), .int (nI us), .int (fq_b cl), .int (fq_b fl), .ref aS, .int (nI tk), .ref aL, .ref aX, .int (nI md), .int (nI gi), .int (nI su), .int (nI ps), .int (nI cs)])), (aK, .inl (cI, 5, .inl fK)), (aN, .inl (cI, 25, .inl fN)), (aB, .inl (cI, 120, .inl fB)), (aS, .inl (cI, 120, .inl fS)), (aL, .inl (cI, 2300, .inl fL)), (aX, .inl (cI, 2300, .inl fX))]) := hD
          refine lv_goto (tgt := 84) K.1 K.2.1 dc_Mo_resampledAt_80 rfl ?_
          have hz : r3.toInt = fm_u (u : Int) xs ((ii : Int) * d - k) := mo_u2 hU.2.2.2.1 hpl b48 b55 hx1
          refine lv_lstore K.1 K.2.1 dc_Mo_resampledAt_84 hl (by decide) rfl (fun ls hl => ?_)
          have hl : lv_has ls 14 [(12, .long r3), (11, .int 1), (10, .int v2), (9, .int v1), (0, .ref h), (1, .int (nI u)), (2, .int (nI d)), (3, .int (nI ii)), (4, .int (nI xs.length)), (5, .int (nI (rs_r u d))), (6, .long sm), (8, .int (nI k))] := hl
          refine lv_lload K.1 K.2.1 dc_Mo_resampledAt_86 (lv_at hl 10 rfl) ?_
          refine lv_iload K.1 K.2.1 dc_Mo_resampledAt_88 (lv_at hl 9 rfl) ?_
          refine lv_iload K.1 K.2.1 dc_Mo_resampledAt_90 (lv_at hl 3 rfl) ?_
          refine lv_if_ge (tgt := 101) K.1 K.2.1 dc_Mo_resampledAt_92 rfl (fun b92 => ?_) (fun b92 => ?_)
          · skip
            refine lv_iload K.1 K.2.1 dc_Mo_resampledAt_101 (lv_at hl 3 rfl) ?_
            refine lv_isub K.1 K.2.1 dc_Mo_resampledAt_103 ?_
            have hf : ((nI (rs_r u d)) - v1).toInt = fm_far (rs_r u d : Int) k := mo_f1 hrb hk e_v1 b92
            refine lv_i2l K.1 K.2.1 dc_Mo_resampledAt_104 rfl ?_
            refine lv_lload K.1 K.2.1 dc_Mo_resampledAt_105 (lv_at hl 0 rfl) ?_
            refine lv_lmul K.1 K.2.1 dc_Mo_resampledAt_107 ?_
            refine lv_ladd K.1 K.2.1 dc_Mo_resampledAt_108 ?_
            refine lv_topl (fun v7 e_v7 => ?_)
            refine lv_lstore K.1 K.2.1 dc_Mo_resampledAt_109 hl (by decide) rfl (fun ls hl => ?_)
            have hl : lv_has ls 14 [(6, .long v7), (12, .long r3), (11, .int 1), (10, .int v2), (9, .int v1), (0, .ref h), (1, .int (nI u)), (2, .int (nI d)), (3, .int (nI ii)), (4, .int (nI xs.length)), (5, .int (nI (rs_r u d))), (8, .int (nI k))] := hl
            refine lv_iinc (v := nI (k + 1)) K.1 K.2.1 dc_Mo_resampledAt_111 hl (k := 11) rfl (nI_1 k) (by decide) rfl (fun ls hl => ?_)
            have hl : lv_has ls 14 [(8, .int (nI (k + 1))), (6, .long v7), (12, .long r3), (11, .int 1), (10, .int v2), (9, .int v1), (0, .ref h), (1, .int (nI u)), (2, .int (nI d)), (3, .int (nI ii)), (4, .int (nI xs.length)), (5, .int (nI (rs_r u d)))] := hl
            refine lv_goto (tgt := 18) K.1 K.2.1 dc_Mo_resampledAt_114 rfl ?_
            exact ih18 (k + 1, v7) _ _ _ (by show 2 * rs_r u d - 1 - (k + 1) < 2 * rs_r u d - 1 - k; omega) ⟨(mo_rst hU hxi hk hI18 hf hz e_v7), lv_sub hl [6, 7, 8, 9, 10, 11, 1, 0] rfl, hP, hD, hS⟩
          · skip
            refine lv_iload K.1 K.2.1 dc_Mo_resampledAt_95 (lv_at hl 3 rfl) ?_
            refine lv_ineg K.1 K.2.1 dc_Mo_resampledAt_97 ?_
            refine lv_goto (tgt := 103) K.1 K.2.1 dc_Mo_resampledAt_98 rfl ?_
            refine lv_isub K.1 K.2.1 dc_Mo_resampledAt_103 ?_
            have hf : ((nI (rs_r u d)) - (-v1)).toInt = fm_far (rs_r u d : Int) k := mo_f2 hrb hk e_v1 b92
            refine lv_i2l K.1 K.2.1 dc_Mo_resampledAt_104 rfl ?_
            refine lv_lload K.1 K.2.1 dc_Mo_resampledAt_105 (lv_at hl 0 rfl) ?_
            refine lv_lmul K.1 K.2.1 dc_Mo_resampledAt_107 ?_
            refine lv_ladd K.1 K.2.1 dc_Mo_resampledAt_108 ?_
            refine lv_topl (fun v8 e_v8 => ?_)
            refine lv_lstore K.1 K.2.1 dc_Mo_resampledAt_109 hl (by decide) rfl (fun ls hl => ?_)
            have hl : lv_has ls 14 [(6, .long v8), (12, .long r3), (11, .int 1), (10, .int v2), (9, .int v1), (0, .ref h), (1, .int (nI u)), (2, .int (nI d)), (3, .int (nI ii)), (4, .int (nI xs.length)), (5, .int (nI (rs_r u d))), (8, .int (nI k))] := hl
            refine lv_iinc (v := nI (k + 1)) K.1 K.2.1 dc_Mo_resampledAt_111 hl (k := 11) rfl (nI_1 k) (by decide) rfl (fun ls hl => ?_)
            have hl : lv_has ls 14 [(8, .int (nI (k + 1))), (6, .long v8), (12, .long r3), (11, .int 1), (10, .int v2), (9, .int v1), (0, .ref h), (1, .int (nI u)), (2, .int (nI d)), (3, .int (nI ii)), (4, .int (nI xs.length)), (5, .int (nI (rs_r u d)))] := hl
            refine lv_goto (tgt := 18) K.1 K.2.1 dc_Mo_resampledAt_114 rfl ?_
            exact ih18 (k + 1, v8) _ _ _ (by show 2 * rs_r u d - 1 - (k + 1) < 2 * rs_r u d - 1 - k; omega) ⟨(mo_rst hU hxi hk hI18 hf hz e_v8), lv_sub hl [6, 7, 8, 9, 10, 11, 1, 0] rfl, hP, hD, hS⟩
  · skip
    refine lv_iload_n K.1 K.2.1 dc_Mo_resampledAt_5 rfl (lv_at hl 1 rfl) ?_
    refine lv_goto (tgt := 10) K.1 K.2.1 dc_Mo_resampledAt_6 rfl ?_
    refine fq_asi (y := nI (rs_r u d)) (mo_mx2 hU.2.2.2.1 hU.2.2.2.2 b2) ?_
    refine lv_istore K.1 K.2.1 dc_Mo_resampledAt_10 hl (by decide) rfl (fun ls hl => ?_)
    have hl : lv_has ls 14 [(5, .int (nI (rs_r u d))), (0, .ref h), (1, .int (nI u)), (2, .int (nI d)), (3, .int (nI ii)), (4, .int (nI xs.length))] := hl
    refine lv_lconst (v := 0) K.1 K.2.1 dc_Mo_resampledAt_12 (by decide) ?_
    refine lv_lstore K.1 K.2.1 dc_Mo_resampledAt_13 hl (by decide) rfl (fun ls hl => ?_)
    have hl : lv_has ls 14 [(6, .long 0), (5, .int (nI (rs_r u d))), (0, .ref h), (1, .int (nI u)), (2, .int (nI d)), (3, .int (nI ii)), (4, .int (nI xs.length))] := hl
    refine lv_iconst (v := 0) K.1 K.2.1 dc_Mo_resampledAt_15 (by decide) ?_
    refine lv_istore K.1 K.2.1 dc_Mo_resampledAt_16 hl (by decide) rfl (fun ls hl => ?_)
    have hl : lv_has ls 14 [(8, .int 0), (6, .long 0), (5, .int (nI (rs_r u d))), (0, .ref h), (1, .int (nI u)), (2, .int (nI d)), (3, .int (nI ii)), (4, .int (nI xs.length))] := hl
    refine fq_lp (σ := Nat × Int64) (fun x => 2 * rs_r u d - 1 - x.1) (fun x H locs ls => (x.1 ≤ 2 * rs_r u d - 1 ∧ x.2.toInt = fm_sum (fun kj => fm_far (rs_r u d : Int) kj * fm_u (u : Int) xs ((ii : Int) * d - kj)) x.1) ∧ lv_has ls 14 [(0, .ref h), (1, .int (nI u)), (2, .int (nI d)), (3, .int (nI ii)), (4, .int (nI xs.length)), (5, .int (nI (rs_r u d))), (6, .long x.2), (8, .int (nI x.1))] ∧ va_P D fq_cl ([(h, .inr (12, [.int (nI rm), .int (fq_b sd), .int (nI ns), .ref aK, .ref aN, .int (nI iw), .int (nI ow), .int (fq_b ih), .int (fq_b oh), .ref aB, .int (nI ca), .int (nI us), .int (fq_b cl), .int (fq_b fl), .ref aS, .int (nI tk), .ref aL, .ref aX, .int (nI md), .int (nI gi), .int (nI su), .int (nI ps), .int (nI cs)])), (aK, .inl (cI, 5, .inl fK)), (aN, .inl (cI, 25, .inl fN)), (aB, .inl (cI, 120, .inl fB)), (aS, .inl (cI, 120, .inl fS)), (aL, .inl (cI, 2300, .inl fL)), (aX, .inl (cI, 2300, .inl fX))]) H ∧ va_D A ([(h, .inr (12, [.int (nI rm), .int (fq_b sd), .int (nI ns), .ref aK, .ref aN, .int (nI iw), .int (nI ow), .int (fq_b ih), .int (fq_b oh), .ref aB, .int (nI ca), .int (nI us), .int (fq_b cl), .int (fq_b fl), .ref aS, .int (nI tk), .ref aL, .ref aX, .int (nI md), .int (nI gi), .int (nI su), .int (nI ps), .int (nI cs)])), (aK, .inl (cI, 5, .inl fK)), (aN, .inl (cI, 25, .inl fN)), (aB, .inl (cI, 120, .inl fB)), (aS, .inl (cI, 120, .inl fS)), (aL, .inl (cI, 2300, .inl fL)), (aX, .inl (cI, 2300, .inl fX))]) ∧ va_S A s.heap H locs) ?_ (0, 0) _ _ _ ⟨⟨Nat.zero_le _, rfl⟩, lv_sub hl [3, 4, 5, 6, 7, 2, 1, 0] rfl, hP, hD, hS⟩
    rintro ⟨k, sm⟩ H locs ls ⟨hI18, hl, hP, hD, hS⟩ ih18
    have hI18 : k ≤ 2 * rs_r u d - 1 ∧ sm.toInt = fm_sum (fun kj => fm_far (rs_r u d : Int) kj * fm_u (u : Int) xs ((ii : Int) * d - kj)) k := hI18
    have hl : lv_has ls 14 [(0, .ref h), (1, .int (nI u)), (2, .int (nI d)), (3, .int (nI ii)), (4, .int (nI xs.length)), (5, .int (nI (rs_r u d))), (6, .long sm), (8, .int (nI k))] := hl
    have hP : va_P D fq_cl ([(h, .inr (12, [.int (nI rm), .int (fq_b sd), .int (nI ns), .ref aK, .ref aN, .int (nI iw), .int (nI ow), .int (fq_b ih), .int (fq_b oh), .ref aB, .int (nI ca), .int (nI us), .int (fq_b cl), .int (fq_b fl), .ref aS, .int (nI tk), .ref aL, .ref aX, .int (nI md), .int (nI gi), .int (nI su), .int (nI ps), .int (nI cs)])), (aK, .inl (cI, 5, .inl fK)), (aN, .inl (cI, 25, .inl fN)), (aB, .inl (cI, 120, .inl fB)), (aS, .inl (cI, 120, .inl fS)), (aL, .inl (cI, 2300, .inl fL)), (aX, .inl (cI, 2300, .inl fX))]) _ := hP
    have hD : va_D A ([(h, .inr (12, [.int (nI rm), .int (fq_b sd), .int (nI ns), .ref aK, .ref aN, .int (nI iw), .int (nI ow), .int (fq_b ih), .int (fq_b oh), .ref aB, .int (nI ca), .int (nI us), .int (fq_b cl), .int (fq_b fl), .ref aS, .int (nI tk), .ref aL, .ref aX, .int (nI md), .int (nI gi), .int (nI su), .int (nI ps), .int (nI cs)])), (aK, .inl (cI, 5, .inl fK)), (aN, .inl (cI, 25, .inl fN)), (aB, .inl (cI, 120, .inl fB)), (aS, .inl (cI, 120, .inl fS)), (aL, .inl (cI, 2300, .inl fL)), (aX, .inl (cI, 2300, .inl fX))]) := hD
    refine lv_iload K.1 K.2.1 dc_Mo_resampledAt_18 (lv_at hl 7 rfl) ?_
    refine lv_iconst (v := 2) K.1 K.2.1 dc_Mo_resampledAt_20 (by decide) ?_
    refine lv_iload K.1 K.2.1 dc_Mo_resampledAt_21 (lv_at hl 5 rfl) ?_
    refine lv_imul K.1 K.2.1 dc_Mo_resampledAt_23 ?_
    refine fq_asi (y := nI (2 * rs_r u d)) (pk_mul 2 _) ?_
    refine lv_iconst (v := 2) K.1 K.2.1 dc_Mo_resampledAt_24 (by decide) ?_
    refine lv_isub K.1 K.2.1 dc_Mo_resampledAt_25 ?_
    refine fq_asi (y := nI (2 * rs_r u d - 2)) (pk_sub (a := 2 * rs_r u d) (b := 2) (by omega)) ?_
    refine lv_icmp_gt (tgt := 117) K.1 K.2.1 dc_Mo_resampledAt_26 rfl (fun b26 => ?_) (fun b26 => ?_)
    · skip
      have hk : k = 2 * rs_r u d - 1 := mo_kg hI18.1 hrb b26
      refine lv_iload_n K.1 K.2.1 dc_Mo_resampledAt_117 rfl (lv_at hl 1 rfl) ?_
      refine lv_i2l K.1 K.2.1 dc_Mo_resampledAt_118 rfl ?_
      refine lv_lload K.1 K.2.1 dc_Mo_resampledAt_119 (lv_at hl 6 rfl) ?_
      refine lv_lmul K.1 K.2.1 dc_Mo_resampledAt_121 ?_
      refine lv_iload K.1 K.2.1 dc_Mo_resampledAt_122 (lv_at hl 5 rfl) ?_
      refine lv_i2l K.1 K.2.1 dc_Mo_resampledAt_124 rfl ?_
      refine lv_iload K.1 K.2.1 dc_Mo_resampledAt_125 (lv_at hl 5 rfl) ?_
      refine lv_i2l K.1 K.2.1 dc_Mo_resampledAt_127 rfl ?_
      refine lv_lmul K.1 K.2.1 dc_Mo_resampledAt_128 ?_
      have hc := fq_cut.of (wc := []) hP hD hS hA [] (by decide) rfl
      refine fq_cl_ (wr := [(h, .inr (12, [.int (nI rm), .int (fq_b sd), .int (nI ns), .ref aK, .ref aN, .int (nI iw), .int (nI ow), .int (fq_b ih), .int (fq_b oh), .ref aB, .int (nI ca), .int (nI us), .int (fq_b cl), .int (fq_b fl), .ref aS, .int (nI tk), .ref aL, .ref aX, .int (nI md), .int (nI gi), .int (nI su), .int (nI ps), .int (nI cs)])), (aK, .inl (cI, 5, .inl fK)), (aN, .inl (cI, 25, .inl fN)), (aB, .inl (cI, 120, .inl fB)), (aS, .inl (cI, 120, .inl fS)), (aL, .inl (cI, 2300, .inl fL)), (aX, .inl (cI, 2300, .inl fX))]) (fq_rS K hK hZ hS hc (ct_Mo_floor l D cI cO tE (((nI u).toInt64) * sm) (((nI (rs_r u d)).toInt64) * ((nI (rs_r u d)).toInt64)) (rs_pos hrb) _) yk_Mo_floor wd_868 wd_867 ⟨⟨rfl, rfl⟩, ⟨Nat.le_of_ble_eq_true rfl, Nat.le_of_ble_eq_true rfl⟩, ⟨Nat.le_of_ble_eq_true rfl, Nat.le_of_ble_eq_true rfl⟩⟩ hl.1 rfl (Nat.le_of_ble_eq_true rfl) dc_Mo_resampledAt_129) hP hD hS hc [] [0, 1, 2, 3, 4, 5, 6] rfl rfl (by decide) (by decide) (fun r4 w H locs hw4 hP hD hS => ?_)
      obtain ⟨rfl, hd3⟩ := hw4
      have hP : va_P D fq_cl ([(h, .inr (12, [.int (nI rm), .int (fq_b sd), .int (nI ns), .ref aK, .ref aN, .int (nI iw), .int (nI ow), .int (fq_b ih), .int (fq_b oh), .ref aB, .int (nI ca), .int (nI us), .int (fq_b cl), .int (fq_b fl), .ref aS, .int (nI tk), .ref aL, .ref aX, .int (nI md), .int (nI gi), .int (nI su), .int (nI ps), .int (nI cs)])), (aK, .inl (cI, 5, .inl fK)), (aN, .inl (cI, 25, .inl fN)), (aB, .inl (cI, 120, .inl fB)), (aS, .inl (cI, 120, .inl fS)), (aL, .inl (cI, 2300, .inl fL)), (aX, .inl (cI, 2300, .inl fX))]) _ := hP
      have hD : va_D A ([(h, .inr (12, [.int (nI rm), .int (fq_b sd), .int (nI ns), .ref aK, .ref aN, .int (nI iw), .int (nI ow), .int (fq_b ih), .int (fq_b oh), .ref aB, .int (nI ca), .int (nI us), .int (fq_b cl), .int (fq_b fl), .ref aS, .int (nI tk), .ref aL, .ref aX, .int (nI md), .int (nI gi), .int (nI su), .int (nI ps), .int (nI cs)])), (aK, .inl (cI, 5, .inl fK)), (aN, .inl (cI, 25, .inl fN)), (aB, .inl (cI, 120, .inl fB)), (aS, .inl (cI, 120, .inl fS)), (aL, .inl (cI, 2300, .inl fL)), (aX, .inl (cI, 2300, .inl fX))]) := hD
      have hc := fq_cut.of (wc := []) hP hD hS hA [] (by decide) rfl
      refine fq_ci (wr := [(h, .inr (12, [.int (nI rm), .int (fq_b sd), .int (nI ns), .ref aK, .ref aN, .int (nI iw), .int (nI ow), .int (fq_b ih), .int (fq_b oh), .ref aB, .int (nI ca), .int (nI us), .int (fq_b cl), .int (fq_b fl), .ref aS, .int (nI tk), .ref aL, .ref aX, .int (nI md), .int (nI gi), .int (nI su), .int (nI ps), .int (nI cs)])), (aK, .inl (cI, 5, .inl fK)), (aN, .inl (cI, 25, .inl fN)), (aB, .inl (cI, 120, .inl fB)), (aS, .inl (cI, 120, .inl fS)), (aL, .inl (cI, 2300, .inl fL)), (aX, .inl (cI, 2300, .inl fX))]) (fq_rS K hK hZ hS hc (ct_Mo_clipped l D cI cO tE r4 _) yk_Mo_clipped wd_954 wd_953 ⟨⟨rfl, rfl⟩, ⟨Nat.le_of_ble_eq_true rfl, Nat.le_of_ble_eq_true rfl⟩, ⟨Nat.le_of_ble_eq_true rfl, Nat.le_of_ble_eq_true rfl⟩⟩ hl.1 rfl (Nat.le_of_ble_eq_true rfl) dc_Mo_resampledAt_132) hP hD hS hc [] [0, 1, 2, 3, 4, 5, 6] rfl rfl (by decide) (by decide) (fun r5 w H locs hw5 hP hD hS => ?_)
      obtain ⟨rfl, hd4⟩ := hw5
      have hP : va_P D fq_cl ([(h, .inr (12, [.int (nI rm), .int (fq_b sd), .int (nI ns), .ref aK, .ref aN, .int (nI iw), .int (nI ow), .int (fq_b ih), .int (fq_b oh), .ref aB, .int (nI ca), .int (nI us), .int (fq_b cl), .int (fq_b fl), .ref aS, .int (nI tk), .ref aL, .ref aX, .int (nI md), .int (nI gi), .int (nI su), .int (nI ps), .int (nI cs)])), (aK, .inl (cI, 5, .inl fK)), (aN, .inl (cI, 25, .inl fN)), (aB, .inl (cI, 120, .inl fB)), (aS, .inl (cI, 120, .inl fS)), (aL, .inl (cI, 2300, .inl fL)), (aX, .inl (cI, 2300, .inl fX))]) _ := hP
      have hD : va_D A ([(h, .inr (12, [.int (nI rm), .int (fq_b sd), .int (nI ns), .ref aK, .ref aN, .int (nI iw), .int (nI ow), .int (fq_b ih), .int (fq_b oh), .ref aB, .int (nI ca), .int (nI us), .int (fq_b cl), .int (fq_b fl), .ref aS, .int (nI tk), .ref aL, .ref aX, .int (nI md), .int (nI gi), .int (nI su), .int (nI ps), .int (nI cs)])), (aK, .inl (cI, 5, .inl fK)), (aN, .inl (cI, 25, .inl fN)), (aB, .inl (cI, 120, .inl fB)), (aS, .inl (cI, 120, .inl fS)), (aL, .inl (cI, 2300, .inl fL)), (aX, .inl (cI, 2300, .inl fX))]) := hD
      exact fq_reti K hret hlk hS hP hD ⟨rfl, mo_rv hU hxi hk hI18 hd3 hd4⟩ dc_Mo_resampledAt_135 (Nat.le_of_ble_eq_true rfl) (Nat.le_of_ble_eq_true rfl)
    · skip
      have hk : k < 2 * rs_r u d - 1 := mo_kl hI18.1 hrb b26
      refine lv_iload K.1 K.2.1 dc_Mo_resampledAt_29 (lv_at hl 7 rfl) ?_
      refine lv_iload K.1 K.2.1 dc_Mo_resampledAt_31 (lv_at hl 5 rfl) ?_
      refine lv_iconst (v := 1) K.1 K.2.1 dc_Mo_resampledAt_33 (by decide) ?_
      refine lv_isub K.1 K.2.1 dc_Mo_resampledAt_34 ?_
      refine lv_isub K.1 K.2.1 dc_Mo_resampledAt_35 ?_
      refine lv_topi (fun v9 e_v9 => ?_)
      refine lv_istore K.1 K.2.1 dc_Mo_resampledAt_36 hl (by decide) rfl (fun ls hl => ?_)
      have hl : lv_has ls 14 [(9, .int v9), (0, .ref h), (1, .int (nI u)), (2, .int (nI d)), (3, .int (nI ii)), (4, .int (nI xs.length)), (5, .int (nI (rs_r u d))), (6, .long sm), (8, .int (nI k))] := hl
      refine lv_iload_n K.1 K.2.1 dc_Mo_resampledAt_38 rfl (lv_at hl 4 rfl) ?_
      refine lv_iload_n K.1 K.2.1 dc_Mo_resampledAt_39 rfl (lv_at hl 3 rfl) ?_
      refine lv_imul K.1 K.2.1 dc_Mo_resampledAt_40 ?_
      refine fq_asi (y := nI (ii * d)) (pk_mul ii d) ?_
      refine lv_iload K.1 K.2.1 dc_Mo_resampledAt_41 (lv_at hl 8 rfl) ?_
      refine lv_isub K.1 K.2.1 dc_Mo_resampledAt_43 ?_
      refine lv_topi (fun v10 e_v10 => ?_)
      refine lv_istore K.1 K.2.1 dc_Mo_resampledAt_44 hl (by decide) rfl (fun ls hl => ?_)
      have hl : lv_has ls 14 [(10, .int v10), (9, .int v9), (0, .ref h), (1, .int (nI u)), (2, .int (nI d)), (3, .int (nI ii)), (4, .int (nI xs.length)), (5, .int (nI (rs_r u d))), (6, .long sm), (8, .int (nI k))] := hl
      have hpl : v10.toInt = (ii : Int) * d - k := mo_pl hi hU.2.2.2.2 hk hrb e_v10
      refine lv_iload K.1 K.2.1 dc_Mo_resampledAt_46 (lv_at hl 0 rfl) ?_
      refine lv_if_lt (tgt := 62) K.1 K.2.1 dc_Mo_resampledAt_48 rfl (fun b48 => ?_) (fun b48 => ?_)
      · skip
        refine lv_iconst (v := 0) K.1 K.2.1 dc_Mo_resampledAt_62 (by decide) ?_
        refine lv_istore K.1 K.2.1 dc_Mo_resampledAt_63 hl (by decide) rfl (fun ls hl => ?_)
        have hl : lv_has ls 14 [(11, .int 0), (10, .int v10), (9, .int v9), (0, .ref h), (1, .int (nI u)), (2, .int (nI d)), (3, .int (nI ii)), (4, .int (nI xs.length)), (5, .int (nI (rs_r u d))), (6, .long sm), (8, .int (nI k))] := hl
        refine lv_iload K.1 K.2.1 dc_Mo_resampledAt_65 (lv_at hl 0 rfl) ?_
        refine lv_if_eq (tgt := 83) K.1 K.2.1 dc_Mo_resampledAt_67 rfl (fun b67 => ?_) (fun b67 => absurd rfl b67)
        refine lv_lconst (v := 0) K.1 K.2.1 dc_Mo_resampledAt_83 (by decide) ?_
        have hz : (0 : Int64).toInt = fm_u (u : Int) xs ((ii : Int) * d - k) := by first | exact mo_u0 hpl b48 | exact mo_u1 hU.2.2.2.1 hpl b55
        refine lv_lstore K.1 K.2.1 dc_Mo_resampledAt_84 hl (by decide) rfl (fun ls hl => ?_)
        have hl : lv_has ls 14 [(12, .long 0), (11, .int 0), (10, .int v10), (9, .int v9), (0, .ref h), (1, .int (nI u)), (2, .int (nI d)), (3, .int (nI ii)), (4, .int (nI xs.length)), (5, .int (nI (rs_r u d))), (6, .long sm), (8, .int (nI k))] := hl
        refine lv_lload K.1 K.2.1 dc_Mo_resampledAt_86 (lv_at hl 10 rfl) ?_
        refine lv_iload K.1 K.2.1 dc_Mo_resampledAt_88 (lv_at hl 9 rfl) ?_
        refine lv_iload K.1 K.2.1 dc_Mo_resampledAt_90 (lv_at hl 3 rfl) ?_
        refine lv_if_ge (tgt := 101) K.1 K.2.1 dc_Mo_resampledAt_92 rfl (fun b92 => ?_) (fun b92 => ?_)
        · skip
          refine lv_iload K.1 K.2.1 dc_Mo_resampledAt_101 (lv_at hl 3 rfl) ?_
          refine lv_isub K.1 K.2.1 dc_Mo_resampledAt_103 ?_
          have hf : ((nI (rs_r u d)) - v9).toInt = fm_far (rs_r u d : Int) k := mo_f1 hrb hk e_v9 b92
          refine lv_i2l K.1 K.2.1 dc_Mo_resampledAt_104 rfl ?_
          refine lv_lload K.1 K.2.1 dc_Mo_resampledAt_105 (lv_at hl 0 rfl) ?_
          refine lv_lmul K.1 K.2.1 dc_Mo_resampledAt_107 ?_
          refine lv_ladd K.1 K.2.1 dc_Mo_resampledAt_108 ?_
          refine lv_topl (fun v11 e_v11 => ?_)
          refine lv_lstore K.1 K.2.1 dc_Mo_resampledAt_109 hl (by decide) rfl (fun ls hl => ?_)
          have hl : lv_has ls 14 [(6, .long v11), (12, .long 0), (11, .int 0), (10, .int v10), (9, .int v9), (0, .ref h), (1, .int (nI u)), (2, .int (nI d)), (3, .int (nI ii)), (4, .int (nI xs.length)), (5, .int (nI (rs_r u d))), (8, .int (nI k))] := hl
          refine lv_iinc (v := nI (k + 1)) K.1 K.2.1 dc_Mo_resampledAt_111 hl (k := 11) rfl (nI_1 k) (by decide) rfl (fun ls hl => ?_)
          have hl : lv_has ls 14 [(8, .int (nI (k + 1))), (6, .long v11), (12, .long 0), (11, .int 0), (10, .int v10), (9, .int v9), (0, .ref h), (1, .int (nI u)), (2, .int (nI d)), (3, .int (nI ii)), (4, .int (nI xs.length)), (5, .int (nI (rs_r u d)))] := hl
          refine lv_goto (tgt := 18) K.1 K.2.1 dc_Mo_resampledAt_114 rfl ?_
          exact ih18 (k + 1, v11) _ _ _ (by show 2 * rs_r u d - 1 - (k + 1) < 2 * rs_r u d - 1 - k; omega) ⟨(mo_rst hU hxi hk hI18 hf hz e_v11), lv_sub hl [6, 7, 8, 9, 10, 11, 1, 0] rfl, hP, hD, hS⟩
        · skip
          refine lv_iload K.1 K.2.1 dc_Mo_resampledAt_95 (lv_at hl 3 rfl) ?_
          refine lv_ineg K.1 K.2.1 dc_Mo_resampledAt_97 ?_
          refine lv_goto (tgt := 103) K.1 K.2.1 dc_Mo_resampledAt_98 rfl ?_
          refine lv_isub K.1 K.2.1 dc_Mo_resampledAt_103 ?_
          have hf : ((nI (rs_r u d)) - (-v9)).toInt = fm_far (rs_r u d : Int) k := mo_f2 hrb hk e_v9 b92
          refine lv_i2l K.1 K.2.1 dc_Mo_resampledAt_104 rfl ?_
          refine lv_lload K.1 K.2.1 dc_Mo_resampledAt_105 (lv_at hl 0 rfl) ?_
          refine lv_lmul K.1 K.2.1 dc_Mo_resampledAt_107 ?_
          refine lv_ladd K.1 K.2.1 dc_Mo_resampledAt_108 ?_
          refine lv_topl (fun v12 e_v12 => ?_)
          refine lv_lstore K.1 K.2.1 dc_Mo_resampledAt_109 hl (by decide) rfl (fun ls hl => ?_)
          have hl : lv_has ls 14 [(6, .long v12), (12, .long 0), (11, .int 0), (10, .int v10), (9, .int v9), (0, .ref h), (1, .int (nI u)), (2, .int (nI d)), (3, .int (nI ii)), (4, .int (nI xs.length)), (5, .int (nI (rs_r u d))), (8, .int (nI k))] := hl
          refine lv_iinc (v := nI (k + 1)) K.1 K.2.1 dc_Mo_resampledAt_111 hl (k := 11) rfl (nI_1 k) (by decide) rfl (fun ls hl => ?_)
          have hl : lv_has ls 14 [(8, .int (nI (k + 1))), (6, .long v12), (12, .long 0), (11, .int 0), (10, .int v10), (9, .int v9), (0, .ref h), (1, .int (nI u)), (2, .int (nI d)), (3, .int (nI ii)), (4, .int (nI xs.length)), (5, .int (nI (rs_r u d)))] := hl
          refine lv_goto (tgt := 18) K.1 K.2.1 dc_Mo_resampledAt_114 rfl ?_
          exact ih18 (k + 1, v12) _ _ _ (by show 2 * rs_r u d - 1 - (k + 1) < 2 * rs_r u d - 1 - k; omega) ⟨(mo_rst hU hxi hk hI18 hf hz e_v12), lv_sub hl [6, 7, 8, 9, 10, 11, 1, 0] rfl, hP, hD, hS⟩
      · skip
        refine lv_iload K.1 K.2.1 dc_Mo_resampledAt_51 (lv_at hl 0 rfl) ?_
        refine lv_iload_n K.1 K.2.1 dc_Mo_resampledAt_53 rfl (lv_at hl 3 rfl) ?_
        refine lv_irem K.1 K.2.1 dc_Mo_resampledAt_54 (nI_ne0 (by have := hU.2.2.2.1; omega) (by have := hU.2.2.2.1; omega)) ?_
        refine lv_if_ne (tgt := 62) K.1 K.2.1 dc_Mo_resampledAt_55 rfl (fun b55 => ?_) (fun b55 => ?_)
        · skip
          refine lv_iconst (v := 0) K.1 K.2.1 dc_Mo_resampledAt_62 (by decide) ?_
          refine lv_istore K.1 K.2.1 dc_Mo_resampledAt_63 hl (by decide) rfl (fun ls hl => ?_)
          have hl : lv_has ls 14 [(11, .int 0), (10, .int v10), (9, .int v9), (0, .ref h), (1, .int (nI u)), (2, .int (nI d)), (3, .int (nI ii)), (4, .int (nI xs.length)), (5, .int (nI (rs_r u d))), (6, .long sm), (8, .int (nI k))] := hl
          refine lv_iload K.1 K.2.1 dc_Mo_resampledAt_65 (lv_at hl 0 rfl) ?_
          refine lv_if_eq (tgt := 83) K.1 K.2.1 dc_Mo_resampledAt_67 rfl (fun b67 => ?_) (fun b67 => absurd rfl b67)
          refine lv_lconst (v := 0) K.1 K.2.1 dc_Mo_resampledAt_83 (by decide) ?_
          have hz : (0 : Int64).toInt = fm_u (u : Int) xs ((ii : Int) * d - k) := by first | exact mo_u0 hpl b48 | exact mo_u1 hU.2.2.2.1 hpl b55
          refine lv_lstore K.1 K.2.1 dc_Mo_resampledAt_84 hl (by decide) rfl (fun ls hl => ?_)
          have hl : lv_has ls 14 [(12, .long 0), (11, .int 0), (10, .int v10), (9, .int v9), (0, .ref h), (1, .int (nI u)), (2, .int (nI d)), (3, .int (nI ii)), (4, .int (nI xs.length)), (5, .int (nI (rs_r u d))), (6, .long sm), (8, .int (nI k))] := hl
          refine lv_lload K.1 K.2.1 dc_Mo_resampledAt_86 (lv_at hl 10 rfl) ?_
          refine lv_iload K.1 K.2.1 dc_Mo_resampledAt_88 (lv_at hl 9 rfl) ?_
          refine lv_iload K.1 K.2.1 dc_Mo_resampledAt_90 (lv_at hl 3 rfl) ?_
          refine lv_if_ge (tgt := 101) K.1 K.2.1 dc_Mo_resampledAt_92 rfl (fun b92 => ?_) (fun b92 => ?_)
          · skip
            refine lv_iload K.1 K.2.1 dc_Mo_resampledAt_101 (lv_at hl 3 rfl) ?_
            refine lv_isub K.1 K.2.1 dc_Mo_resampledAt_103 ?_
            have hf : ((nI (rs_r u d)) - v9).toInt = fm_far (rs_r u d : Int) k := mo_f1 hrb hk e_v9 b92
            refine lv_i2l K.1 K.2.1 dc_Mo_resampledAt_104 rfl ?_
            refine lv_lload K.1 K.2.1 dc_Mo_resampledAt_105 (lv_at hl 0 rfl) ?_
            refine lv_lmul K.1 K.2.1 dc_Mo_resampledAt_107 ?_
            refine lv_ladd K.1 K.2.1 dc_Mo_resampledAt_108 ?_
            refine lv_topl (fun v13 e_v13 => ?_)
            refine lv_lstore K.1 K.2.1 dc_Mo_resampledAt_109 hl (by decide) rfl (fun ls hl => ?_)
            have hl : lv_has ls 14 [(6, .long v13), (12, .long 0), (11, .int 0), (10, .int v10), (9, .int v9), (0, .ref h), (1, .int (nI u)), (2, .int (nI d)), (3, .int (nI ii)), (4, .int (nI xs.length)), (5, .int (nI (rs_r u d))), (8, .int (nI k))] := hl
            refine lv_iinc (v := nI (k + 1)) K.1 K.2.1 dc_Mo_resampledAt_111 hl (k := 11) rfl (nI_1 k) (by decide) rfl (fun ls hl => ?_)
            have hl : lv_has ls 14 [(8, .int (nI (k + 1))), (6, .long v13), (12, .long 0), (11, .int 0), (10, .int v10), (9, .int v9), (0, .ref h), (1, .int (nI u)), (2, .int (nI d)), (3, .int (nI ii)), (4, .int (nI xs.length)), (5, .int (nI (rs_r u d)))] := hl
            refine lv_goto (tgt := 18) K.1 K.2.1 dc_Mo_resampledAt_114 rfl ?_
            exact ih18 (k + 1, v13) _ _ _ (by show 2 * rs_r u d - 1 - (k + 1) < 2 * rs_r u d - 1 - k; omega) ⟨(mo_rst hU hxi hk hI18 hf hz e_v13), lv_sub hl [6, 7, 8, 9, 10, 11, 1, 0] rfl, hP, hD, hS⟩
          · skip
            refine lv_iload K.1 K.2.1 dc_Mo_resampledAt_95 (lv_at hl 3 rfl) ?_
            refine lv_ineg K.1 K.2.1 dc_Mo_resampledAt_97 ?_
            refine lv_goto (tgt := 103) K.1 K.2.1 dc_Mo_resampledAt_98 rfl ?_
            refine lv_isub K.1 K.2.1 dc_Mo_resampledAt_103 ?_
            have hf : ((nI (rs_r u d)) - (-v9)).toInt = fm_far (rs_r u d : Int) k := mo_f2 hrb hk e_v9 b92
            refine lv_i2l K.1 K.2.1 dc_Mo_resampledAt_104 rfl ?_
            refine lv_lload K.1 K.2.1 dc_Mo_resampledAt_105 (lv_at hl 0 rfl) ?_
            refine lv_lmul K.1 K.2.1 dc_Mo_resampledAt_107 ?_
            refine lv_ladd K.1 K.2.1 dc_Mo_resampledAt_108 ?_
            refine lv_topl (fun v14 e_v14 => ?_)
            refine lv_lstore K.1 K.2.1 dc_Mo_resampledAt_109 hl (by decide) rfl (fun ls hl => ?_)
            have hl : lv_has ls 14 [(6, .long v14), (12, .long 0), (11, .int 0), (10, .int v10), (9, .int v9), (0, .ref h), (1, .int (nI u)), (2, .int (nI d)), (3, .int (nI ii)), (4, .int (nI xs.length)), (5, .int (nI (rs_r u d))), (8, .int (nI k))] := hl
            refine lv_iinc (v := nI (k + 1)) K.1 K.2.1 dc_Mo_resampledAt_111 hl (k := 11) rfl (nI_1 k) (by decide) rfl (fun ls hl => ?_)
            have hl : lv_has ls 14 [(8, .int (nI (k + 1))), (6, .long v14), (12, .long 0), (11, .int 0), (10, .int v10), (9, .int v9), (0, .ref h), (1, .int (nI u)), (2, .int (nI d)), (3, .int (nI ii)), (4, .int (nI xs.length)), (5, .int (nI (rs_r u d)))] := hl
            refine lv_goto (tgt := 18) K.1 K.2.1 dc_Mo_resampledAt_114 rfl ?_
            exact ih18 (k + 1, v14) _ _ _ (by show 2 * rs_r u d - 1 - (k + 1) < 2 * rs_r u d - 1 - k; omega) ⟨(mo_rst hU hxi hk hI18 hf hz e_v14), lv_sub hl [6, 7, 8, 9, 10, 11, 1, 0] rfl, hP, hD, hS⟩
        · skip
          refine lv_iconst (v := 1) K.1 K.2.1 dc_Mo_resampledAt_58 (by decide) ?_
          refine lv_goto (tgt := 63) K.1 K.2.1 dc_Mo_resampledAt_59 rfl ?_
          refine lv_istore K.1 K.2.1 dc_Mo_resampledAt_63 hl (by decide) rfl (fun ls hl => ?_)
          have hl : lv_has ls 14 [(11, .int 1), (10, .int v10), (9, .int v9), (0, .ref h), (1, .int (nI u)), (2, .int (nI d)), (3, .int (nI ii)), (4, .int (nI xs.length)), (5, .int (nI (rs_r u d))), (6, .long sm), (8, .int (nI k))] := hl
          refine lv_iload K.1 K.2.1 dc_Mo_resampledAt_65 (lv_at hl 0 rfl) ?_
          refine lv_if_eq (tgt := 83) K.1 K.2.1 dc_Mo_resampledAt_67 rfl (fun b67 => absurd b67 (by decide)) (fun b67 => ?_)
          refine lv_aload_n K.1 K.2.1 dc_Mo_resampledAt_70 rfl (lv_at hl 3 rfl) ?_
          refine lv_iload K.1 K.2.1 dc_Mo_resampledAt_71 (lv_at hl 1 rfl) ?_
          refine lv_iload_n K.1 K.2.1 dc_Mo_resampledAt_73 rfl (lv_at hl 4 rfl) ?_
          refine lv_idiv K.1 K.2.1 dc_Mo_resampledAt_74 (nI_ne0 (by have := hU.2.2.2.1; omega) (by have := hU.2.2.2.1; omega)) ?_
          refine lv_iload K.1 K.2.1 dc_Mo_resampledAt_75 (lv_at hl 7 rfl) ?_
          have hc := fq_cut.of (wc := [(h, .inr (12, [.int (nI rm), .int (fq_b sd), .int (nI ns), .ref aK, .ref aN, .int (nI iw), .int (nI ow), .int (fq_b ih), .int (fq_b oh), .ref aB, .int (nI ca), .int (nI us), .int (fq_b cl), .int (fq_b fl), .ref aS, .int (nI tk), .ref aL, .ref aX, .int (nI md), .int (nI gi), .int (nI su), .int (nI ps), .int (nI cs)])), (aK, .inl (cI, 5, .inl fK)), (aN, .inl (cI, 25, .inl fN)), (aB, .inl (cI, 120, .inl fB)), (aS, .inl (cI, 120, .inl fS)), (aL, .inl (cI, 2300, .inl fL)), (aX, .inl (cI, 2300, .inl fX))]) hP hD hS hA [0, 1, 2, 3, 4, 5, 6] (by decide) rfl
          refine fq_cl_ (wr := []) (fq_rV K hK hZ hS hc (ct_Mo_x l D cI cO tE h aK aN aB aS aL aX rm sd ns iw ow ih oh ca us cl fl tk md gi su ps cs fK fN fB fS fL fX (v10 / (nI u)) xs hL _) yk_Mo_x wd_951 wd_21 wd_949 0 rfl rfl rfl ⟨⟨rfl, rfl⟩, ⟨Nat.le_of_ble_eq_true rfl, Nat.le_of_ble_eq_true rfl⟩, ⟨Nat.le_of_ble_eq_true rfl, Nat.le_of_ble_eq_true rfl⟩⟩ hl.1 rfl (Nat.le_of_ble_eq_true rfl) dc_Mo_resampledAt_77) hP hD hS hc [0, 1, 2, 3, 4, 5, 6] [] rfl rfl (by decide) (by decide) (fun r6 w H locs hw6 hP hD hS => ?_)
          obtain ⟨rfl, hx2⟩ := hw6
          have hP : va_P D fq_cl ([(h, .inr (12, [.int (nI rm), .int (fq_b sd), .int (nI ns), .ref aK, .ref aN, .int (nI iw), .int (nI ow), .int (fq_b ih), .int (fq_b oh), .ref aB, .int (nI ca), .int (nI us), .int (fq_b cl), .int (fq_b fl), .ref aS, .int (nI tk), .ref aL, .ref aX, .int (nI md), .int (nI gi), .int (nI su), .int (nI ps), .int (nI cs)])), (aK, .inl (cI, 5, .inl fK)), (aN, .inl (cI, 25, .inl fN)), (aB, .inl (cI, 120, .inl fB)), (aS, .inl (cI, 120, .inl fS)), (aL, .inl (cI, 2300, .inl fL)), (aX, .inl (cI, 2300, .inl fX))]) _ := hP
          have hD : va_D A ([(h, .inr (12, [.int (nI rm), .int (fq_b sd), .int (nI ns), .ref aK, .ref aN, .int (nI iw), .int (nI ow), .int (fq_b ih), .int (fq_b oh), .ref aB, .int (nI ca), .int (nI us), .int (fq_b cl), .int (fq_b fl), .ref aS, .int (nI tk), .ref aL, .ref aX, .int (nI md), .int (nI gi), .int (nI su), .int (nI ps), .int (nI cs)])), (aK, .inl (cI, 5, .inl fK)), (aN, .inl (cI, 25, .inl fN)), (aB, .inl (cI, 120, .inl fB)), (aS, .inl (cI, 120, .inl fS)), (aL, .inl (cI, 2300, .inl fL)), (aX, .inl (cI, 2300, .inl fX))]) := hD
          refine lv_goto (tgt := 84) K.1 K.2.1 dc_Mo_resampledAt_80 rfl ?_
          have hz : r6.toInt = fm_u (u : Int) xs ((ii : Int) * d - k) := mo_u2 hU.2.2.2.1 hpl b48 b55 hx2
          refine lv_lstore K.1 K.2.1 dc_Mo_resampledAt_84 hl (by decide) rfl (fun ls hl => ?_)
          have hl : lv_has ls 14 [(12, .long r6), (11, .int 1), (10, .int v10), (9, .int v9), (0, .ref h), (1, .int (nI u)), (2, .int (nI d)), (3, .int (nI ii)), (4, .int (nI xs.length)), (5, .int (nI (rs_r u d))), (6, .long sm), (8, .int (nI k))] := hl
          refine lv_lload K.1 K.2.1 dc_Mo_resampledAt_86 (lv_at hl 10 rfl) ?_
          refine lv_iload K.1 K.2.1 dc_Mo_resampledAt_88 (lv_at hl 9 rfl) ?_
          refine lv_iload K.1 K.2.1 dc_Mo_resampledAt_90 (lv_at hl 3 rfl) ?_
          refine lv_if_ge (tgt := 101) K.1 K.2.1 dc_Mo_resampledAt_92 rfl (fun b92 => ?_) (fun b92 => ?_)
          · skip
            refine lv_iload K.1 K.2.1 dc_Mo_resampledAt_101 (lv_at hl 3 rfl) ?_
            refine lv_isub K.1 K.2.1 dc_Mo_resampledAt_103 ?_
            have hf : ((nI (rs_r u d)) - v9).toInt = fm_far (rs_r u d : Int) k := mo_f1 hrb hk e_v9 b92
            refine lv_i2l K.1 K.2.1 dc_Mo_resampledAt_104 rfl ?_
            refine lv_lload K.1 K.2.1 dc_Mo_resampledAt_105 (lv_at hl 0 rfl) ?_
            refine lv_lmul K.1 K.2.1 dc_Mo_resampledAt_107 ?_
            refine lv_ladd K.1 K.2.1 dc_Mo_resampledAt_108 ?_
            refine lv_topl (fun v15 e_v15 => ?_)
            refine lv_lstore K.1 K.2.1 dc_Mo_resampledAt_109 hl (by decide) rfl (fun ls hl => ?_)
            have hl : lv_has ls 14 [(6, .long v15), (12, .long r6), (11, .int 1), (10, .int v10), (9, .int v9), (0, .ref h), (1, .int (nI u)), (2, .int (nI d)), (3, .int (nI ii)), (4, .int (nI xs.length)), (5, .int (nI (rs_r u d))), (8, .int (nI k))] := hl
            refine lv_iinc (v := nI (k + 1)) K.1 K.2.1 dc_Mo_resampledAt_111 hl (k := 11) rfl (nI_1 k) (by decide) rfl (fun ls hl => ?_)
            have hl : lv_has ls 14 [(8, .int (nI (k + 1))), (6, .long v15), (12, .long r6), (11, .int 1), (10, .int v10), (9, .int v9), (0, .ref h), (1, .int (nI u)), (2, .int (nI d)), (3, .int (nI ii)), (4, .int (nI xs.length)), (5, .int (nI (rs_r u d)))] := hl
            refine lv_goto (tgt := 18) K.1 K.2.1 dc_Mo_resampledAt_114 rfl ?_
            exact ih18 (k + 1, v15) _ _ _ (by show 2 * rs_r u d - 1 - (k + 1) < 2 * rs_r u d - 1 - k; omega) ⟨(mo_rst hU hxi hk hI18 hf hz e_v15), lv_sub hl [6, 7, 8, 9, 10, 11, 1, 0] rfl, hP, hD, hS⟩
          · skip
            refine lv_iload K.1 K.2.1 dc_Mo_resampledAt_95 (lv_at hl 3 rfl) ?_
            refine lv_ineg K.1 K.2.1 dc_Mo_resampledAt_97 ?_
            refine lv_goto (tgt := 103) K.1 K.2.1 dc_Mo_resampledAt_98 rfl ?_
            refine lv_isub K.1 K.2.1 dc_Mo_resampledAt_103 ?_
            have hf : ((nI (rs_r u d)) - (-v9)).toInt = fm_far (rs_r u d : Int) k := mo_f2 hrb hk e_v9 b92
            refine lv_i2l K.1 K.2.1 dc_Mo_resampledAt_104 rfl ?_
            refine lv_lload K.1 K.2.1 dc_Mo_resampledAt_105 (lv_at hl 0 rfl) ?_
            refine lv_lmul K.1 K.2.1 dc_Mo_resampledAt_107 ?_
            refine lv_ladd K.1 K.2.1 dc_Mo_resampledAt_108 ?_
            refine lv_topl (fun v16 e_v16 => ?_)
            refine lv_lstore K.1 K.2.1 dc_Mo_resampledAt_109 hl (by decide) rfl (fun ls hl => ?_)
            have hl : lv_has ls 14 [(6, .long v16), (12, .long r6), (11, .int 1), (10, .int v10), (9, .int v9), (0, .ref h), (1, .int (nI u)), (2, .int (nI d)), (3, .int (nI ii)), (4, .int (nI xs.length)), (5, .int (nI (rs_r u d))), (8, .int (nI k))] := hl
            refine lv_iinc (v := nI (k + 1)) K.1 K.2.1 dc_Mo_resampledAt_111 hl (k := 11) rfl (nI_1 k) (by decide) rfl (fun ls hl => ?_)
            have hl : lv_has ls 14 [(8, .int (nI (k + 1))), (6, .long v16), (12, .long r6), (11, .int 1), (10, .int v10), (9, .int v9), (0, .ref h), (1, .int (nI u)), (2, .int (nI d)), (3, .int (nI ii)), (4, .int (nI xs.length)), (5, .int (nI (rs_r u d)))] := hl
            refine lv_goto (tgt := 18) K.1 K.2.1 dc_Mo_resampledAt_114 rfl ?_
            exact ih18 (k + 1, v16) _ _ _ (by show 2 * rs_r u d - 1 - (k + 1) < 2 * rs_r u d - 1 - k; omega) ⟨(mo_rst hU hxi hk hI18 hf hz e_v16), lv_sub hl [6, 7, 8, 9, 10, 11, 1, 0] rfl, hP, hD, hS⟩
