theorem wd_893 : Cond.instanceMethod my_Mo_response ∈ fq_TB := fq_in 893 (by decide +kernel) rfl
theorem wd_894 : Cond.selects cn_Mo my_Mo_response my_Mo_response ∈ fq_TB := fq_in 894 (by decide +kernel) rfl
theorem wd_895 : Cond.code my_Mo_response cb_Mo_response 13 (some .int) ∈ fq_TB := fq_in 895 (by decide +kernel) rfl
theorem wd_896 : Cond.methodLink cn_Mo 99 my_Mo_square ∈ fq_TB := fq_in 896 (by decide +kernel) rfl
theorem wd_897 : Cond.static my_Mo_square ∈ fq_TB := fq_in 897 (by decide +kernel) rfl
theorem wd_898 : Cond.code my_Mo_square cb_Mo_square 12 (some .long) ∈ fq_TB := fq_in 898 (by decide +kernel) rfl
theorem wd_899 : Cond.constantLong cn_Mo 97 32 ∈ fq_TB := fq_in 899 (by decide +kernel) rfl
theorem wd_900 : Cond.constantLong cn_Mo 103 2147483647 ∈ fq_TB := fq_in 900 (by decide +kernel) rfl
theorem wd_901 : Cond.constant cn_Mo 105 2147483647 ∈ fq_TB := fq_in 901 (by decide +kernel) rfl
theorem wd_989 : Cond.instanceMethod my_Mo_sinkByte ∈ fq_TB := fq_in 989 (by decide +kernel) rfl
theorem wd_990 : Cond.selects cn_Mo my_Mo_sinkByte my_Mo_sinkByte ∈ fq_TB := fq_in 990 (by decide +kernel) rfl
theorem wd_991 : Cond.code my_Mo_sinkByte cb_Mo_sinkByte 7 (some .int) ∈ fq_TB := fq_in 991 (by decide +kernel) rfl
theorem wd_992 : Cond.constantLong cn_Mo 181 32768 ∈ fq_TB := fq_in 992 (by decide +kernel) rfl
theorem wd_993 : Cond.constantLong cn_Mo 183 127 ∈ fq_TB := fq_in 993 (by decide +kernel) rfl
theorem wd_994 : Cond.constantLong cn_Mo 185 255 ∈ fq_TB := fq_in 994 (by decide +kernel) rfl
theorem wd_995 : Cond.constantLong cn_Mo 187 32767 ∈ fq_TB := fq_in 995 (by decide +kernel) rfl
theorem wd_997 : Cond.instanceMethod my_Mo_power ∈ fq_TB := fq_in 997 (by decide +kernel) rfl
theorem wd_998 : Cond.selects cn_Mo my_Mo_power my_Mo_power ∈ fq_TB := fq_in 998 (by decide +kernel) rfl
theorem wd_999 : Cond.code my_Mo_power cb_Mo_power 18 (some .long) ∈ fq_TB := fq_in 999 (by decide +kernel) rfl
theorem wd_1000 : Cond.constantLong cn_Mo 189 (-1) ∈ fq_TB := fq_in 1000 (by decide +kernel) rfl
/-! a tone -/
def tn_J (t : Int64) (L : List Int32) (en j : Nat) (p q a b : Int64) : Prop := a + (p * (tn_h t L en (12 - j)).1 - q * (tn_h t L en (12 - j)).2) = (tn_h t L en 12).1 ∧ b + (p * (tn_h t L en (12 - j)).2 + q * (tn_h t L en (12 - j)).1 + t * q * (tn_h t L en (12 - j)).2) = (tn_h t L en 12).2
theorem tn_J0 {t : Int64} {L : List Int32} {en : Nat} : tn_J t L en 0 1 0 0 0 := by
  unfold tn_J
  rw [Nat.sub_zero]
  constructor <;> grind
theorem tn_Js {t : Int64} {L : List Int32} {en j : Nat} {p q a b s a2 b2 p2 q2 : Int64} (h : tn_J t L en j p q a b) (hj : j < 12) (he : 12 ≤ en) (hs : s = (L.getD (en - 12 + j) 0).toInt64) (ea : a2 = a + p * s) (eb : b2 = b + q * s) (ep : p2 = -q) (eq : q2 = p + t * q) : tn_J t L en (j + 1) p2 q2 a2 b2 := by
  unfold tn_J at h ⊢
  have e : tn_h t L en (12 - j) = ((L.getD (en - 1 - (12 - (j + 1))) 0).toInt64 - (tn_h t L en (12 - (j + 1))).2, (tn_h t L en (12 - (j + 1))).1 + t * (tn_h t L en (12 - (j + 1))).2) := by
    rw [show 12 - j = (12 - (j + 1)) + 1 by omega]; rfl
  rw [e, show en - 1 - (12 - (j + 1)) = en - 12 + j by omega, ← hs] at h
  generalize (tn_h t L en (12 - (j + 1))).1 = x at h ⊢
  generalize (tn_h t L en (12 - (j + 1))).2 = y at h ⊢
  generalize (tn_h t L en 12).1 = A at h ⊢
  generalize (tn_h t L en 12).2 = B at h ⊢
  subst ea eb ep eq
  obtain ⟨h1, h2⟩ := h
  constructor <;> grind
theorem tn_Je {t : Int64} {L : List Int32} {en : Nat} {p q a b : Int64} (h : tn_J t L en 12 p q a b) : a = (tn_h t L en 12).1 ∧ b = (tn_h t L en 12).2 := by
  unfold tn_J at h
  rw [show tn_h t L en (12 - 12) = (0, 0) from rfl] at h
  generalize (tn_h t L en 12).1 = A at h ⊢
  generalize (tn_h t L en 12).2 = B at h ⊢
  obtain ⟨h1, h2⟩ := h
  constructor <;> grind
def pw_L (f : Nat → Int32) (n : Nat) : List Int32 := (List.range n).map f
theorem pw_l (f : Nat → Int32) (n : Nat) : (pw_L f n).length = n := by unfold pw_L; simp
theorem pw_g {f : Nat → Int32} {n j : Nat} (h : j < n) : (pw_L f n).getD j 0 = f j := by
  unfold pw_L
  rw [List.getD_eq_getElem?_getD, List.getElem?_map, List.getElem?_range h]; rfl
theorem pw_n {n : Nat} : n - n % 12 = 12 * (n / 12) := by omega
theorem pw_no {t : Int64} {f : Nat → Int32} {n : Nat} (h : n / 12 = 0) : (-1 : Int64) = tn_r t (pw_L f n) := by
  unfold tn_r
  rw [pw_l, if_pos (by omega)]
theorem pw_ye {t : Int64} {f : Nat → Int32} {n : Nat} {p q a b : Int64} (h0 : 1 ≤ n / 12) (h : tn_J t (pw_L f n) (n - n % 12) 12 p q a b) : a * a + t * a * b + b * b = tn_r t (pw_L f n) := by
  obtain ⟨e1, e2⟩ := tn_Je h
  unfold tn_r tn_v
  rw [pw_l, if_neg (by omega), ← e1, ← e2]
theorem pw_t {x : Int32} (h0 : ¬ x < 0) (h4 : x ≤ 4) : 2 - x.toInt64 = (2 - x).toInt64 := by
  rw [Int32.lt_iff_toInt_lt, Int32.toInt_zero] at h0
  rw [Int32.le_iff_toInt_le, show (4 : Int32).toInt = 4 by decide] at h4
  apply Int64.toInt_inj.mp
  rw [Kit.i64_of_i32, Kit.i64_sub (by rw [Kit.i64_of_i32, show (2 : Int64).toInt = 2 by decide]; omega) (by rw [Kit.i64_of_i32, show (2 : Int64).toInt = 2 by decide]; omega), Kit.i32_sub (by rw [show (2 : Int32).toInt = 2 by decide]; omega) (by rw [show (2 : Int32).toInt = 2 by decide]; omega), Kit.i64_of_i32]
  rfl
theorem pw_b0 {n : Nat} {v : Int32} (hn : n ≤ 2300) (e : v = nI (n / 12) - 1) (h : v < 0) : n / 12 = 0 := by
  rw [Int32.lt_iff_toInt_lt, Int32.toInt_zero, e, show (nI (n / 12) - 1).toInt = ((n / 12 : Nat) : Int) - (1 : Nat) from pk_sub_toInt (a := n / 12) (b := 1) (by omega) (by decide)] at h
  omega
theorem pw_b1 {n : Nat} {v : Int32} (hn : n ≤ 2300) (e : v = nI (n / 12) - 1) (h : ¬ v < 0) : 1 ≤ n / 12 := by
  rw [Int32.lt_iff_toInt_lt, Int32.toInt_zero, e, show (nI (n / 12) - 1).toInt = ((n / 12 : Nat) : Int) - (1 : Nat) from pk_sub_toInt (a := n / 12) (b := 1) (by omega) (by decide)] at h
  omega
/-! a byte of the sink -/
theorem kb_1 {s r1 : Int64} (hs : fm_in s.toInt) (h1 : r1.toInt = (s + 32768).toInt / (65536 : Int64).toInt) (h : ¬ r1 ≤ 127) : (255 : Int64).toInt = sk_v 1 s.toInt := by
  have e1 : (s + 32768).toInt = s.toInt + 32768 := by
    unfold fm_in at hs
    rw [Kit.i64_add (by rw [show (32768 : Int64).toInt = 32768 by decide]; omega) (by rw [show (32768 : Int64).toInt = 32768 by decide]; omega)]; rfl
  rw [Int64.le_iff_toInt_le, h1, e1, show (65536 : Int64).toInt = 65536 by decide, show (127 : Int64).toInt = 127 by decide] at h
  unfold sk_v
  rw [if_pos rfl, if_neg (by omega)]; rfl
theorem kb_2 {s r1 r2 : Int64} (hs : fm_in s.toInt) (h1 : r1.toInt = (s + 32768).toInt / (65536 : Int64).toInt) (h2 : r2.toInt = (s + 32768).toInt / (65536 : Int64).toInt) (h : r1 ≤ 127) : (128 + r2).toInt = sk_v 1 s.toInt := by
  unfold fm_in at hs
  have e1 : (s + 32768).toInt = s.toInt + 32768 := by
    rw [Kit.i64_add (by rw [show (32768 : Int64).toInt = 32768 by decide]; omega) (by rw [show (32768 : Int64).toInt = 32768 by decide]; omega)]; rfl
  rw [Int64.le_iff_toInt_le, h1, e1, show (65536 : Int64).toInt = 65536 by decide, show (127 : Int64).toInt = 127 by decide] at h
  rw [e1, show (65536 : Int64).toInt = 65536 by decide] at h2
  rw [Kit.i64_add (by rw [show (128 : Int64).toInt = 128 by decide]; omega) (by rw [show (128 : Int64).toInt = 128 by decide]; omega), h2, show (128 : Int64).toInt = 128 by decide]
  unfold sk_v
  rw [if_pos rfl]
  split <;> omega
theorem kb_3 {s r1 : Int64} (hs : fm_in s.toInt) (h1 : r1.toInt = (s + 128).toInt / (256 : Int64).toInt) (h : ¬ r1 ≤ 32767) : (32767 : Int64).toInt = sk_v 2 s.toInt := by
  unfold fm_in at hs
  have e1 : (s + 128).toInt = s.toInt + 128 := by
    rw [Kit.i64_add (by rw [show (128 : Int64).toInt = 128 by decide]; omega) (by rw [show (128 : Int64).toInt = 128 by decide]; omega)]; rfl
  rw [Int64.le_iff_toInt_le, h1, e1, show (256 : Int64).toInt = 256 by decide, show (32767 : Int64).toInt = 32767 by decide] at h
  unfold sk_v
  rw [if_neg (by decide), if_pos rfl, if_neg (by omega)]; decide
theorem kb_4 {s r1 r2 : Int64} (hs : fm_in s.toInt) (h1 : r1.toInt = (s + 128).toInt / (256 : Int64).toInt) (h2 : r2.toInt = (s + 128).toInt / (256 : Int64).toInt) (h : r1 ≤ 32767) : r2.toInt = sk_v 2 s.toInt := by
  unfold fm_in at hs
  have e1 : (s + 128).toInt = s.toInt + 128 := by
    rw [Kit.i64_add (by rw [show (128 : Int64).toInt = 128 by decide]; omega) (by rw [show (128 : Int64).toInt = 128 by decide]; omega)]; rfl
  rw [Int64.le_iff_toInt_le, h1, e1, show (256 : Int64).toInt = 256 by decide, show (32767 : Int64).toInt = 32767 by decide] at h
  rw [e1, show (256 : Int64).toInt = 256 by decide] at h2
  unfold sk_v
  rw [if_neg (by decide), if_pos rfl, h2]
  split <;> omega
theorem kb_5 {w : Nat} {s : Int64} (h1 : ¬ w = 1) (h2 : ¬ w = 2) (h4 : ¬ w = 4) (hw : 1 ≤ w ∧ w ≤ 4) : s.toInt = sk_v w s.toInt := by
  unfold sk_v
  rw [if_neg h1, if_neg h2, if_pos (by omega)]
theorem kb_6 {w : Nat} {s : Int64} (h4 : w = 4) (hs : fm_in s.toInt) : (256 * s).toInt = sk_v w s.toInt := by
  unfold fm_in at hs
  rw [Kit.i64_mul (by rw [show (256 : Int64).toInt = 256 by decide]; omega) (by rw [show (256 : Int64).toInt = 256 by decide]; omega), show (256 : Int64).toInt = 256 by decide]
  unfold sk_v
  rw [if_neg (by omega), if_neg (by omega), if_neg (by omega)]
theorem kb_mask (y : Int64) : (y.toInt32 &&& 255).toInt = y.toInt % 256 := by
  rw [Kit.i32_mask y.toInt32 255 (k := 8) (by decide) (by decide), Int64.toInt_toInt32, show (2 : Int) ^ 8 = 256 by decide]
  have h := Int.bmod_def y.toInt (2 ^ 32)
  rw [h]
  split <;> omega
theorem kb_v {w k : Nat} {b : Bool} {f : Nat → Int32} {n : Nat} {x : Int32} {v : Int64} (hw : 1 ≤ w ∧ w ≤ 4) (hk : k < 2 ^ 31) (hx : x = nI k) (h : k / w < n) (hv : v.toInt = sk_v w (f (k / w)).toInt) : ((v >>> ((nI (ly_sh w b (k % w))).toInt64 &&& 63)).toInt32 &&& 255).toInt = sk_b w b ((pw_L f n).map Int32.toInt) x := by
  have hsh : ly_sh w b (k % w) ≤ 24 := ns_sh hw.2 (Nat.mod_lt _ (by omega))
  have hsm : ∀ n, n ≤ 24 → (((nI n).toInt64 &&& 63).toBitVec.smod 64).toNat = n := by decide
  rw [kb_mask, Kit.i64_shr _ _ (hsm _ hsh), hv]
  unfold sk_b
  rw [if_neg (by rw [hx]; exact nI_pos hk), hx, nI_clamp hk, if_neg (by rw [List.length_map, pw_l]; omega)]
  congr 3
  rw [List.getD_eq_getElem?_getD, List.getElem?_map]
  unfold pw_L
  rw [List.getElem?_map, List.getElem?_range h]; rfl
theorem kb_n {w : Nat} {b : Bool} {f : Nat → Int32} {n : Nat} {x : Int32} (h : x < 0) : (-1 : Int32).toInt = sk_b w b ((pw_L f n).map Int32.toInt) x := by
  unfold sk_b; rw [if_pos h]; rfl
theorem kb_h {w k : Nat} {b : Bool} {f : Nat → Int32} {n : Nat} {x : Int32} (hk : k < 2 ^ 31) (hx : x = nI k) (h : ¬ k / w < n) : (-1 : Int32).toInt = sk_b w b ((pw_L f n).map Int32.toInt) x := by
  unfold sk_b
  rw [if_neg (by rw [hx]; exact nI_pos hk), hx, nI_clamp hk, if_pos (by rw [List.length_map, pw_l]; omega)]; rfl

/-! a section's response -/
def mq_s (p q t k : Int64) : Int64 := ((p + t) * (256 - k * k) + q * (256 + k * k)) * ((p + t) * (256 - k * k) + q * (256 + k * k)) + 32 * k * (p - t) * (32 * k * (p - t))
theorem mq_e (p q t k : Int64) : mq_s p q t k = sq_s p q t (256 - k * k) (256 + k * k) := by
  unfold mq_s sq_s
  grind
def mq_N (p q t k : Int) : Int := ((p + t) * (256 - k * k) + q * (256 + k * k)) * ((p + t) * (256 - k * k) + q * (256 + k * k)) + 32 * k * (p - t) * (32 * k * (p - t))
theorem mq_o (x : Int32) : x.toInt64 = Int64.ofInt x.toInt := by
  apply Int64.toInt_inj.mp
  have h1 := Int32.le_toInt x
  have h2 := Int32.toInt_lt x
  rw [Kit.i64_of_i32, Int64.toInt_ofInt_of_le (by omega) (by omega)]
theorem mq_n (p q t k : Int32) : mq_s p.toInt64 q.toInt64 t.toInt64 k.toInt64 = Int64.ofInt (mq_N p.toInt q.toInt t.toInt k.toInt) := by
  unfold mq_s mq_N
  rw [mq_o p, mq_o q, mq_o t, mq_o k, show (256 : Int64) = Int64.ofInt 256 from rfl, show (32 : Int64) = Int64.ofInt 32 from rfl]
  simp only [Int64.ofInt_add, Int64.ofInt_mul, Int64.ofInt_sub]
theorem mq_b {p q t k : Int} (hp : -65536 ≤ p ∧ p ≤ 65536) (hq : -65536 ≤ q ∧ q ≤ 65536) (ht : -65536 ≤ t ∧ t ≤ 65536) (hk : 0 ≤ k ∧ k ≤ 96) : 0 ≤ mq_N p q t k ∧ mq_N p q t k < 2 ^ 63 := by
  unfold mq_N
  have k2 : 0 ≤ k * k ∧ k * k ≤ 9216 := by
    have h1 := fn_bd (a := k) (b := k) (A := 96) (B := 96) (by omega) (by omega)
    have h2 := Int.mul_nonneg hk.1 hk.1
    omega
  generalize k * k = m at k2 ⊢
  have a1 := fn_bd (a := p + t) (b := 256 - m) (A := 131072) (B := 8960) (by omega) (by omega)
  have a2 := fn_bd (a := q) (b := 256 + m) (A := 65536) (B := 9472) (by omega) (by omega)
  have a3 := fn_bd (a := 32 * k) (b := p - t) (A := 3072) (B := 131072) (by omega) (by omega)
  generalize (p + t) * (256 - m) = u at a1 ⊢
  generalize q * (256 + m) = v at a2 ⊢
  generalize 32 * k * (p - t) = o at a3 ⊢
  have b1 := fn_bd (a := u + v) (b := u + v) (A := 1795162112) (B := 1795162112) (by omega) (by omega)
  have b2 := fn_bd (a := o) (b := o) (A := 402653184) (B := 402653184) (by omega) (by omega)
  have c1 : 0 ≤ (u + v) * (u + v) := by
    rcases Int.le_total 0 (u + v) with z | z
    · exact Int.mul_nonneg z z
    · exact Int.mul_nonneg_of_nonpos_of_nonpos z z
  have c2 : 0 ≤ o * o := by
    rcases Int.le_total 0 o with z | z
    · exact Int.mul_nonneg z z
    · exact Int.mul_nonneg_of_nonpos_of_nonpos z z
  omega
theorem mq_i {p q t k : Int32} (hp : -65536 ≤ p.toInt ∧ p.toInt ≤ 65536) (hq : -65536 ≤ q.toInt ∧ q.toInt ≤ 65536) (ht : -65536 ≤ t.toInt ∧ t.toInt ≤ 65536) (hk : 0 ≤ k.toInt ∧ k.toInt ≤ 96) : (mq_s p.toInt64 q.toInt64 t.toInt64 k.toInt64).toInt = mq_N p.toInt q.toInt t.toInt k.toInt := by
  have b := mq_b hp hq ht hk
  rw [mq_n, Int64.toInt_ofInt_of_le (by omega) (by omega)]
theorem mq_p {q t k : Int} (hc : is_c q t) (hk : 0 ≤ k ∧ k ≤ 96) : mq_N 16384 q t k ≠ 0 := by
  unfold is_c at hc
  unfold mq_N
  have sq : ∀ o : Int, 0 ≤ o * o := fun o => by
    rcases Int.le_total 0 o with z | z
    · exact Int.mul_nonneg z z
    · exact Int.mul_nonneg_of_nonpos_of_nonpos z z
  have sp : ∀ o : Int, 0 < o → 0 < o * o := fun o z => Int.mul_pos z z
  by_cases h0 : k = 0
  · subst h0
    have e : (16384 + t) * (256 - 0 * 0) + q * (256 + 0 * 0) = 256 * (16384 + t + q) := by omega
    rw [e]
    have h1 := sp (256 * (16384 + t + q)) (by omega)
    have h2 := sq (32 * 0 * (16384 - t))
    omega
  · have h1 := sq ((16384 + t) * (256 - k * k) + q * (256 + k * k))
    have h2 := sp (32 * k * (16384 - t)) (Int.mul_pos (by omega) (by omega))
    omega
/-- the answer as the reference makes it -/
def mr_v (w : Int64) : Int32 := if w ≤ 2147483647 then w.toInt32 else 2147483647
def mr_I (x y : Int64) (n : Nat) (wh re : Int64) : Prop := n ≤ 12 ∧ (wh, re) = sr_it y (x / y, x - x / y * y) n ∧ (x / y).toInt * 2 ^ n ≤ wh.toInt ∧ wh.toInt < ((x / y).toInt + 1) * 2 ^ n
theorem mr_0 {x y : Int64} : mr_I x y 0 (x / y) (x - x / y * y) := ⟨Nat.zero_le _, rfl, by rw [Int.pow_zero]; omega, by rw [Int.pow_zero]; omega⟩
theorem mr_t {w : Int64} (h0 : 0 ≤ w.toInt) (h : w ≤ 2147483647) : (2 * w).toInt = 2 * w.toInt ∧ (2 * w + 1).toInt = 2 * w.toInt + 1 := by
  rw [Int64.le_iff_toInt_le, show (2147483647 : Int64).toInt = 2147483647 by decide] at h
  have e2 : (2 : Int64).toInt = 2 := by decide
  have e : (2 * w).toInt = 2 * w.toInt := by rw [Kit.i64_mul (by rw [e2]; omega) (by rw [e2]; omega), e2]
  refine ⟨e, ?_⟩
  rw [Kit.i64_add (by rw [e, show (1 : Int64).toInt = 1 by decide]; omega) (by rw [e, show (1 : Int64).toInt = 1 by decide]; omega), e]; rfl
theorem mr_w {x y wh re : Int64} {n : Nat} (hq : 0 ≤ (x / y).toInt) (h : mr_I x y n wh re) : 0 ≤ wh.toInt := by
  have h2 : (0 : Int) ≤ 2 ^ n := Int.pow_nonneg (by decide)
  have := Int.mul_nonneg hq h2
  have := h.2.2.1
  omega
theorem mr_a {x y wh re v1 v2 : Int64} {n : Nat} (hq : 0 ≤ (x / y).toInt) (h : mr_I x y n wh re) (hn : n < 12) (hw : wh ≤ 2147483647) (e1 : v1 = 2 * re) (e2 : v2 = 2 * wh) (hb : v1 < y) : mr_I x y (n + 1) v2 v1 := by
  have h0 := mr_w hq h
  obtain ⟨-, i1, i2, i3⟩ := h
  have k := mr_t h0 hw
  refine ⟨hn, ?_, ?_, ?_⟩
  · show _ = sr_1 y (sr_it y (x / y, x - x / y * y) n)
    rw [← i1]
    show _ = if 2 * re < y then (2 * wh, 2 * re) else (2 * wh + 1, 2 * re - y)
    rw [if_pos (e1 ▸ hb), e1, e2]
  · rw [e2, k.1, Int.pow_succ, ← Int.mul_assoc]; omega
  · rw [e2, k.1, Int.pow_succ, ← Int.mul_assoc]; omega
theorem mr_c {x y wh re v1 v2 v3 v4 : Int64} {n : Nat} (hq : 0 ≤ (x / y).toInt) (h : mr_I x y n wh re) (hn : n < 12) (hw : wh ≤ 2147483647) (e1 : v1 = 2 * re) (e2 : v2 = 2 * wh) (hb : ¬ v1 < y) (e3 : v3 = v1 - y) (e4 : v4 = v2 + 1) : mr_I x y (n + 1) v4 v3 := by
  have h0 := mr_w hq h
  obtain ⟨-, i1, i2, i3⟩ := h
  have k := mr_t h0 hw
  refine ⟨hn, ?_, ?_, ?_⟩
  · show _ = sr_1 y (sr_it y (x / y, x - x / y * y) n)
    rw [← i1]
    show _ = if 2 * re < y then (2 * wh, 2 * re) else (2 * wh + 1, 2 * re - y)
    rw [if_neg (e1 ▸ hb), e4, e3, e1, e2]
  · rw [e4, e2, k.2, Int.pow_succ, ← Int.mul_assoc]; omega
  · rw [e4, e2, k.2, Int.pow_succ, ← Int.mul_assoc]; omega
theorem mr_2n {n : Nat} (h : n ≤ 12) : (1 : Int) ≤ 2 ^ n ∧ (2 : Int) ^ n ≤ 4096 := by
  have : n = 0 ∨ n = 1 ∨ n = 2 ∨ n = 3 ∨ n = 4 ∨ n = 5 ∨ n = 6 ∨ n = 7 ∨ n = 8 ∨ n = 9 ∨ n = 10 ∨ n = 11 ∨ n = 12 := by omega
  rcases this with rfl | rfl | rfl | rfl | rfl | rfl | rfl | rfl | rfl | rfl | rfl | rfl | rfl <;> decide
theorem mr_f {x y wh re : Int64} {n : Nat} (hy : 0 < y.toInt) (hq : 0 ≤ (x / y).toInt) (h : mr_I x y n wh re) (hn : n = 12 ∨ ¬ wh ≤ 2147483647) : mr_v wh = sr_v x y := by
  have h0 := mr_w hq h
  obtain ⟨i0, i1, i2, i3⟩ := h
  have hp := mr_2n i0
  have eM : (2147483647 : Int64).toInt = 2147483647 := by decide
  have eH : (524287 : Int64).toInt = 524287 := by decide
  unfold sr_v
  by_cases c : 524287 < x / y
  · rw [if_pos (Or.inr c)]
    unfold mr_v
    rw [if_neg]
    rcases hn with e | e
    · subst e
      rw [Int64.lt_iff_toInt_lt, eH] at c
      rw [Int64.le_iff_toInt_le, eM]
      rw [show (2 : Int) ^ 12 = 4096 by decide] at i2
      omega
    · exact e
  · have hy0 : ¬ y ≤ 0 := fun z => by rw [Int64.le_iff_toInt_le, Int64.toInt_zero] at z; omega
    rw [if_neg (fun z => z.elim hy0 c)]
    rw [Int64.lt_iff_toInt_lt, eH] at c
    have hle : wh ≤ 2147483647 := by
      rw [Int64.le_iff_toInt_le, eM]
      have h1 : ((x / y).toInt + 1) * 2 ^ n ≤ 524288 * 4096 := Int.mul_le_mul (by omega) hp.2 (by omega) (by omega)
      omega
    have hn : n = 12 := hn.resolve_right (fun z => z hle)
    subst hn
    unfold mr_v
    rw [if_pos hle, ← i1]
theorem mr_q {x y : Int64} (hx : 0 ≤ x.toInt) (hy : 0 < y.toInt) : 0 ≤ (x / y).toInt := by
  rw [fn_div hy]
  exact Int.tdiv_nonneg hx (by omega)

def rm_v (sps : List fm_S) (x y : Int32) : Int32 := if y < 0 ∨ 96 < y then -1 else if x < 0 then -1 else match sps[x.toNatClampNeg]? with
  | none => -1
  | some sp => if sp.1 = 0 then rp_v (Int32.ofInt sp.2.1) (Int32.ofInt sp.2.2.1) (Int32.ofInt sp.2.2.2.1) (Int32.ofInt sp.2.2.2.2.1) (Int32.ofInt sp.2.2.2.2.2) y else -1
theorem rm_e {sts : List ch_T} {x y : Int32} : re_v sts x y = rm_v (sts.map (fun s => s.2.1)) x y := by
  unfold re_v rm_v re_k
  by_cases c : y < 0 ∨ 96 < y
  · rw [if_pos c, if_pos c]
  · rw [if_neg c, if_neg c]
    by_cases d : x < 0
    · rw [if_pos d, if_pos d]
    · rw [if_neg d, if_neg d, List.getElem?_map]
      cases sts[x.toNatClampNeg]? <;> rfl
theorem rm_j {sps : List fm_S} {ns : Nat} {x : Int32} (hns : ns = sps.length) (h5 : ns ≤ 5) (h0 : ¬ x < 0) (h1 : ¬ nI ns ≤ x) : ∃ (j : Nat) (sp : fm_S), j < 5 ∧ x = nI j ∧ sps[j]? = some sp := by
  obtain ⟨j, hj, e⟩ := nI_of h0
  rw [e, nI_leI (by omega) hj] at h1
  exact ⟨j, _, by omega, e, List.getElem?_eq_getElem (show j < sps.length by omega)⟩
theorem rm_n1 {sps : List fm_S} {x y : Int32} (h : x < 0) : (-1 : Int32) = rm_v sps x y := by
  unfold rm_v; rw [if_pos h]; split <;> rfl
theorem rm_n2 {sps : List fm_S} {ns : Nat} {x y : Int32} (hns : ns = sps.length) (h5 : ns ≤ 5) (h : ¬ x < 0) (h1 : nI ns ≤ x) : (-1 : Int32) = rm_v sps x y := by
  obtain ⟨j, hj, e⟩ := nI_of h
  rw [e, nI_leI (by omega) hj] at h1
  unfold rm_v; rw [if_neg h, e, nI_clamp hj, List.getElem?_eq_none (by omega)]; split <;> rfl
theorem rm_n3 {sps : List fm_S} {x y : Int32} (h : y < 0 ∨ 96 < y) : (-1 : Int32) = rm_v sps x y := by
  unfold rm_v; rw [if_pos h]
theorem rm_n4 {sps : List fm_S} {x y : Int32} {j : Nat} {sp : fm_S} (hj : j < 5) (hx : x = nI j) (hsp : sps[j]? = some sp) (h : ¬ sp.1 = 0) : (-1 : Int32) = rm_v sps x y := by
  unfold rm_v; rw [hx, nI_clamp (by omega), hsp]
  split
  · rfl
  · rw [if_neg (nI_pos (by omega))]
    show _ = if sp.1 = 0 then _ else _
    rw [if_neg h]
theorem rm_y {sps : List fm_S} {x y : Int32} {j : Nat} {sp : fm_S} {f : Nat → Int32} (hj : j < 5) (hx : x = nI j) (hsp : sps[j]? = some sp) (h : sp.1 = 0) (hN : mo_N f j sp) (hy0 : ¬ y < 0) (hy : y ≤ 96) :
    sr_v (mq_s (f (5 * j)).toInt64 (f (5 * j + 1)).toInt64 (f (5 * j + 2)).toInt64 y.toInt64) (mq_s 16384 (f (5 * j + 3)).toInt64 (f (5 * j + 4)).toInt64 y.toInt64) = rm_v sps x y := by
  obtain ⟨n0, n1, n2, n3, n4⟩ := hN
  unfold rm_v
  rw [if_neg (fun z => z.elim hy0 (fun z2 => Int32.not_lt.mpr hy z2)), hx, nI_clamp (by omega), hsp, if_neg (nI_pos (by omega))]
  show _ = if sp.1 = 0 then _ else _
  rw [if_pos h, ← n0, ← n1, ← n2, ← n3, ← n4, Int32.ofInt_toInt, Int32.ofInt_toInt, Int32.ofInt_toInt, Int32.ofInt_toInt, Int32.ofInt_toInt]
  unfold rp_v rp_q
  rw [mq_e, mq_e]
theorem rm_yb {y : Int32} (h0 : ¬ y < 0) (h : y ≤ 96) : 0 ≤ y.toInt ∧ y.toInt ≤ 96 := by
  rw [Int32.lt_iff_toInt_lt, Int32.toInt_zero] at h0
  rw [Int32.le_iff_toInt_le, show (96 : Int32).toInt = 96 by decide] at h
  omega
theorem rm_a {sp : fm_S} {f : Nat → Int32} {j : Nat} {y : Int32} {v : Int64} (hok : fm_ok sp) (h : sp.1 = 0) (hN : mo_N f j sp) (hy : 0 ≤ y.toInt ∧ y.toInt ≤ 96) (e : v = mq_s (f (5 * j)).toInt64 (f (5 * j + 1)).toInt64 (f (5 * j + 2)).toInt64 y.toInt64) : 0 ≤ v.toInt := by
  obtain ⟨n0, n1, n2, n3, n4⟩ := hN
  obtain ⟨c0, c1, c2, c3, c4⟩ := hok.2.1 h
  rw [← n0] at c0; rw [← n1] at c1; rw [← n2] at c2
  rw [e, mq_i c0 c1 c2 hy]
  exact (mq_b c0 c1 c2 hy).1
theorem rm_b {sp : fm_S} {f : Nat → Int32} {j : Nat} {y : Int32} {v : Int64} (hok : fm_ok sp) (h : sp.1 = 0) (hc : sp.1 = 0 → is_c sp.2.2.2.2.1 sp.2.2.2.2.2) (hN : mo_N f j sp) (hy : 0 ≤ y.toInt ∧ y.toInt ≤ 96) (e : v = mq_s 16384 (f (5 * j + 3)).toInt64 (f (5 * j + 4)).toInt64 y.toInt64) : 0 < v.toInt := by
  obtain ⟨n0, n1, n2, n3, n4⟩ := hN
  obtain ⟨c0, c1, c2, c3, c4⟩ := hok.2.1 h
  have hc := hc h
  rw [← n3] at c3 hc; rw [← n4] at c4 hc
  have e0 : (16384 : Int64) = (16384 : Int32).toInt64 := by decide
  have e1 : (16384 : Int32).toInt = 16384 := by decide
  rw [e, e0, mq_i (by rw [e1]; omega) c3 c4 hy, e1]
  have h1 := (mq_b (p := 16384) (by omega) c3 c4 hy).1
  have h2 := mq_p hc hy
  omega
theorem pw_r1 {x : Int32} {f : Nat → Int32} {n : Nat} (h : n / 12 = 0) : (-1 : Int64) = if x < 0 ∨ 4 < x then -1 else tn_r (2 - x).toInt64 (pw_L f n) := by
  split
  · rfl
  · exact pw_no h
theorem pw_r2 {x : Int32} {f : Nat → Int32} {n : Nat} (h : x < 0 ∨ 4 < x) : (-1 : Int64) = if x < 0 ∨ 4 < x then -1 else tn_r (2 - x).toInt64 (pw_L f n) := by rw [if_pos h]
theorem pw_r3 {x : Int32} {f : Nat → Int32} {n j : Nat} {t p q a b : Int64} (h0 : ¬ x < 0) (h4 : x ≤ 4) (h1 : 1 ≤ n / 12) (ht : t = 2 - x.toInt64) (hj : j = 12) (h : tn_J t (pw_L f n) (n - n % 12) j p q a b) : a * a + t * a * b + b * b = if x < 0 ∨ 4 < x then -1 else tn_r (2 - x).toInt64 (pw_L f n) := by
  rw [if_neg (fun z => z.elim h0 (fun z2 => Int32.not_lt.mpr h4 z2)), ← pw_t h0 h4, ← ht]
  subst hj
  exact pw_ye h1 h


theorem dc_Mo_square_0 : decode cb_Mo_square 0 = .ok (.lload_n 0, 1) := by decide +kernel
theorem dc_Mo_square_1 : decode cb_Mo_square 1 = .ok (.lload 4, 2) := by decide +kernel
theorem dc_Mo_square_3 : decode cb_Mo_square 3 = .ok (.ladd, 1) := by decide +kernel
theorem dc_Mo_square_4 : decode cb_Mo_square 4 = .ok (.ldc2_w 71, 3) := by decide +kernel
theorem dc_Mo_square_7 : decode cb_Mo_square 7 = .ok (.lload 6, 2) := by decide +kernel
theorem dc_Mo_square_9 : decode cb_Mo_square 9 = .ok (.lload 6, 2) := by decide +kernel
theorem dc_Mo_square_11 : decode cb_Mo_square 11 = .ok (.lmul, 1) := by decide +kernel
theorem dc_Mo_square_12 : decode cb_Mo_square 12 = .ok (.lsub, 1) := by decide +kernel
theorem dc_Mo_square_13 : decode cb_Mo_square 13 = .ok (.lmul, 1) := by decide +kernel
theorem dc_Mo_square_14 : decode cb_Mo_square 14 = .ok (.lload_n 2, 1) := by decide +kernel
theorem dc_Mo_square_15 : decode cb_Mo_square 15 = .ok (.ldc2_w 71, 3) := by decide +kernel
theorem dc_Mo_square_18 : decode cb_Mo_square 18 = .ok (.lload 6, 2) := by decide +kernel
theorem dc_Mo_square_20 : decode cb_Mo_square 20 = .ok (.lload 6, 2) := by decide +kernel
theorem dc_Mo_square_22 : decode cb_Mo_square 22 = .ok (.lmul, 1) := by decide +kernel
theorem dc_Mo_square_23 : decode cb_Mo_square 23 = .ok (.ladd, 1) := by decide +kernel
theorem dc_Mo_square_24 : decode cb_Mo_square 24 = .ok (.lmul, 1) := by decide +kernel
theorem dc_Mo_square_25 : decode cb_Mo_square 25 = .ok (.ladd, 1) := by decide +kernel
theorem dc_Mo_square_26 : decode cb_Mo_square 26 = .ok (.lstore 8, 2) := by decide +kernel
theorem dc_Mo_square_28 : decode cb_Mo_square 28 = .ok (.ldc2_w 97, 3) := by decide +kernel
theorem dc_Mo_square_31 : decode cb_Mo_square 31 = .ok (.lload 6, 2) := by decide +kernel
theorem dc_Mo_square_33 : decode cb_Mo_square 33 = .ok (.lmul, 1) := by decide +kernel
theorem dc_Mo_square_34 : decode cb_Mo_square 34 = .ok (.lload_n 0, 1) := by decide +kernel
theorem dc_Mo_square_35 : decode cb_Mo_square 35 = .ok (.lload 4, 2) := by decide +kernel
theorem dc_Mo_square_37 : decode cb_Mo_square 37 = .ok (.lsub, 1) := by decide +kernel
theorem dc_Mo_square_38 : decode cb_Mo_square 38 = .ok (.lmul, 1) := by decide +kernel
theorem dc_Mo_square_39 : decode cb_Mo_square 39 = .ok (.lstore 10, 2) := by decide +kernel
theorem dc_Mo_square_41 : decode cb_Mo_square 41 = .ok (.lload 8, 2) := by decide +kernel
theorem dc_Mo_square_43 : decode cb_Mo_square 43 = .ok (.lload 8, 2) := by decide +kernel
theorem dc_Mo_square_45 : decode cb_Mo_square 45 = .ok (.lmul, 1) := by decide +kernel
theorem dc_Mo_square_46 : decode cb_Mo_square 46 = .ok (.lload 10, 2) := by decide +kernel
theorem dc_Mo_square_48 : decode cb_Mo_square 48 = .ok (.lload 10, 2) := by decide +kernel
theorem dc_Mo_square_50 : decode cb_Mo_square 50 = .ok (.lmul, 1) := by decide +kernel
theorem dc_Mo_square_51 : decode cb_Mo_square 51 = .ok (.ladd, 1) := by decide +kernel
theorem dc_Mo_square_52 : decode cb_Mo_square 52 = .ok (.lreturn, 1) := by decide +kernel
theorem yk_Mo_square : fq_Y my_Mo_square cb_Mo_square 12 (some .long) 4 := ⟨wd_898, wd_36, by decide +kernel⟩
theorem dc_Mo_response_0 : decode cb_Mo_response 0 = .ok (.iload_n 1, 1) := by decide +kernel
theorem dc_Mo_response_1 : decode cb_Mo_response 1 = .ok (.ifCond .lt 21, 3) := by decide +kernel
theorem dc_Mo_response_4 : decode cb_Mo_response 4 = .ok (.iload_n 1, 1) := by decide +kernel
theorem dc_Mo_response_5 : decode cb_Mo_response 5 = .ok (.aload_n 0, 1) := by decide +kernel
theorem dc_Mo_response_6 : decode cb_Mo_response 6 = .ok (.getfield 54, 3) := by decide +kernel
theorem dc_Mo_response_9 : decode cb_Mo_response 9 = .ok (.if_icmp .ge 13, 3) := by decide +kernel
theorem dc_Mo_response_12 : decode cb_Mo_response 12 = .ok (.iload_n 2, 1) := by decide +kernel
theorem dc_Mo_response_13 : decode cb_Mo_response 13 = .ok (.ifCond .lt 9, 3) := by decide +kernel
theorem dc_Mo_response_16 : decode cb_Mo_response 16 = .ok (.iload_n 2, 1) := by decide +kernel
theorem dc_Mo_response_17 : decode cb_Mo_response 17 = .ok (.bipush 96, 2) := by decide +kernel
theorem dc_Mo_response_19 : decode cb_Mo_response 19 = .ok (.if_icmp .le 5, 3) := by decide +kernel
theorem dc_Mo_response_22 : decode cb_Mo_response 22 = .ok (.iconst (-1), 1) := by decide +kernel
theorem dc_Mo_response_23 : decode cb_Mo_response 23 = .ok (.ireturn, 1) := by decide +kernel
theorem dc_Mo_response_24 : decode cb_Mo_response 24 = .ok (.aload_n 0, 1) := by decide +kernel
theorem dc_Mo_response_25 : decode cb_Mo_response 25 = .ok (.getfield 7, 3) := by decide +kernel
theorem dc_Mo_response_28 : decode cb_Mo_response 28 = .ok (.iload_n 1, 1) := by decide +kernel
theorem dc_Mo_response_29 : decode cb_Mo_response 29 = .ok (.iaload, 1) := by decide +kernel
theorem dc_Mo_response_30 : decode cb_Mo_response 30 = .ok (.ifCond .eq 5, 3) := by decide +kernel
theorem dc_Mo_response_33 : decode cb_Mo_response 33 = .ok (.iconst (-1), 1) := by decide +kernel
theorem dc_Mo_response_34 : decode cb_Mo_response 34 = .ok (.ireturn, 1) := by decide +kernel
theorem dc_Mo_response_35 : decode cb_Mo_response 35 = .ok (.iconst 5, 1) := by decide +kernel
theorem dc_Mo_response_36 : decode cb_Mo_response 36 = .ok (.iload_n 1, 1) := by decide +kernel
theorem dc_Mo_response_37 : decode cb_Mo_response 37 = .ok (.imul, 1) := by decide +kernel
theorem dc_Mo_response_38 : decode cb_Mo_response 38 = .ok (.istore_n 3, 1) := by decide +kernel
theorem dc_Mo_response_39 : decode cb_Mo_response 39 = .ok (.aload_n 0, 1) := by decide +kernel
theorem dc_Mo_response_40 : decode cb_Mo_response 40 = .ok (.getfield 13, 3) := by decide +kernel
theorem dc_Mo_response_43 : decode cb_Mo_response 43 = .ok (.iload_n 3, 1) := by decide +kernel
theorem dc_Mo_response_44 : decode cb_Mo_response 44 = .ok (.iaload, 1) := by decide +kernel
theorem dc_Mo_response_45 : decode cb_Mo_response 45 = .ok (.i2l, 1) := by decide +kernel
theorem dc_Mo_response_46 : decode cb_Mo_response 46 = .ok (.aload_n 0, 1) := by decide +kernel
theorem dc_Mo_response_47 : decode cb_Mo_response 47 = .ok (.getfield 13, 3) := by decide +kernel
theorem dc_Mo_response_50 : decode cb_Mo_response 50 = .ok (.iload_n 3, 1) := by decide +kernel
theorem dc_Mo_response_51 : decode cb_Mo_response 51 = .ok (.iconst 1, 1) := by decide +kernel
theorem dc_Mo_response_52 : decode cb_Mo_response 52 = .ok (.iadd, 1) := by decide +kernel
theorem dc_Mo_response_53 : decode cb_Mo_response 53 = .ok (.iaload, 1) := by decide +kernel
theorem dc_Mo_response_54 : decode cb_Mo_response 54 = .ok (.i2l, 1) := by decide +kernel
theorem dc_Mo_response_55 : decode cb_Mo_response 55 = .ok (.aload_n 0, 1) := by decide +kernel
theorem dc_Mo_response_56 : decode cb_Mo_response 56 = .ok (.getfield 13, 3) := by decide +kernel
theorem dc_Mo_response_59 : decode cb_Mo_response 59 = .ok (.iload_n 3, 1) := by decide +kernel
theorem dc_Mo_response_60 : decode cb_Mo_response 60 = .ok (.iconst 2, 1) := by decide +kernel
theorem dc_Mo_response_61 : decode cb_Mo_response 61 = .ok (.iadd, 1) := by decide +kernel
theorem dc_Mo_response_62 : decode cb_Mo_response 62 = .ok (.iaload, 1) := by decide +kernel
theorem dc_Mo_response_63 : decode cb_Mo_response 63 = .ok (.i2l, 1) := by decide +kernel
theorem dc_Mo_response_64 : decode cb_Mo_response 64 = .ok (.iload_n 2, 1) := by decide +kernel
theorem dc_Mo_response_65 : decode cb_Mo_response 65 = .ok (.i2l, 1) := by decide +kernel
theorem dc_Mo_response_66 : decode cb_Mo_response 66 = .ok (.invokestatic 99, 3) := by decide +kernel
theorem dc_Mo_response_69 : decode cb_Mo_response 69 = .ok (.lstore 4, 2) := by decide +kernel
theorem dc_Mo_response_71 : decode cb_Mo_response 71 = .ok (.ldc2_w 85, 3) := by decide +kernel
theorem dc_Mo_response_74 : decode cb_Mo_response 74 = .ok (.aload_n 0, 1) := by decide +kernel
theorem dc_Mo_response_75 : decode cb_Mo_response 75 = .ok (.getfield 13, 3) := by decide +kernel
theorem dc_Mo_response_78 : decode cb_Mo_response 78 = .ok (.iload_n 3, 1) := by decide +kernel
theorem dc_Mo_response_79 : decode cb_Mo_response 79 = .ok (.iconst 3, 1) := by decide +kernel
theorem dc_Mo_response_80 : decode cb_Mo_response 80 = .ok (.iadd, 1) := by decide +kernel
theorem dc_Mo_response_81 : decode cb_Mo_response 81 = .ok (.iaload, 1) := by decide +kernel
theorem dc_Mo_response_82 : decode cb_Mo_response 82 = .ok (.i2l, 1) := by decide +kernel
theorem dc_Mo_response_83 : decode cb_Mo_response 83 = .ok (.aload_n 0, 1) := by decide +kernel
theorem dc_Mo_response_84 : decode cb_Mo_response 84 = .ok (.getfield 13, 3) := by decide +kernel
theorem dc_Mo_response_87 : decode cb_Mo_response 87 = .ok (.iload_n 3, 1) := by decide +kernel
theorem dc_Mo_response_88 : decode cb_Mo_response 88 = .ok (.iconst 4, 1) := by decide +kernel
theorem dc_Mo_response_89 : decode cb_Mo_response 89 = .ok (.iadd, 1) := by decide +kernel
theorem dc_Mo_response_90 : decode cb_Mo_response 90 = .ok (.iaload, 1) := by decide +kernel
theorem dc_Mo_response_91 : decode cb_Mo_response 91 = .ok (.i2l, 1) := by decide +kernel
theorem dc_Mo_response_92 : decode cb_Mo_response 92 = .ok (.iload_n 2, 1) := by decide +kernel
theorem dc_Mo_response_93 : decode cb_Mo_response 93 = .ok (.i2l, 1) := by decide +kernel
theorem dc_Mo_response_94 : decode cb_Mo_response 94 = .ok (.invokestatic 99, 3) := by decide +kernel
theorem dc_Mo_response_97 : decode cb_Mo_response 97 = .ok (.lstore 6, 2) := by decide +kernel
theorem dc_Mo_response_99 : decode cb_Mo_response 99 = .ok (.lload 4, 2) := by decide +kernel
theorem dc_Mo_response_101 : decode cb_Mo_response 101 = .ok (.lload 6, 2) := by decide +kernel
theorem dc_Mo_response_103 : decode cb_Mo_response 103 = .ok (.ldiv, 1) := by decide +kernel
theorem dc_Mo_response_104 : decode cb_Mo_response 104 = .ok (.lstore 8, 2) := by decide +kernel
theorem dc_Mo_response_106 : decode cb_Mo_response 106 = .ok (.lload 4, 2) := by decide +kernel
theorem dc_Mo_response_108 : decode cb_Mo_response 108 = .ok (.lload 6, 2) := by decide +kernel
theorem dc_Mo_response_110 : decode cb_Mo_response 110 = .ok (.lrem, 1) := by decide +kernel
theorem dc_Mo_response_111 : decode cb_Mo_response 111 = .ok (.lstore 10, 2) := by decide +kernel
theorem dc_Mo_response_113 : decode cb_Mo_response 113 = .ok (.iconst 0, 1) := by decide +kernel
theorem dc_Mo_response_114 : decode cb_Mo_response 114 = .ok (.istore 12, 2) := by decide +kernel
theorem dc_Mo_response_116 : decode cb_Mo_response 116 = .ok (.iload 12, 2) := by decide +kernel
theorem dc_Mo_response_118 : decode cb_Mo_response 118 = .ok (.bipush 12, 2) := by decide +kernel
theorem dc_Mo_response_120 : decode cb_Mo_response 120 = .ok (.if_icmp .ge 55, 3) := by decide +kernel
theorem dc_Mo_response_123 : decode cb_Mo_response 123 = .ok (.lload 8, 2) := by decide +kernel
theorem dc_Mo_response_125 : decode cb_Mo_response 125 = .ok (.ldc2_w 103, 3) := by decide +kernel
theorem dc_Mo_response_128 : decode cb_Mo_response 128 = .ok (.lcmp, 1) := by decide +kernel
theorem dc_Mo_response_129 : decode cb_Mo_response 129 = .ok (.ifCond .gt 46, 3) := by decide +kernel
theorem dc_Mo_response_132 : decode cb_Mo_response 132 = .ok (.ldc2_w 38, 3) := by decide +kernel
theorem dc_Mo_response_135 : decode cb_Mo_response 135 = .ok (.lload 10, 2) := by decide +kernel
theorem dc_Mo_response_137 : decode cb_Mo_response 137 = .ok (.lmul, 1) := by decide +kernel
theorem dc_Mo_response_138 : decode cb_Mo_response 138 = .ok (.lstore 10, 2) := by decide +kernel
theorem dc_Mo_response_140 : decode cb_Mo_response 140 = .ok (.ldc2_w 38, 3) := by decide +kernel
theorem dc_Mo_response_143 : decode cb_Mo_response 143 = .ok (.lload 8, 2) := by decide +kernel
theorem dc_Mo_response_145 : decode cb_Mo_response 145 = .ok (.lmul, 1) := by decide +kernel
theorem dc_Mo_response_146 : decode cb_Mo_response 146 = .ok (.lstore 8, 2) := by decide +kernel
theorem dc_Mo_response_148 : decode cb_Mo_response 148 = .ok (.lload 10, 2) := by decide +kernel
theorem dc_Mo_response_150 : decode cb_Mo_response 150 = .ok (.lload 6, 2) := by decide +kernel
theorem dc_Mo_response_152 : decode cb_Mo_response 152 = .ok (.lcmp, 1) := by decide +kernel
theorem dc_Mo_response_153 : decode cb_Mo_response 153 = .ok (.ifCond .lt 16, 3) := by decide +kernel
theorem dc_Mo_response_156 : decode cb_Mo_response 156 = .ok (.lload 10, 2) := by decide +kernel
theorem dc_Mo_response_158 : decode cb_Mo_response 158 = .ok (.lload 6, 2) := by decide +kernel
theorem dc_Mo_response_160 : decode cb_Mo_response 160 = .ok (.lsub, 1) := by decide +kernel
theorem dc_Mo_response_161 : decode cb_Mo_response 161 = .ok (.lstore 10, 2) := by decide +kernel
theorem dc_Mo_response_163 : decode cb_Mo_response 163 = .ok (.lload 8, 2) := by decide +kernel
theorem dc_Mo_response_165 : decode cb_Mo_response 165 = .ok (.lconst 1, 1) := by decide +kernel
theorem dc_Mo_response_166 : decode cb_Mo_response 166 = .ok (.ladd, 1) := by decide +kernel
theorem dc_Mo_response_167 : decode cb_Mo_response 167 = .ok (.lstore 8, 2) := by decide +kernel
theorem dc_Mo_response_169 : decode cb_Mo_response 169 = .ok (.iinc 12 1, 3) := by decide +kernel
theorem dc_Mo_response_172 : decode cb_Mo_response 172 = .ok (.goto (-56), 3) := by decide +kernel
theorem dc_Mo_response_175 : decode cb_Mo_response 175 = .ok (.lload 8, 2) := by decide +kernel
theorem dc_Mo_response_177 : decode cb_Mo_response 177 = .ok (.ldc2_w 103, 3) := by decide +kernel
theorem dc_Mo_response_180 : decode cb_Mo_response 180 = .ok (.lcmp, 1) := by decide +kernel
theorem dc_Mo_response_181 : decode cb_Mo_response 181 = .ok (.ifCond .le 8, 3) := by decide +kernel
theorem dc_Mo_response_184 : decode cb_Mo_response 184 = .ok (.ldc 105, 2) := by decide +kernel
theorem dc_Mo_response_186 : decode cb_Mo_response 186 = .ok (.goto 6, 3) := by decide +kernel
theorem dc_Mo_response_189 : decode cb_Mo_response 189 = .ok (.lload 8, 2) := by decide +kernel
theorem dc_Mo_response_191 : decode cb_Mo_response 191 = .ok (.l2i, 1) := by decide +kernel
theorem dc_Mo_response_192 : decode cb_Mo_response 192 = .ok (.ireturn, 1) := by decide +kernel
theorem yk_Mo_response : fq_Y my_Mo_response cb_Mo_response 13 (some .int) 2 := ⟨wd_895, wd_36, by decide +kernel⟩
theorem dc_Mo_sinkByte_0 : decode cb_Mo_sinkByte 0 = .ok (.iload_n 1, 1) := by decide +kernel
theorem dc_Mo_sinkByte_1 : decode cb_Mo_sinkByte 1 = .ok (.ifCond .lt 16, 3) := by decide +kernel
theorem dc_Mo_sinkByte_4 : decode cb_Mo_sinkByte 4 = .ok (.iload_n 1, 1) := by decide +kernel
theorem dc_Mo_sinkByte_5 : decode cb_Mo_sinkByte 5 = .ok (.aload_n 0, 1) := by decide +kernel
theorem dc_Mo_sinkByte_6 : decode cb_Mo_sinkByte 6 = .ok (.getfield 20, 3) := by decide +kernel
theorem dc_Mo_sinkByte_9 : decode cb_Mo_sinkByte 9 = .ok (.idiv, 1) := by decide +kernel
theorem dc_Mo_sinkByte_10 : decode cb_Mo_sinkByte 10 = .ok (.aload_n 0, 1) := by decide +kernel
theorem dc_Mo_sinkByte_11 : decode cb_Mo_sinkByte 11 = .ok (.getfield 156, 3) := by decide +kernel
theorem dc_Mo_sinkByte_14 : decode cb_Mo_sinkByte 14 = .ok (.if_icmp .lt 5, 3) := by decide +kernel
theorem dc_Mo_sinkByte_17 : decode cb_Mo_sinkByte 17 = .ok (.iconst (-1), 1) := by decide +kernel
theorem dc_Mo_sinkByte_18 : decode cb_Mo_sinkByte 18 = .ok (.ireturn, 1) := by decide +kernel
theorem dc_Mo_sinkByte_19 : decode cb_Mo_sinkByte 19 = .ok (.aload_n 0, 1) := by decide +kernel
theorem dc_Mo_sinkByte_20 : decode cb_Mo_sinkByte 20 = .ok (.getfield 29, 3) := by decide +kernel
theorem dc_Mo_sinkByte_23 : decode cb_Mo_sinkByte 23 = .ok (.iload_n 1, 1) := by decide +kernel
theorem dc_Mo_sinkByte_24 : decode cb_Mo_sinkByte 24 = .ok (.aload_n 0, 1) := by decide +kernel
theorem dc_Mo_sinkByte_25 : decode cb_Mo_sinkByte 25 = .ok (.getfield 20, 3) := by decide +kernel
theorem dc_Mo_sinkByte_28 : decode cb_Mo_sinkByte 28 = .ok (.idiv, 1) := by decide +kernel
theorem dc_Mo_sinkByte_29 : decode cb_Mo_sinkByte 29 = .ok (.iaload, 1) := by decide +kernel
theorem dc_Mo_sinkByte_30 : decode cb_Mo_sinkByte 30 = .ok (.i2l, 1) := by decide +kernel
theorem dc_Mo_sinkByte_31 : decode cb_Mo_sinkByte 31 = .ok (.lstore_n 2, 1) := by decide +kernel
theorem dc_Mo_sinkByte_32 : decode cb_Mo_sinkByte 32 = .ok (.aload_n 0, 1) := by decide +kernel
theorem dc_Mo_sinkByte_33 : decode cb_Mo_sinkByte 33 = .ok (.getfield 20, 3) := by decide +kernel
theorem dc_Mo_sinkByte_36 : decode cb_Mo_sinkByte 36 = .ok (.iconst 4, 1) := by decide +kernel
theorem dc_Mo_sinkByte_37 : decode cb_Mo_sinkByte 37 = .ok (.if_icmp .ne 11, 3) := by decide +kernel
theorem dc_Mo_sinkByte_40 : decode cb_Mo_sinkByte 40 = .ok (.ldc2_w 71, 3) := by decide +kernel
theorem dc_Mo_sinkByte_43 : decode cb_Mo_sinkByte 43 = .ok (.lload_n 2, 1) := by decide +kernel
theorem dc_Mo_sinkByte_44 : decode cb_Mo_sinkByte 44 = .ok (.lmul, 1) := by decide +kernel
theorem dc_Mo_sinkByte_45 : decode cb_Mo_sinkByte 45 = .ok (.goto 4, 3) := by decide +kernel
theorem dc_Mo_sinkByte_48 : decode cb_Mo_sinkByte 48 = .ok (.lload_n 2, 1) := by decide +kernel
theorem dc_Mo_sinkByte_49 : decode cb_Mo_sinkByte 49 = .ok (.lstore 4, 2) := by decide +kernel
theorem dc_Mo_sinkByte_51 : decode cb_Mo_sinkByte 51 = .ok (.aload_n 0, 1) := by decide +kernel
theorem dc_Mo_sinkByte_52 : decode cb_Mo_sinkByte 52 = .ok (.getfield 20, 3) := by decide +kernel
theorem dc_Mo_sinkByte_55 : decode cb_Mo_sinkByte 55 = .ok (.iconst 1, 1) := by decide +kernel
theorem dc_Mo_sinkByte_56 : decode cb_Mo_sinkByte 56 = .ok (.if_icmp .ne 44, 3) := by decide +kernel
theorem dc_Mo_sinkByte_59 : decode cb_Mo_sinkByte 59 = .ok (.lload_n 2, 1) := by decide +kernel
theorem dc_Mo_sinkByte_60 : decode cb_Mo_sinkByte 60 = .ok (.ldc2_w 181, 3) := by decide +kernel
theorem dc_Mo_sinkByte_63 : decode cb_Mo_sinkByte 63 = .ok (.ladd, 1) := by decide +kernel
theorem dc_Mo_sinkByte_64 : decode cb_Mo_sinkByte 64 = .ok (.ldc2_w 69, 3) := by decide +kernel
theorem dc_Mo_sinkByte_67 : decode cb_Mo_sinkByte 67 = .ok (.invokestatic 40, 3) := by decide +kernel
theorem dc_Mo_sinkByte_70 : decode cb_Mo_sinkByte 70 = .ok (.ldc2_w 183, 3) := by decide +kernel
theorem dc_Mo_sinkByte_73 : decode cb_Mo_sinkByte 73 = .ok (.lcmp, 1) := by decide +kernel
theorem dc_Mo_sinkByte_74 : decode cb_Mo_sinkByte 74 = .ok (.ifCond .le 9, 3) := by decide +kernel
theorem dc_Mo_sinkByte_77 : decode cb_Mo_sinkByte 77 = .ok (.ldc2_w 185, 3) := by decide +kernel
theorem dc_Mo_sinkByte_80 : decode cb_Mo_sinkByte 80 = .ok (.goto 18, 3) := by decide +kernel
theorem dc_Mo_sinkByte_83 : decode cb_Mo_sinkByte 83 = .ok (.ldc2_w 165, 3) := by decide +kernel
theorem dc_Mo_sinkByte_86 : decode cb_Mo_sinkByte 86 = .ok (.lload_n 2, 1) := by decide +kernel
theorem dc_Mo_sinkByte_87 : decode cb_Mo_sinkByte 87 = .ok (.ldc2_w 181, 3) := by decide +kernel
theorem dc_Mo_sinkByte_90 : decode cb_Mo_sinkByte 90 = .ok (.ladd, 1) := by decide +kernel
theorem dc_Mo_sinkByte_91 : decode cb_Mo_sinkByte 91 = .ok (.ldc2_w 69, 3) := by decide +kernel
theorem dc_Mo_sinkByte_94 : decode cb_Mo_sinkByte 94 = .ok (.invokestatic 40, 3) := by decide +kernel
theorem dc_Mo_sinkByte_97 : decode cb_Mo_sinkByte 97 = .ok (.ladd, 1) := by decide +kernel
theorem dc_Mo_sinkByte_98 : decode cb_Mo_sinkByte 98 = .ok (.lstore 4, 2) := by decide +kernel
theorem dc_Mo_sinkByte_100 : decode cb_Mo_sinkByte 100 = .ok (.aload_n 0, 1) := by decide +kernel
theorem dc_Mo_sinkByte_101 : decode cb_Mo_sinkByte 101 = .ok (.getfield 20, 3) := by decide +kernel
theorem dc_Mo_sinkByte_104 : decode cb_Mo_sinkByte 104 = .ok (.iconst 2, 1) := by decide +kernel
theorem dc_Mo_sinkByte_105 : decode cb_Mo_sinkByte 105 = .ok (.if_icmp .ne 40, 3) := by decide +kernel
theorem dc_Mo_sinkByte_108 : decode cb_Mo_sinkByte 108 = .ok (.lload_n 2, 1) := by decide +kernel
theorem dc_Mo_sinkByte_109 : decode cb_Mo_sinkByte 109 = .ok (.ldc2_w 165, 3) := by decide +kernel
theorem dc_Mo_sinkByte_112 : decode cb_Mo_sinkByte 112 = .ok (.ladd, 1) := by decide +kernel
theorem dc_Mo_sinkByte_113 : decode cb_Mo_sinkByte 113 = .ok (.ldc2_w 71, 3) := by decide +kernel
theorem dc_Mo_sinkByte_116 : decode cb_Mo_sinkByte 116 = .ok (.invokestatic 40, 3) := by decide +kernel
theorem dc_Mo_sinkByte_119 : decode cb_Mo_sinkByte 119 = .ok (.ldc2_w 187, 3) := by decide +kernel
theorem dc_Mo_sinkByte_122 : decode cb_Mo_sinkByte 122 = .ok (.lcmp, 1) := by decide +kernel
theorem dc_Mo_sinkByte_123 : decode cb_Mo_sinkByte 123 = .ok (.ifCond .le 9, 3) := by decide +kernel
theorem dc_Mo_sinkByte_126 : decode cb_Mo_sinkByte 126 = .ok (.ldc2_w 187, 3) := by decide +kernel
theorem dc_Mo_sinkByte_129 : decode cb_Mo_sinkByte 129 = .ok (.goto 14, 3) := by decide +kernel
theorem dc_Mo_sinkByte_132 : decode cb_Mo_sinkByte 132 = .ok (.lload_n 2, 1) := by decide +kernel
theorem dc_Mo_sinkByte_133 : decode cb_Mo_sinkByte 133 = .ok (.ldc2_w 165, 3) := by decide +kernel
theorem dc_Mo_sinkByte_136 : decode cb_Mo_sinkByte 136 = .ok (.ladd, 1) := by decide +kernel
theorem dc_Mo_sinkByte_137 : decode cb_Mo_sinkByte 137 = .ok (.ldc2_w 71, 3) := by decide +kernel
theorem dc_Mo_sinkByte_140 : decode cb_Mo_sinkByte 140 = .ok (.invokestatic 40, 3) := by decide +kernel
theorem dc_Mo_sinkByte_143 : decode cb_Mo_sinkByte 143 = .ok (.lstore 4, 2) := by decide +kernel
theorem dc_Mo_sinkByte_145 : decode cb_Mo_sinkByte 145 = .ok (.aload_n 0, 1) := by decide +kernel
theorem dc_Mo_sinkByte_146 : decode cb_Mo_sinkByte 146 = .ok (.getfield 91, 3) := by decide +kernel
theorem dc_Mo_sinkByte_149 : decode cb_Mo_sinkByte 149 = .ok (.ifCond .eq 19, 3) := by decide +kernel
theorem dc_Mo_sinkByte_152 : decode cb_Mo_sinkByte 152 = .ok (.aload_n 0, 1) := by decide +kernel
theorem dc_Mo_sinkByte_153 : decode cb_Mo_sinkByte 153 = .ok (.getfield 20, 3) := by decide +kernel
theorem dc_Mo_sinkByte_156 : decode cb_Mo_sinkByte 156 = .ok (.iconst 1, 1) := by decide +kernel
theorem dc_Mo_sinkByte_157 : decode cb_Mo_sinkByte 157 = .ok (.isub, 1) := by decide +kernel
theorem dc_Mo_sinkByte_158 : decode cb_Mo_sinkByte 158 = .ok (.iload_n 1, 1) := by decide +kernel
theorem dc_Mo_sinkByte_159 : decode cb_Mo_sinkByte 159 = .ok (.aload_n 0, 1) := by decide +kernel
theorem dc_Mo_sinkByte_160 : decode cb_Mo_sinkByte 160 = .ok (.getfield 20, 3) := by decide +kernel
theorem dc_Mo_sinkByte_163 : decode cb_Mo_sinkByte 163 = .ok (.irem, 1) := by decide +kernel
theorem dc_Mo_sinkByte_164 : decode cb_Mo_sinkByte 164 = .ok (.isub, 1) := by decide +kernel
theorem dc_Mo_sinkByte_165 : decode cb_Mo_sinkByte 165 = .ok (.goto 9, 3) := by decide +kernel
theorem dc_Mo_sinkByte_168 : decode cb_Mo_sinkByte 168 = .ok (.iload_n 1, 1) := by decide +kernel
theorem dc_Mo_sinkByte_169 : decode cb_Mo_sinkByte 169 = .ok (.aload_n 0, 1) := by decide +kernel
theorem dc_Mo_sinkByte_170 : decode cb_Mo_sinkByte 170 = .ok (.getfield 20, 3) := by decide +kernel
theorem dc_Mo_sinkByte_173 : decode cb_Mo_sinkByte 173 = .ok (.irem, 1) := by decide +kernel
theorem dc_Mo_sinkByte_174 : decode cb_Mo_sinkByte 174 = .ok (.istore 6, 2) := by decide +kernel
theorem dc_Mo_sinkByte_176 : decode cb_Mo_sinkByte 176 = .ok (.lload 4, 2) := by decide +kernel
theorem dc_Mo_sinkByte_178 : decode cb_Mo_sinkByte 178 = .ok (.bipush 8, 2) := by decide +kernel
theorem dc_Mo_sinkByte_180 : decode cb_Mo_sinkByte 180 = .ok (.iload 6, 2) := by decide +kernel
theorem dc_Mo_sinkByte_182 : decode cb_Mo_sinkByte 182 = .ok (.imul, 1) := by decide +kernel
theorem dc_Mo_sinkByte_183 : decode cb_Mo_sinkByte 183 = .ok (.lshr, 1) := by decide +kernel
theorem dc_Mo_sinkByte_184 : decode cb_Mo_sinkByte 184 = .ok (.l2i, 1) := by decide +kernel
theorem dc_Mo_sinkByte_185 : decode cb_Mo_sinkByte 185 = .ok (.sipush 255, 3) := by decide +kernel
theorem dc_Mo_sinkByte_188 : decode cb_Mo_sinkByte 188 = .ok (.iand, 1) := by decide +kernel
theorem dc_Mo_sinkByte_189 : decode cb_Mo_sinkByte 189 = .ok (.ireturn, 1) := by decide +kernel
theorem yk_Mo_sinkByte : fq_Y my_Mo_sinkByte cb_Mo_sinkByte 7 (some .int) 1 := ⟨wd_991, wd_36, by decide +kernel⟩
theorem dc_Mo_power_0 : decode cb_Mo_power 0 = .ok (.aload_n 0, 1) := by decide +kernel
theorem dc_Mo_power_1 : decode cb_Mo_power 1 = .ok (.getfield 156, 3) := by decide +kernel
theorem dc_Mo_power_4 : decode cb_Mo_power 4 = .ok (.bipush 12, 2) := by decide +kernel
theorem dc_Mo_power_6 : decode cb_Mo_power 6 = .ok (.idiv, 1) := by decide +kernel
theorem dc_Mo_power_7 : decode cb_Mo_power 7 = .ok (.iconst 1, 1) := by decide +kernel
theorem dc_Mo_power_8 : decode cb_Mo_power 8 = .ok (.isub, 1) := by decide +kernel
theorem dc_Mo_power_9 : decode cb_Mo_power 9 = .ok (.istore_n 2, 1) := by decide +kernel
theorem dc_Mo_power_10 : decode cb_Mo_power 10 = .ok (.iload_n 2, 1) := by decide +kernel
theorem dc_Mo_power_11 : decode cb_Mo_power 11 = .ok (.ifCond .lt 12, 3) := by decide +kernel
theorem dc_Mo_power_14 : decode cb_Mo_power 14 = .ok (.iload_n 1, 1) := by decide +kernel
theorem dc_Mo_power_15 : decode cb_Mo_power 15 = .ok (.ifCond .lt 8, 3) := by decide +kernel
theorem dc_Mo_power_18 : decode cb_Mo_power 18 = .ok (.iload_n 1, 1) := by decide +kernel
theorem dc_Mo_power_19 : decode cb_Mo_power 19 = .ok (.iconst 4, 1) := by decide +kernel
theorem dc_Mo_power_20 : decode cb_Mo_power 20 = .ok (.if_icmp .le 7, 3) := by decide +kernel
theorem dc_Mo_power_23 : decode cb_Mo_power 23 = .ok (.ldc2_w 189, 3) := by decide +kernel
theorem dc_Mo_power_26 : decode cb_Mo_power 26 = .ok (.lreturn, 1) := by decide +kernel
theorem dc_Mo_power_27 : decode cb_Mo_power 27 = .ok (.ldc2_w 38, 3) := by decide +kernel
theorem dc_Mo_power_30 : decode cb_Mo_power 30 = .ok (.iload_n 1, 1) := by decide +kernel
theorem dc_Mo_power_31 : decode cb_Mo_power 31 = .ok (.i2l, 1) := by decide +kernel
theorem dc_Mo_power_32 : decode cb_Mo_power 32 = .ok (.lsub, 1) := by decide +kernel
theorem dc_Mo_power_33 : decode cb_Mo_power 33 = .ok (.lstore_n 3, 1) := by decide +kernel
theorem dc_Mo_power_34 : decode cb_Mo_power 34 = .ok (.lconst 1, 1) := by decide +kernel
theorem dc_Mo_power_35 : decode cb_Mo_power 35 = .ok (.lstore 5, 2) := by decide +kernel
theorem dc_Mo_power_37 : decode cb_Mo_power 37 = .ok (.lconst 0, 1) := by decide +kernel
theorem dc_Mo_power_38 : decode cb_Mo_power 38 = .ok (.lstore 7, 2) := by decide +kernel
theorem dc_Mo_power_40 : decode cb_Mo_power 40 = .ok (.lconst 0, 1) := by decide +kernel
theorem dc_Mo_power_41 : decode cb_Mo_power 41 = .ok (.lstore 9, 2) := by decide +kernel
theorem dc_Mo_power_43 : decode cb_Mo_power 43 = .ok (.lconst 0, 1) := by decide +kernel
theorem dc_Mo_power_44 : decode cb_Mo_power 44 = .ok (.lstore 11, 2) := by decide +kernel
theorem dc_Mo_power_46 : decode cb_Mo_power 46 = .ok (.iconst 0, 1) := by decide +kernel
theorem dc_Mo_power_47 : decode cb_Mo_power 47 = .ok (.istore 13, 2) := by decide +kernel
theorem dc_Mo_power_49 : decode cb_Mo_power 49 = .ok (.iload 13, 2) := by decide +kernel
theorem dc_Mo_power_51 : decode cb_Mo_power 51 = .ok (.bipush 12, 2) := by decide +kernel
theorem dc_Mo_power_53 : decode cb_Mo_power 53 = .ok (.if_icmp .ge 62, 3) := by decide +kernel
theorem dc_Mo_power_56 : decode cb_Mo_power 56 = .ok (.aload_n 0, 1) := by decide +kernel
theorem dc_Mo_power_57 : decode cb_Mo_power 57 = .ok (.getfield 29, 3) := by decide +kernel
theorem dc_Mo_power_60 : decode cb_Mo_power 60 = .ok (.bipush 12, 2) := by decide +kernel
theorem dc_Mo_power_62 : decode cb_Mo_power 62 = .ok (.iload_n 2, 1) := by decide +kernel
theorem dc_Mo_power_63 : decode cb_Mo_power 63 = .ok (.imul, 1) := by decide +kernel
theorem dc_Mo_power_64 : decode cb_Mo_power 64 = .ok (.iload 13, 2) := by decide +kernel
theorem dc_Mo_power_66 : decode cb_Mo_power 66 = .ok (.iadd, 1) := by decide +kernel
theorem dc_Mo_power_67 : decode cb_Mo_power 67 = .ok (.iaload, 1) := by decide +kernel
theorem dc_Mo_power_68 : decode cb_Mo_power 68 = .ok (.i2l, 1) := by decide +kernel
theorem dc_Mo_power_69 : decode cb_Mo_power 69 = .ok (.lstore 14, 2) := by decide +kernel
theorem dc_Mo_power_71 : decode cb_Mo_power 71 = .ok (.lload 9, 2) := by decide +kernel
theorem dc_Mo_power_73 : decode cb_Mo_power 73 = .ok (.lload 5, 2) := by decide +kernel
theorem dc_Mo_power_75 : decode cb_Mo_power 75 = .ok (.lload 14, 2) := by decide +kernel
theorem dc_Mo_power_77 : decode cb_Mo_power 77 = .ok (.lmul, 1) := by decide +kernel
theorem dc_Mo_power_78 : decode cb_Mo_power 78 = .ok (.ladd, 1) := by decide +kernel
theorem dc_Mo_power_79 : decode cb_Mo_power 79 = .ok (.lstore 9, 2) := by decide +kernel
theorem dc_Mo_power_81 : decode cb_Mo_power 81 = .ok (.lload 11, 2) := by decide +kernel
theorem dc_Mo_power_83 : decode cb_Mo_power 83 = .ok (.lload 7, 2) := by decide +kernel
theorem dc_Mo_power_85 : decode cb_Mo_power 85 = .ok (.lload 14, 2) := by decide +kernel
theorem dc_Mo_power_87 : decode cb_Mo_power 87 = .ok (.lmul, 1) := by decide +kernel
theorem dc_Mo_power_88 : decode cb_Mo_power 88 = .ok (.ladd, 1) := by decide +kernel
theorem dc_Mo_power_89 : decode cb_Mo_power 89 = .ok (.lstore 11, 2) := by decide +kernel
theorem dc_Mo_power_91 : decode cb_Mo_power 91 = .ok (.lload 5, 2) := by decide +kernel
theorem dc_Mo_power_93 : decode cb_Mo_power 93 = .ok (.lstore 16, 2) := by decide +kernel
theorem dc_Mo_power_95 : decode cb_Mo_power 95 = .ok (.lload 7, 2) := by decide +kernel
theorem dc_Mo_power_97 : decode cb_Mo_power 97 = .ok (.lneg, 1) := by decide +kernel
theorem dc_Mo_power_98 : decode cb_Mo_power 98 = .ok (.lstore 5, 2) := by decide +kernel
theorem dc_Mo_power_100 : decode cb_Mo_power 100 = .ok (.lload 16, 2) := by decide +kernel
theorem dc_Mo_power_102 : decode cb_Mo_power 102 = .ok (.lload_n 3, 1) := by decide +kernel
theorem dc_Mo_power_103 : decode cb_Mo_power 103 = .ok (.lload 7, 2) := by decide +kernel
theorem dc_Mo_power_105 : decode cb_Mo_power 105 = .ok (.lmul, 1) := by decide +kernel
theorem dc_Mo_power_106 : decode cb_Mo_power 106 = .ok (.ladd, 1) := by decide +kernel
theorem dc_Mo_power_107 : decode cb_Mo_power 107 = .ok (.lstore 7, 2) := by decide +kernel
theorem dc_Mo_power_109 : decode cb_Mo_power 109 = .ok (.iinc 13 1, 3) := by decide +kernel
theorem dc_Mo_power_112 : decode cb_Mo_power 112 = .ok (.goto (-63), 3) := by decide +kernel
theorem dc_Mo_power_115 : decode cb_Mo_power 115 = .ok (.lload 9, 2) := by decide +kernel
theorem dc_Mo_power_117 : decode cb_Mo_power 117 = .ok (.lload 9, 2) := by decide +kernel
theorem dc_Mo_power_119 : decode cb_Mo_power 119 = .ok (.lmul, 1) := by decide +kernel
theorem dc_Mo_power_120 : decode cb_Mo_power 120 = .ok (.lload_n 3, 1) := by decide +kernel
theorem dc_Mo_power_121 : decode cb_Mo_power 121 = .ok (.lload 9, 2) := by decide +kernel
theorem dc_Mo_power_123 : decode cb_Mo_power 123 = .ok (.lmul, 1) := by decide +kernel
theorem dc_Mo_power_124 : decode cb_Mo_power 124 = .ok (.lload 11, 2) := by decide +kernel
theorem dc_Mo_power_126 : decode cb_Mo_power 126 = .ok (.lmul, 1) := by decide +kernel
theorem dc_Mo_power_127 : decode cb_Mo_power 127 = .ok (.ladd, 1) := by decide +kernel
theorem dc_Mo_power_128 : decode cb_Mo_power 128 = .ok (.lload 11, 2) := by decide +kernel
theorem dc_Mo_power_130 : decode cb_Mo_power 130 = .ok (.lload 11, 2) := by decide +kernel
theorem dc_Mo_power_132 : decode cb_Mo_power 132 = .ok (.lmul, 1) := by decide +kernel
theorem dc_Mo_power_133 : decode cb_Mo_power 133 = .ok (.ladd, 1) := by decide +kernel
theorem dc_Mo_power_134 : decode cb_Mo_power 134 = .ok (.lreturn, 1) := by decide +kernel
theorem yk_Mo_power : fq_Y my_Mo_power cb_Mo_power 18 (some .long) 1 := ⟨wd_999, wd_36, by decide +kernel⟩
set_option maxHeartbeats 4000000 in
set_option maxRecDepth 100000 in
theorem ct_Mo_square (l : Launch) (D : va_G) (cI cO : ClassId) (tE : Nat) (p q t k : Int64) (sz : Nat) : Met l my_Mo_square (fq_w my_Mo_square cb_Mo_square 12 (some .long)) ({ frames := 0, cells := 0, slots := 0, locals := 0 }) (va_Pc ([.long p, .long q, .long t, .long k]) (fq_Pre D cI cO tE sz ([]))) (va_Ql (S := va_W) (fun r w => w = [] ∧ r = mq_s p q t k) (fq_Bw D (va_A ([]) sz)) (va_A ([]) sz)) (0) (0) (va_A ([]) sz) := by
  refine fq_open (by decide +kernel) (Nat.le_of_ble_eq_true rfl) ?_
  intro pg ev s mt below meth cd ls K hret hlk hin hK hZ hP hD hA hS hl
  generalize va_A ([]) sz = A at hZ hD hA hS ⊢
  have K : fq_Ctx pg mt cd cb_Mo_square 12 s _ cn_Mo := K
  have hl : lv_has ls 12 [(0, .long p), (2, .long q), (4, .long t), (6, .long k)] := hl
  refine lv_lload_n K.1 K.2.1 dc_Mo_square_0 rfl (lv_at hl 0 rfl) ?_
  refine lv_lload K.1 K.2.1 dc_Mo_square_1 (lv_at hl 2 rfl) ?_
  refine lv_ladd K.1 K.2.1 dc_Mo_square_3 ?_
  refine lv_ldc2 (v := 256) K.1 K.2.1 K.2.2.2.1 (K.2.2.2.2 _ wd_860) dc_Mo_square_4 ?_
  refine lv_lload K.1 K.2.1 dc_Mo_square_7 (lv_at hl 3 rfl) ?_
  refine lv_lload K.1 K.2.1 dc_Mo_square_9 (lv_at hl 3 rfl) ?_
  refine lv_lmul K.1 K.2.1 dc_Mo_square_11 ?_
  refine lv_lsub K.1 K.2.1 dc_Mo_square_12 ?_
  refine lv_lmul K.1 K.2.1 dc_Mo_square_13 ?_
  refine lv_lload_n K.1 K.2.1 dc_Mo_square_14 rfl (lv_at hl 1 rfl) ?_
  refine lv_ldc2 (v := 256) K.1 K.2.1 K.2.2.2.1 (K.2.2.2.2 _ wd_860) dc_Mo_square_15 ?_
  refine lv_lload K.1 K.2.1 dc_Mo_square_18 (lv_at hl 3 rfl) ?_
  refine lv_lload K.1 K.2.1 dc_Mo_square_20 (lv_at hl 3 rfl) ?_
  refine lv_lmul K.1 K.2.1 dc_Mo_square_22 ?_
  refine lv_ladd K.1 K.2.1 dc_Mo_square_23 ?_
  refine lv_lmul K.1 K.2.1 dc_Mo_square_24 ?_
  refine lv_ladd K.1 K.2.1 dc_Mo_square_25 ?_
  refine lv_topl (fun v1 e_v1 => ?_)
  refine lv_lstore K.1 K.2.1 dc_Mo_square_26 hl (by decide) rfl (fun ls hl => ?_)
  have hl : lv_has ls 12 [(8, .long v1), (0, .long p), (2, .long q), (4, .long t), (6, .long k)] := hl
  refine lv_ldc2 (v := 32) K.1 K.2.1 K.2.2.2.1 (K.2.2.2.2 _ wd_899) dc_Mo_square_28 ?_
  refine lv_lload K.1 K.2.1 dc_Mo_square_31 (lv_at hl 4 rfl) ?_
  refine lv_lmul K.1 K.2.1 dc_Mo_square_33 ?_
  refine lv_lload_n K.1 K.2.1 dc_Mo_square_34 rfl (lv_at hl 1 rfl) ?_
  refine lv_lload K.1 K.2.1 dc_Mo_square_35 (lv_at hl 3 rfl) ?_
  refine lv_lsub K.1 K.2.1 dc_Mo_square_37 ?_
  refine lv_lmul K.1 K.2.1 dc_Mo_square_38 ?_
  refine lv_topl (fun v2 e_v2 => ?_)
  refine lv_lstore K.1 K.2.1 dc_Mo_square_39 hl (by decide) rfl (fun ls hl => ?_)
  have hl : lv_has ls 12 [(10, .long v2), (8, .long v1), (0, .long p), (2, .long q), (4, .long t), (6, .long k)] := hl
  refine lv_lload K.1 K.2.1 dc_Mo_square_41 (lv_at hl 1 rfl) ?_
  refine lv_lload K.1 K.2.1 dc_Mo_square_43 (lv_at hl 1 rfl) ?_
  refine lv_lmul K.1 K.2.1 dc_Mo_square_45 ?_
  refine lv_lload K.1 K.2.1 dc_Mo_square_46 (lv_at hl 0 rfl) ?_
  refine lv_lload K.1 K.2.1 dc_Mo_square_48 (lv_at hl 0 rfl) ?_
  refine lv_lmul K.1 K.2.1 dc_Mo_square_50 ?_
  refine lv_ladd K.1 K.2.1 dc_Mo_square_51 ?_
  exact fq_retl K hret hlk hS hP hD ⟨rfl, by rw [e_v1, e_v2]; rfl⟩ dc_Mo_square_52 (Nat.le_of_ble_eq_true rfl) (Nat.le_of_ble_eq_true rfl)
set_option maxHeartbeats 4000000 in
set_option maxRecDepth 100000 in
theorem ct_Mo_response (l : Launch) (D : va_G) (cI cO : ClassId) (tE : Nat) (h aK aN aB aS aL aX : Nat) (rm : Nat) (sd : Bool) (ns : Nat) (iw : Nat) (ow : Nat) (ih : Bool) (oh : Bool) (ca : Nat) (us : Nat) (cl : Bool) (fl : Bool) (tk : Nat) (md : Nat) (gi : Nat) (su : Nat) (ps : Nat) (cs : Nat) (fK fN fB fS fL fX : Nat → Int32) (sps : List fm_S) (hns : ns = sps.length) (hn5 : ns ≤ 5) (hKN : mo_K fK fN sps) (hok : ∀ sp ∈ sps, fm_ok sp) (xn y : Int32) (sz : Nat) : Met l my_Mo_response (fq_w my_Mo_response cb_Mo_response 13 (some .int)) ({ frames := 1, cells := 0, slots := 0, locals := 31 }) (va_Pc ([.ref h, .int xn, .int y]) (fq_Pre D cI cO tE sz ([(h, .inr (12, [.int (nI rm), .int (fq_b sd), .int (nI ns), .ref aK, .ref aN, .int (nI iw), .int (nI ow), .int (fq_b ih), .int (fq_b oh), .ref aB, .int (nI ca), .int (nI us), .int (fq_b cl), .int (fq_b fl), .ref aS, .int (nI tk), .ref aL, .ref aX, .int (nI md), .int (nI gi), .int (nI su), .int (nI ps), .int (nI cs)])), (aK, .inl (cI, 5, .inl fK)), (aN, .inl (cI, 25, .inl fN)), (aB, .inl (cI, 120, .inl fB)), (aS, .inl (cI, 120, .inl fS)), (aL, .inl (cI, 2300, .inl fL)), (aX, .inl (cI, 2300, .inl fX))]))) (va_Qi (S := va_W) (fun r w => w = [(h, .inr (12, [.int (nI rm), .int (fq_b sd), .int (nI ns), .ref aK, .ref aN, .int (nI iw), .int (nI ow), .int (fq_b ih), .int (fq_b oh), .ref aB, .int (nI ca), .int (nI us), .int (fq_b cl), .int (fq_b fl), .ref aS, .int (nI tk), .ref aL, .ref aX, .int (nI md), .int (nI gi), .int (nI su), .int (nI ps), .int (nI cs)])), (aK, .inl (cI, 5, .inl fK)), (aN, .inl (cI, 25, .inl fN)), (aB, .inl (cI, 120, .inl fB)), (aS, .inl (cI, 120, .inl fS)), (aL, .inl (cI, 2300, .inl fL)), (aX, .inl (cI, 2300, .inl fX))] ∧ r = rm_v sps xn y) (fq_Bw D (va_A ([(h, .inr (12, [.int (nI rm), .int (fq_b sd), .int (nI ns), .ref aK, .ref aN, .int (nI iw), .int (nI ow), .int (fq_b ih), .int (fq_b oh), .ref aB, .int (nI ca), .int (nI us), .int (fq_b cl), .int (fq_b fl), .ref aS, .int (nI tk), .ref aL, .ref aX, .int (nI md), .int (nI gi), .int (nI su), .int (nI ps), .int (nI cs)])), (aK, .inl (cI, 5, .inl fK)), (aN, .inl (cI, 25, .inl fN)), (aB, .inl (cI, 120, .inl fB)), (aS, .inl (cI, 120, .inl fS)), (aL, .inl (cI, 2300, .inl fL)), (aX, .inl (cI, 2300, .inl fX))]) sz)) (va_A ([(h, .inr (12, [.int (nI rm), .int (fq_b sd), .int (nI ns), .ref aK, .ref aN, .int (nI iw), .int (nI ow), .int (fq_b ih), .int (fq_b oh), .ref aB, .int (nI ca), .int (nI us), .int (fq_b cl), .int (fq_b fl), .ref aS, .int (nI tk), .ref aL, .ref aX, .int (nI md), .int (nI gi), .int (nI su), .int (nI ps), .int (nI cs)])), (aK, .inl (cI, 5, .inl fK)), (aN, .inl (cI, 25, .inl fN)), (aB, .inl (cI, 120, .inl fB)), (aS, .inl (cI, 120, .inl fS)), (aL, .inl (cI, 2300, .inl fL)), (aX, .inl (cI, 2300, .inl fX))]) sz)) (0) (0) (va_A ([(h, .inr (12, [.int (nI rm), .int (fq_b sd), .int (nI ns), .ref aK, .ref aN, .int (nI iw), .int (nI ow), .int (fq_b ih), .int (fq_b oh), .ref aB, .int (nI ca), .int (nI us), .int (fq_b cl), .int (fq_b fl), .ref aS, .int (nI tk), .ref aL, .ref aX, .int (nI md), .int (nI gi), .int (nI su), .int (nI ps), .int (nI cs)])), (aK, .inl (cI, 5, .inl fK)), (aN, .inl (cI, 25, .inl fN)), (aB, .inl (cI, 120, .inl fB)), (aS, .inl (cI, 120, .inl fS)), (aL, .inl (cI, 2300, .inl fL)), (aX, .inl (cI, 2300, .inl fX))]) sz) := by
  refine fq_open (by decide +kernel) (Nat.le_of_ble_eq_true rfl) ?_
  intro pg ev s mt below meth cd ls K hret hlk hin hK hZ hP hD hA hS hl
  generalize va_A ([(h, .inr (12, [.int (nI rm), .int (fq_b sd), .int (nI ns), .ref aK, .ref aN, .int (nI iw), .int (nI ow), .int (fq_b ih), .int (fq_b oh), .ref aB, .int (nI ca), .int (nI us), .int (fq_b cl), .int (fq_b fl), .ref aS, .int (nI tk), .ref aL, .ref aX, .int (nI md), .int (nI gi), .int (nI su), .int (nI ps), .int (nI cs)])), (aK, .inl (cI, 5, .inl fK)), (aN, .inl (cI, 25, .inl fN)), (aB, .inl (cI, 120, .inl fB)), (aS, .inl (cI, 120, .inl fS)), (aL, .inl (cI, 2300, .inl fL)), (aX, .inl (cI, 2300, .inl fX))]) sz = A at hZ hD hA hS ⊢
  have K : fq_Ctx pg mt cd cb_Mo_response 13 s _ cn_Mo := K
  have hl : lv_has ls 13 [(0, .ref h), (1, .int xn), (2, .int y)] := hl
  refine lv_iload_n K.1 K.2.1 dc_Mo_response_0 rfl (lv_at hl 1 rfl) ?_
  refine lv_if_lt (tgt := 22) K.1 K.2.1 dc_Mo_response_1 rfl (fun b1 => ?_) (fun b1 => ?_)
  · skip
    refine lv_iconst (v := (-1)) K.1 K.2.1 dc_Mo_response_22 (by decide) ?_
    exact fq_reti K hret hlk hS hP hD ⟨rfl, by first | exact rm_n1 b1 | exact rm_n2 hns hn5 b1 b9 | exact rm_n3 (Or.inl b13) | exact rm_n3 (Or.inr (Int32.not_le.mp b19))⟩ dc_Mo_response_23 (Nat.le_of_ble_eq_true rfl) (Nat.le_of_ble_eq_true rfl)
  · skip
    refine lv_iload_n K.1 K.2.1 dc_Mo_response_4 rfl (lv_at hl 1 rfl) ?_
    refine lv_aload_n K.1 K.2.1 dc_Mo_response_5 rfl (lv_at hl 0 rfl) ?_
    refine fq_get K hK cl_Mo hP 0 2 rfl (by decide) wd_772 rfl dc_Mo_response_6 ?_
    refine lv_icmp_ge (tgt := 22) K.1 K.2.1 dc_Mo_response_9 rfl (fun b9 => ?_) (fun b9 => ?_)
    · skip
      refine lv_iconst (v := (-1)) K.1 K.2.1 dc_Mo_response_22 (by decide) ?_
      exact fq_reti K hret hlk hS hP hD ⟨rfl, by first | exact rm_n1 b1 | exact rm_n2 hns hn5 b1 b9 | exact rm_n3 (Or.inl b13) | exact rm_n3 (Or.inr (Int32.not_le.mp b19))⟩ dc_Mo_response_23 (Nat.le_of_ble_eq_true rfl) (Nat.le_of_ble_eq_true rfl)
    · skip
      refine lv_iload_n K.1 K.2.1 dc_Mo_response_12 rfl (lv_at hl 2 rfl) ?_
      refine lv_if_lt (tgt := 22) K.1 K.2.1 dc_Mo_response_13 rfl (fun b13 => ?_) (fun b13 => ?_)
      · skip
        refine lv_iconst (v := (-1)) K.1 K.2.1 dc_Mo_response_22 (by decide) ?_
        exact fq_reti K hret hlk hS hP hD ⟨rfl, by first | exact rm_n1 b1 | exact rm_n2 hns hn5 b1 b9 | exact rm_n3 (Or.inl b13) | exact rm_n3 (Or.inr (Int32.not_le.mp b19))⟩ dc_Mo_response_23 (Nat.le_of_ble_eq_true rfl) (Nat.le_of_ble_eq_true rfl)
      · skip
        refine lv_iload_n K.1 K.2.1 dc_Mo_response_16 rfl (lv_at hl 2 rfl) ?_
        refine lv_bipush (v := 96) K.1 K.2.1 dc_Mo_response_17 (by decide) ?_
        refine lv_icmp_le (tgt := 24) K.1 K.2.1 dc_Mo_response_19 rfl (fun b19 => ?_) (fun b19 => ?_)
        · skip
          obtain ⟨j, sp, hj5, hxj, hsp⟩ := rm_j hns hn5 b1 b9
          refine lv_aload_n K.1 K.2.1 dc_Mo_response_24 rfl (lv_at hl 0 rfl) ?_
          refine fq_get K hK cl_Mo hP 0 3 rfl (by decide) wd_773 rfl dc_Mo_response_25 ?_
          refine lv_iload_n K.1 K.2.1 dc_Mo_response_28 rfl (lv_at hl 1 rfl) ?_
          refine fq_asi (y := nI j) hxj ?_
          refine fq_ald K hK hP 1 rfl (vp_in_nI (show j < 5 by omega) (by decide)) dc_Mo_response_29 ?_
          refine fq_asi (y := fK j) (by rw [nI_clamp (show j < 2 ^ 31 by omega)]) ?_
          refine fq_asi (y := nI sp.1) ((hKN j sp hsp).1) ?_
          refine lv_if_eq (tgt := 35) K.1 K.2.1 dc_Mo_response_30 rfl (fun b30 => ?_) (fun b30 => ?_)
          · skip
            have hk0 : sp.1 = 0 := (nI_eq (by have := (hok sp (List.mem_of_getElem? hsp)).1; omega) (by decide)).mp b30
            refine lv_iconst (v := 5) K.1 K.2.1 dc_Mo_response_35 (by decide) ?_
            refine lv_iload_n K.1 K.2.1 dc_Mo_response_36 rfl (lv_at hl 1 rfl) ?_
            refine fq_asi (y := nI j) hxj ?_
            refine lv_imul K.1 K.2.1 dc_Mo_response_37 ?_
            refine fq_asi (y := nI (5 * j)) (pk_mul 5 j) ?_
            refine lv_istore_n K.1 K.2.1 dc_Mo_response_38 rfl hl (by decide) rfl (fun ls hl => ?_)
            have hl : lv_has ls 13 [(3, .int (nI (5 * j))), (0, .ref h), (1, .int xn), (2, .int y)] := hl
            refine lv_aload_n K.1 K.2.1 dc_Mo_response_39 rfl (lv_at hl 1 rfl) ?_
            refine fq_get K hK cl_Mo hP 0 4 rfl (by decide) wd_774 rfl dc_Mo_response_40 ?_
            refine lv_iload_n K.1 K.2.1 dc_Mo_response_43 rfl (lv_at hl 0 rfl) ?_
            refine fq_ald K hK hP 2 rfl (vp_in_nI (show 5 * j < 25 by omega) (by decide)) dc_Mo_response_44 ?_
            refine fq_asi (y := fN (5 * j)) (by rw [nI_clamp (show 5 * j < 2 ^ 31 by omega)]) ?_
            refine lv_i2l K.1 K.2.1 dc_Mo_response_45 rfl ?_
            refine lv_aload_n K.1 K.2.1 dc_Mo_response_46 rfl (lv_at hl 1 rfl) ?_
            refine fq_get K hK cl_Mo hP 0 4 rfl (by decide) wd_774 rfl dc_Mo_response_47 ?_
            refine lv_iload_n K.1 K.2.1 dc_Mo_response_50 rfl (lv_at hl 0 rfl) ?_
            refine lv_iconst (v := 1) K.1 K.2.1 dc_Mo_response_51 (by decide) ?_
            refine lv_iadd K.1 K.2.1 dc_Mo_response_52 ?_
            refine fq_asi (y := nI (5 * j + 1)) (nI_add (5 * j) 1) ?_
            refine fq_ald K hK hP 2 rfl (vp_in_nI (show 5 * j + 1 < 25 by omega) (by decide)) dc_Mo_response_53 ?_
            refine fq_asi (y := fN (5 * j + 1)) (by rw [nI_clamp (show 5 * j + 1 < 2 ^ 31 by omega)]) ?_
            refine lv_i2l K.1 K.2.1 dc_Mo_response_54 rfl ?_
            refine lv_aload_n K.1 K.2.1 dc_Mo_response_55 rfl (lv_at hl 1 rfl) ?_
            refine fq_get K hK cl_Mo hP 0 4 rfl (by decide) wd_774 rfl dc_Mo_response_56 ?_
            refine lv_iload_n K.1 K.2.1 dc_Mo_response_59 rfl (lv_at hl 0 rfl) ?_
            refine lv_iconst (v := 2) K.1 K.2.1 dc_Mo_response_60 (by decide) ?_
            refine lv_iadd K.1 K.2.1 dc_Mo_response_61 ?_
            refine fq_asi (y := nI (5 * j + 2)) (nI_add (5 * j) 2) ?_
            refine fq_ald K hK hP 2 rfl (vp_in_nI (show 5 * j + 2 < 25 by omega) (by decide)) dc_Mo_response_62 ?_
            refine fq_asi (y := fN (5 * j + 2)) (by rw [nI_clamp (show 5 * j + 2 < 2 ^ 31 by omega)]) ?_
            refine lv_i2l K.1 K.2.1 dc_Mo_response_63 rfl ?_
            refine lv_iload_n K.1 K.2.1 dc_Mo_response_64 rfl (lv_at hl 3 rfl) ?_
            refine lv_i2l K.1 K.2.1 dc_Mo_response_65 rfl ?_
            have hc := fq_cut.of (wc := []) hP hD hS hA [] (by decide) rfl
            refine fq_cl_ (wr := [(h, .inr (12, [.int (nI rm), .int (fq_b sd), .int (nI ns), .ref aK, .ref aN, .int (nI iw), .int (nI ow), .int (fq_b ih), .int (fq_b oh), .ref aB, .int (nI ca), .int (nI us), .int (fq_b cl), .int (fq_b fl), .ref aS, .int (nI tk), .ref aL, .ref aX, .int (nI md), .int (nI gi), .int (nI su), .int (nI ps), .int (nI cs)])), (aK, .inl (cI, 5, .inl fK)), (aN, .inl (cI, 25, .inl fN)), (aB, .inl (cI, 120, .inl fB)), (aS, .inl (cI, 120, .inl fS)), (aL, .inl (cI, 2300, .inl fL)), (aX, .inl (cI, 2300, .inl fX))]) (fq_rS K hK hZ hS hc (ct_Mo_square l D cI cO tE ((fN (5 * j)).toInt64) ((fN (5 * j + 1)).toInt64) ((fN (5 * j + 2)).toInt64) y.toInt64 _) yk_Mo_square wd_897 wd_896 ⟨⟨rfl, rfl⟩, ⟨Nat.le_of_ble_eq_true rfl, Nat.le_of_ble_eq_true rfl⟩, ⟨Nat.le_of_ble_eq_true rfl, Nat.le_of_ble_eq_true rfl⟩⟩ hl.1 rfl (Nat.le_of_ble_eq_true rfl) dc_Mo_response_66) hP hD hS hc [] [0, 1, 2, 3, 4, 5, 6] rfl rfl (by decide) (by decide) (fun r1 w H locs hw1 hP hD hS => ?_)
            obtain ⟨rfl, rfl⟩ := hw1
            have hP : va_P D fq_cl ([(h, .inr (12, [.int (nI rm), .int (fq_b sd), .int (nI ns), .ref aK, .ref aN, .int (nI iw), .int (nI ow), .int (fq_b ih), .int (fq_b oh), .ref aB, .int (nI ca), .int (nI us), .int (fq_b cl), .int (fq_b fl), .ref aS, .int (nI tk), .ref aL, .ref aX, .int (nI md), .int (nI gi), .int (nI su), .int (nI ps), .int (nI cs)])), (aK, .inl (cI, 5, .inl fK)), (aN, .inl (cI, 25, .inl fN)), (aB, .inl (cI, 120, .inl fB)), (aS, .inl (cI, 120, .inl fS)), (aL, .inl (cI, 2300, .inl fL)), (aX, .inl (cI, 2300, .inl fX))]) _ := hP
            have hD : va_D A ([(h, .inr (12, [.int (nI rm), .int (fq_b sd), .int (nI ns), .ref aK, .ref aN, .int (nI iw), .int (nI ow), .int (fq_b ih), .int (fq_b oh), .ref aB, .int (nI ca), .int (nI us), .int (fq_b cl), .int (fq_b fl), .ref aS, .int (nI tk), .ref aL, .ref aX, .int (nI md), .int (nI gi), .int (nI su), .int (nI ps), .int (nI cs)])), (aK, .inl (cI, 5, .inl fK)), (aN, .inl (cI, 25, .inl fN)), (aB, .inl (cI, 120, .inl fB)), (aS, .inl (cI, 120, .inl fS)), (aL, .inl (cI, 2300, .inl fL)), (aX, .inl (cI, 2300, .inl fX))]) := hD
            refine lv_topl (fun v1 e_v1 => ?_)
            refine lv_lstore K.1 K.2.1 dc_Mo_response_69 hl (by decide) rfl (fun ls hl => ?_)
            have hl : lv_has ls 13 [(4, .long v1), (3, .int (nI (5 * j))), (0, .ref h), (1, .int xn), (2, .int y)] := hl
            refine lv_ldc2 (v := 16384) K.1 K.2.1 K.2.2.2.1 (K.2.2.2.2 _ wd_872) dc_Mo_response_71 ?_
            refine lv_aload_n K.1 K.2.1 dc_Mo_response_74 rfl (lv_at hl 2 rfl) ?_
            refine fq_get K hK cl_Mo hP 0 4 rfl (by decide) wd_774 rfl dc_Mo_response_75 ?_
            refine lv_iload_n K.1 K.2.1 dc_Mo_response_78 rfl (lv_at hl 1 rfl) ?_
            refine lv_iconst (v := 3) K.1 K.2.1 dc_Mo_response_79 (by decide) ?_
            refine lv_iadd K.1 K.2.1 dc_Mo_response_80 ?_
            refine fq_asi (y := nI (5 * j + 3)) (nI_add (5 * j) 3) ?_
            refine fq_ald K hK hP 2 rfl (vp_in_nI (show 5 * j + 3 < 25 by omega) (by decide)) dc_Mo_response_81 ?_
            refine fq_asi (y := fN (5 * j + 3)) (by rw [nI_clamp (show 5 * j + 3 < 2 ^ 31 by omega)]) ?_
            refine lv_i2l K.1 K.2.1 dc_Mo_response_82 rfl ?_
            refine lv_aload_n K.1 K.2.1 dc_Mo_response_83 rfl (lv_at hl 2 rfl) ?_
            refine fq_get K hK cl_Mo hP 0 4 rfl (by decide) wd_774 rfl dc_Mo_response_84 ?_
            refine lv_iload_n K.1 K.2.1 dc_Mo_response_87 rfl (lv_at hl 1 rfl) ?_
            refine lv_iconst (v := 4) K.1 K.2.1 dc_Mo_response_88 (by decide) ?_
            refine lv_iadd K.1 K.2.1 dc_Mo_response_89 ?_
            refine fq_asi (y := nI (5 * j + 4)) (nI_add (5 * j) 4) ?_
            refine fq_ald K hK hP 2 rfl (vp_in_nI (show 5 * j + 4 < 25 by omega) (by decide)) dc_Mo_response_90 ?_
            refine fq_asi (y := fN (5 * j + 4)) (by rw [nI_clamp (show 5 * j + 4 < 2 ^ 31 by omega)]) ?_
            refine lv_i2l K.1 K.2.1 dc_Mo_response_91 rfl ?_
            refine lv_iload_n K.1 K.2.1 dc_Mo_response_92 rfl (lv_at hl 4 rfl) ?_
            refine lv_i2l K.1 K.2.1 dc_Mo_response_93 rfl ?_
            have hc := fq_cut.of (wc := []) hP hD hS hA [] (by decide) rfl
            refine fq_cl_ (wr := [(h, .inr (12, [.int (nI rm), .int (fq_b sd), .int (nI ns), .ref aK, .ref aN, .int (nI iw), .int (nI ow), .int (fq_b ih), .int (fq_b oh), .ref aB, .int (nI ca), .int (nI us), .int (fq_b cl), .int (fq_b fl), .ref aS, .int (nI tk), .ref aL, .ref aX, .int (nI md), .int (nI gi), .int (nI su), .int (nI ps), .int (nI cs)])), (aK, .inl (cI, 5, .inl fK)), (aN, .inl (cI, 25, .inl fN)), (aB, .inl (cI, 120, .inl fB)), (aS, .inl (cI, 120, .inl fS)), (aL, .inl (cI, 2300, .inl fL)), (aX, .inl (cI, 2300, .inl fX))]) (fq_rS K hK hZ hS hc (ct_Mo_square l D cI cO tE 16384 ((fN (5 * j + 3)).toInt64) ((fN (5 * j + 4)).toInt64) y.toInt64 _) yk_Mo_square wd_897 wd_896 ⟨⟨rfl, rfl⟩, ⟨Nat.le_of_ble_eq_true rfl, Nat.le_of_ble_eq_true rfl⟩, ⟨Nat.le_of_ble_eq_true rfl, Nat.le_of_ble_eq_true rfl⟩⟩ hl.1 rfl (Nat.le_of_ble_eq_true rfl) dc_Mo_response_94) hP hD hS hc [] [0, 1, 2, 3, 4, 5, 6] rfl rfl (by decide) (by decide) (fun r2 w H locs hw2 hP hD hS => ?_)
            obtain ⟨rfl, rfl⟩ := hw2
            have hP : va_P D fq_cl ([(h, .inr (12, [.int (nI rm), .int (fq_b sd), .int (nI ns), .ref aK, .ref aN, .int (nI iw), .int (nI ow), .int (fq_b ih), .int (fq_b oh), .ref aB, .int (nI ca), .int (nI us), .int (fq_b cl), .int (fq_b fl), .ref aS, .int (nI tk), .ref aL, .ref aX, .int (nI md), .int (nI gi), .int (nI su), .int (nI ps), .int (nI cs)])), (aK, .inl (cI, 5, .inl fK)), (aN, .inl (cI, 25, .inl fN)), (aB, .inl (cI, 120, .inl fB)), (aS, .inl (cI, 120, .inl fS)), (aL, .inl (cI, 2300, .inl fL)), (aX, .inl (cI, 2300, .inl fX))]) _ := hP
            have hD : va_D A ([(h, .inr (12, [.int (nI rm), .int (fq_b sd), .int (nI ns), .ref aK, .ref aN, .int (nI iw), .int (nI ow), .int (fq_b ih), .int (fq_b oh), .ref aB, .int (nI ca), .int (nI us), .int (fq_b cl), .int (fq_b fl), .ref aS, .int (nI tk), .ref aL, .ref aX, .int (nI md), .int (nI gi), .int (nI su), .int (nI ps), .int (nI cs)])), (aK, .inl (cI, 5, .inl fK)), (aN, .inl (cI, 25, .inl fN)), (aB, .inl (cI, 120, .inl fB)), (aS, .inl (cI, 120, .inl fS)), (aL, .inl (cI, 2300, .inl fL)), (aX, .inl (cI, 2300, .inl fX))]) := hD
            refine lv_topl (fun v2 e_v2 => ?_)
            refine lv_lstore K.1 K.2.1 dc_Mo_response_97 hl (by decide) rfl (fun ls hl => ?_)
            have hl : lv_has ls 13 [(6, .long v2), (4, .long v1), (3, .int (nI (5 * j))), (0, .ref h), (1, .int xn), (2, .int y)] := hl
            have hyb := rm_yb b13 b19
            have hx0 := rm_a (hok sp (List.mem_of_getElem? hsp)) hk0 (hKN j sp hsp).2.1 hyb e_v1
            have hy0 := rm_b (hok sp (List.mem_of_getElem? hsp)) hk0 (hKN j sp hsp).2.2 (hKN j sp hsp).2.1 hyb e_v2
            have hq0 := mr_q hx0 hy0
            have hne : v2 ≠ 0 := fun z => by rw [z] at hy0; exact absurd hy0 (by decide)
            refine lv_lload K.1 K.2.1 dc_Mo_response_99 (lv_at hl 1 rfl) ?_
            refine lv_lload K.1 K.2.1 dc_Mo_response_101 (lv_at hl 0 rfl) ?_
            refine lv_ldiv K.1 K.2.1 dc_Mo_response_103 hne ?_
            refine lv_topl (fun v3 e_v3 => ?_)
            refine lv_lstore K.1 K.2.1 dc_Mo_response_104 hl (by decide) rfl (fun ls hl => ?_)
            have hl : lv_has ls 13 [(8, .long v3), (6, .long v2), (4, .long v1), (3, .int (nI (5 * j))), (0, .ref h), (1, .int xn), (2, .int y)] := hl
            refine lv_lload K.1 K.2.1 dc_Mo_response_106 (lv_at hl 2 rfl) ?_
            refine lv_lload K.1 K.2.1 dc_Mo_response_108 (lv_at hl 1 rfl) ?_
            refine lv_lrem K.1 K.2.1 dc_Mo_response_110 hne ?_
            refine lv_topl (fun v4 e_v4 => ?_)
            refine lv_lstore K.1 K.2.1 dc_Mo_response_111 hl (by decide) rfl (fun ls hl => ?_)
            have hl : lv_has ls 13 [(10, .long v4), (8, .long v3), (6, .long v2), (4, .long v1), (3, .int (nI (5 * j))), (0, .ref h), (1, .int xn), (2, .int y)] := hl
            refine lv_iconst (v := 0) K.1 K.2.1 dc_Mo_response_113 (by decide) ?_
            refine lv_istore K.1 K.2.1 dc_Mo_response_114 hl (by decide) rfl (fun ls hl => ?_)
            have hl : lv_has ls 13 [(12, .int 0), (10, .long v4), (8, .long v3), (6, .long v2), (4, .long v1), (3, .int (nI (5 * j))), (0, .ref h), (1, .int xn), (2, .int y)] := hl
            refine fq_lp (σ := Nat × Int64 × Int64) (fun x => 12 - x.1) (fun x H locs ls => (mr_I v1 v2 x.1 x.2.1 x.2.2) ∧ lv_has ls 13 [(6, .long v2), (8, .long x.2.1), (10, .long x.2.2), (12, .int (nI x.1))] ∧ va_P D fq_cl ([(h, .inr (12, [.int (nI rm), .int (fq_b sd), .int (nI ns), .ref aK, .ref aN, .int (nI iw), .int (nI ow), .int (fq_b ih), .int (fq_b oh), .ref aB, .int (nI ca), .int (nI us), .int (fq_b cl), .int (fq_b fl), .ref aS, .int (nI tk), .ref aL, .ref aX, .int (nI md), .int (nI gi), .int (nI su), .int (nI ps), .int (nI cs)])), (aK, .inl (cI, 5, .inl fK)), (aN, .inl (cI, 25, .inl fN)), (aB, .inl (cI, 120, .inl fB)), (aS, .inl (cI, 120, .inl fS)), (aL, .inl (cI, 2300, .inl fL)), (aX, .inl (cI, 2300, .inl fX))]) H ∧ va_D A ([(h, .inr (12, [.int (nI rm), .int (fq_b sd), .int (nI ns), .ref aK, .ref aN, .int (nI iw), .int (nI ow), .int (fq_b ih), .int (fq_b oh), .ref aB, .int (nI ca), .int (nI us), .int (fq_b cl), .int (fq_b fl), .ref aS, .int (nI tk), .ref aL, .ref aX, .int (nI md), .int (nI gi), .int (nI su), .int (nI ps), .int (nI cs)])), (aK, .inl (cI, 5, .inl fK)), (aN, .inl (cI, 25, .inl fN)), (aB, .inl (cI, 120, .inl fB)), (aS, .inl (cI, 120, .inl fS)), (aL, .inl (cI, 2300, .inl fL)), (aX, .inl (cI, 2300, .inl fX))]) ∧ va_S A s.heap H locs) ?_ (0, v3, v4) _ _ _ ⟨(by rw [e_v3, e_v4]; exact mr_0), lv_sub hl [3, 2, 1, 0] rfl, hP, hD, hS⟩
            rintro ⟨n, wh, re⟩ H locs ls ⟨hI116, hl, hP, hD, hS⟩ ih116
            have hI116 : mr_I v1 v2 n wh re := hI116
            have hl : lv_has ls 13 [(6, .long v2), (8, .long wh), (10, .long re), (12, .int (nI n))] := hl
            have hP : va_P D fq_cl ([(h, .inr (12, [.int (nI rm), .int (fq_b sd), .int (nI ns), .ref aK, .ref aN, .int (nI iw), .int (nI ow), .int (fq_b ih), .int (fq_b oh), .ref aB, .int (nI ca), .int (nI us), .int (fq_b cl), .int (fq_b fl), .ref aS, .int (nI tk), .ref aL, .ref aX, .int (nI md), .int (nI gi), .int (nI su), .int (nI ps), .int (nI cs)])), (aK, .inl (cI, 5, .inl fK)), (aN, .inl (cI, 25, .inl fN)), (aB, .inl (cI, 120, .inl fB)), (aS, .inl (cI, 120, .inl fS)), (aL, .inl (cI, 2300, .inl fL)), (aX, .inl (cI, 2300, .inl fX))]) _ := hP
            have hD : va_D A ([(h, .inr (12, [.int (nI rm), .int (fq_b sd), .int (nI ns), .ref aK, .ref aN, .int (nI iw), .int (nI ow), .int (fq_b ih), .int (fq_b oh), .ref aB, .int (nI ca), .int (nI us), .int (fq_b cl), .int (fq_b fl), .ref aS, .int (nI tk), .ref aL, .ref aX, .int (nI md), .int (nI gi), .int (nI su), .int (nI ps), .int (nI cs)])), (aK, .inl (cI, 5, .inl fK)), (aN, .inl (cI, 25, .inl fN)), (aB, .inl (cI, 120, .inl fB)), (aS, .inl (cI, 120, .inl fS)), (aL, .inl (cI, 2300, .inl fL)), (aX, .inl (cI, 2300, .inl fX))]) := hD
            refine lv_iload K.1 K.2.1 dc_Mo_response_116 (lv_at hl 3 rfl) ?_
            refine lv_bipush (v := 12) K.1 K.2.1 dc_Mo_response_118 (by decide) ?_
            refine lv_icmp_ge (tgt := 175) K.1 K.2.1 dc_Mo_response_120 rfl (fun b120 => ?_) (fun b120 => ?_)
            · skip
              have hend : n = 12 ∨ ¬ wh ≤ 2147483647 := Or.inl (sr_c hI116.1 b120)
              refine lv_lload K.1 K.2.1 dc_Mo_response_175 (lv_at hl 1 rfl) ?_
              refine lv_ldc2 (v := 2147483647) K.1 K.2.1 K.2.2.2.1 (K.2.2.2.2 _ wd_900) dc_Mo_response_177 ?_
              refine W.lcmp K.1 K.2.1 dc_Mo_response_180 ?_
              refine lv_if_le (tgt := 189) K.1 K.2.1 dc_Mo_response_181 rfl (fun b181 => ?_) (fun b181 => ?_)
              · skip
                rw [lg_cmp_le] at b181
                refine lv_lload K.1 K.2.1 dc_Mo_response_189 (lv_at hl 1 rfl) ?_
                refine lv_l2i K.1 K.2.1 dc_Mo_response_191 rfl ?_
                exact fq_reti K hret hlk hS hP hD ⟨rfl, (by rw [← rm_y hj5 hxj hsp hk0 (hKN j sp hsp).2.1 b13 b19, ← e_v1, ← e_v2, ← mr_f hy0 hq0 hI116 hend]; unfold mr_v; rw [if_pos b181])⟩ dc_Mo_response_192 (Nat.le_of_ble_eq_true rfl) (Nat.le_of_ble_eq_true rfl)
              · skip
                rw [lg_cmp_le] at b181
                refine lv_ldc (v := 2147483647) K.1 K.2.1 K.2.2.2.1 (K.2.2.2.2 _ wd_901) dc_Mo_response_184 ?_
                refine lv_goto (tgt := 192) K.1 K.2.1 dc_Mo_response_186 rfl ?_
                exact fq_reti K hret hlk hS hP hD ⟨rfl, (by rw [← rm_y hj5 hxj hsp hk0 (hKN j sp hsp).2.1 b13 b19, ← e_v1, ← e_v2, ← mr_f hy0 hq0 hI116 hend]; unfold mr_v; rw [if_neg b181])⟩ dc_Mo_response_192 (Nat.le_of_ble_eq_true rfl) (Nat.le_of_ble_eq_true rfl)
            · skip
              have hn : n < 12 := sr_d hI116.1 b120
              refine lv_lload K.1 K.2.1 dc_Mo_response_123 (lv_at hl 1 rfl) ?_
              refine lv_ldc2 (v := 2147483647) K.1 K.2.1 K.2.2.2.1 (K.2.2.2.2 _ wd_900) dc_Mo_response_125 ?_
              refine W.lcmp K.1 K.2.1 dc_Mo_response_128 ?_
              refine lv_if_gt (tgt := 175) K.1 K.2.1 dc_Mo_response_129 rfl (fun b129 => ?_) (fun b129 => ?_)
              · skip
                rw [lg_cmp_gt] at b129
                have hend : n = 12 ∨ ¬ wh ≤ 2147483647 := Or.inr (Int64.not_le.mpr b129)
                refine lv_lload K.1 K.2.1 dc_Mo_response_175 (lv_at hl 1 rfl) ?_
                refine lv_ldc2 (v := 2147483647) K.1 K.2.1 K.2.2.2.1 (K.2.2.2.2 _ wd_900) dc_Mo_response_177 ?_
                refine W.lcmp K.1 K.2.1 dc_Mo_response_180 ?_
                refine lv_if_le (tgt := 189) K.1 K.2.1 dc_Mo_response_181 rfl (fun b181 => ?_) (fun b181 => ?_)
                · skip
                  rw [lg_cmp_le] at b181
                  refine lv_lload K.1 K.2.1 dc_Mo_response_189 (lv_at hl 1 rfl) ?_
                  refine lv_l2i K.1 K.2.1 dc_Mo_response_191 rfl ?_
                  exact fq_reti K hret hlk hS hP hD ⟨rfl, (by rw [← rm_y hj5 hxj hsp hk0 (hKN j sp hsp).2.1 b13 b19, ← e_v1, ← e_v2, ← mr_f hy0 hq0 hI116 hend]; unfold mr_v; rw [if_pos b181])⟩ dc_Mo_response_192 (Nat.le_of_ble_eq_true rfl) (Nat.le_of_ble_eq_true rfl)
                · skip
                  rw [lg_cmp_le] at b181
                  refine lv_ldc (v := 2147483647) K.1 K.2.1 K.2.2.2.1 (K.2.2.2.2 _ wd_901) dc_Mo_response_184 ?_
                  refine lv_goto (tgt := 192) K.1 K.2.1 dc_Mo_response_186 rfl ?_
                  exact fq_reti K hret hlk hS hP hD ⟨rfl, (by rw [← rm_y hj5 hxj hsp hk0 (hKN j sp hsp).2.1 b13 b19, ← e_v1, ← e_v2, ← mr_f hy0 hq0 hI116 hend]; unfold mr_v; rw [if_neg b181])⟩ dc_Mo_response_192 (Nat.le_of_ble_eq_true rfl) (Nat.le_of_ble_eq_true rfl)
              · skip
                rw [lg_cmp_gt] at b129
                have hw : wh ≤ 2147483647 := Int64.not_lt.mp b129
                refine lv_ldc2 (v := 2) K.1 K.2.1 K.2.2.2.1 (K.2.2.2.2 _ wd_866) dc_Mo_response_132 ?_
                refine lv_lload K.1 K.2.1 dc_Mo_response_135 (lv_at hl 2 rfl) ?_
                refine lv_lmul K.1 K.2.1 dc_Mo_response_137 ?_
                refine lv_topl (fun v5 e_v5 => ?_)
                refine lv_lstore K.1 K.2.1 dc_Mo_response_138 hl (by decide) rfl (fun ls hl => ?_)
                have hl : lv_has ls 13 [(10, .long v5), (6, .long v2), (8, .long wh), (12, .int (nI n))] := hl
                refine lv_ldc2 (v := 2) K.1 K.2.1 K.2.2.2.1 (K.2.2.2.2 _ wd_866) dc_Mo_response_140 ?_
                refine lv_lload K.1 K.2.1 dc_Mo_response_143 (lv_at hl 2 rfl) ?_
                refine lv_lmul K.1 K.2.1 dc_Mo_response_145 ?_
                refine lv_topl (fun v6 e_v6 => ?_)
                refine lv_lstore K.1 K.2.1 dc_Mo_response_146 hl (by decide) rfl (fun ls hl => ?_)
                have hl : lv_has ls 13 [(8, .long v6), (10, .long v5), (6, .long v2), (12, .int (nI n))] := hl
                refine lv_lload K.1 K.2.1 dc_Mo_response_148 (lv_at hl 1 rfl) ?_
                refine lv_lload K.1 K.2.1 dc_Mo_response_150 (lv_at hl 2 rfl) ?_
                refine W.lcmp K.1 K.2.1 dc_Mo_response_152 ?_
                refine lv_if_lt (tgt := 169) K.1 K.2.1 dc_Mo_response_153 rfl (fun b153 => ?_) (fun b153 => ?_)
                · skip
                  rw [lg_cmp_lt] at b153
                  refine lv_iinc (v := nI (n + 1)) K.1 K.2.1 dc_Mo_response_169 hl (k := 3) rfl (nI_1 n) (by decide) rfl (fun ls hl => ?_)
                  have hl : lv_has ls 13 [(12, .int (nI (n + 1))), (8, .long v6), (10, .long v5), (6, .long v2)] := hl
                  refine lv_goto (tgt := 116) K.1 K.2.1 dc_Mo_response_172 rfl ?_
                  exact ih116 (n + 1, v6, v5) _ _ _ (by show 12 - (n + 1) < 12 - n; omega) ⟨(mr_a hq0 hI116 hn hw e_v5 e_v6 b153), lv_sub hl [3, 1, 2, 0] rfl, hP, hD, hS⟩
                · skip
                  rw [lg_cmp_lt] at b153
                  refine lv_lload K.1 K.2.1 dc_Mo_response_156 (lv_at hl 1 rfl) ?_
                  refine lv_lload K.1 K.2.1 dc_Mo_response_158 (lv_at hl 2 rfl) ?_
                  refine lv_lsub K.1 K.2.1 dc_Mo_response_160 ?_
                  refine lv_topl (fun v7 e_v7 => ?_)
                  refine lv_lstore K.1 K.2.1 dc_Mo_response_161 hl (by decide) rfl (fun ls hl => ?_)
                  have hl : lv_has ls 13 [(10, .long v7), (8, .long v6), (6, .long v2), (12, .int (nI n))] := hl
                  refine lv_lload K.1 K.2.1 dc_Mo_response_163 (lv_at hl 1 rfl) ?_
                  refine lv_lconst (v := 1) K.1 K.2.1 dc_Mo_response_165 (by decide) ?_
                  refine lv_ladd K.1 K.2.1 dc_Mo_response_166 ?_
                  refine lv_topl (fun v8 e_v8 => ?_)
                  refine lv_lstore K.1 K.2.1 dc_Mo_response_167 hl (by decide) rfl (fun ls hl => ?_)
                  have hl : lv_has ls 13 [(8, .long v8), (10, .long v7), (6, .long v2), (12, .int (nI n))] := hl
                  refine lv_iinc (v := nI (n + 1)) K.1 K.2.1 dc_Mo_response_169 hl (k := 3) rfl (nI_1 n) (by decide) rfl (fun ls hl => ?_)
                  have hl : lv_has ls 13 [(12, .int (nI (n + 1))), (8, .long v8), (10, .long v7), (6, .long v2)] := hl
                  refine lv_goto (tgt := 116) K.1 K.2.1 dc_Mo_response_172 rfl ?_
                  exact ih116 (n + 1, v8, v7) _ _ _ (by show 12 - (n + 1) < 12 - n; omega) ⟨(mr_c hq0 hI116 hn hw e_v5 e_v6 b153 e_v7 e_v8), lv_sub hl [3, 1, 2, 0] rfl, hP, hD, hS⟩
          · skip
            have nk0 : ¬ sp.1 = 0 := fun z => b30 (by rw [z]; rfl)
            refine lv_iconst (v := (-1)) K.1 K.2.1 dc_Mo_response_33 (by decide) ?_
            exact fq_reti K hret hlk hS hP hD ⟨rfl, rm_n4 hj5 hxj hsp nk0⟩ dc_Mo_response_34 (Nat.le_of_ble_eq_true rfl) (Nat.le_of_ble_eq_true rfl)
        · skip
          refine lv_iconst (v := (-1)) K.1 K.2.1 dc_Mo_response_22 (by decide) ?_
          exact fq_reti K hret hlk hS hP hD ⟨rfl, by first | exact rm_n1 b1 | exact rm_n2 hns hn5 b1 b9 | exact rm_n3 (Or.inl b13) | exact rm_n3 (Or.inr (Int32.not_le.mp b19))⟩ dc_Mo_response_23 (Nat.le_of_ble_eq_true rfl) (Nat.le_of_ble_eq_true rfl)
set_option maxHeartbeats 4000000 in
set_option maxRecDepth 100000 in
theorem ct_Mo_sinkByte (l : Launch) (D : va_G) (cI cO : ClassId) (tE : Nat) (h aK aN aB aS aL aX : Nat) (rm : Nat) (sd : Bool) (ns : Nat) (iw : Nat) (ow : Nat) (ih : Bool) (oh : Bool) (ca : Nat) (us : Nat) (cl : Bool) (fl : Bool) (tk : Nat) (md : Nat) (gi : Nat) (su : Nat) (ps : Nat) (cs : Nat) (fK fN fB fS fL fX : Nat → Int32) (x : Int32) (hsu : su ≤ 2300) (how : 1 ≤ ow ∧ ow ≤ 4) (hall : ∀ j, j < su → fm_in (fL j).toInt) (sz : Nat) : Met l my_Mo_sinkByte (fq_w my_Mo_sinkByte cb_Mo_sinkByte 7 (some .int)) ({ frames := 1, cells := 0, slots := 0, locals := 25 }) (va_Pc ([.ref h, .int x]) (fq_Pre D cI cO tE sz ([(h, .inr (12, [.int (nI rm), .int (fq_b sd), .int (nI ns), .ref aK, .ref aN, .int (nI iw), .int (nI ow), .int (fq_b ih), .int (fq_b oh), .ref aB, .int (nI ca), .int (nI us), .int (fq_b cl), .int (fq_b fl), .ref aS, .int (nI tk), .ref aL, .ref aX, .int (nI md), .int (nI gi), .int (nI su), .int (nI ps), .int (nI cs)])), (aK, .inl (cI, 5, .inl fK)), (aN, .inl (cI, 25, .inl fN)), (aB, .inl (cI, 120, .inl fB)), (aS, .inl (cI, 120, .inl fS)), (aL, .inl (cI, 2300, .inl fL)), (aX, .inl (cI, 2300, .inl fX))]))) (va_Qi (S := va_W) (fun r w => w = [(h, .inr (12, [.int (nI rm), .int (fq_b sd), .int (nI ns), .ref aK, .ref aN, .int (nI iw), .int (nI ow), .int (fq_b ih), .int (fq_b oh), .ref aB, .int (nI ca), .int (nI us), .int (fq_b cl), .int (fq_b fl), .ref aS, .int (nI tk), .ref aL, .ref aX, .int (nI md), .int (nI gi), .int (nI su), .int (nI ps), .int (nI cs)])), (aK, .inl (cI, 5, .inl fK)), (aN, .inl (cI, 25, .inl fN)), (aB, .inl (cI, 120, .inl fB)), (aS, .inl (cI, 120, .inl fS)), (aL, .inl (cI, 2300, .inl fL)), (aX, .inl (cI, 2300, .inl fX))] ∧ r.toInt = sk_b ow oh ((pw_L fL su).map Int32.toInt) x) (fq_Bw D (va_A ([(h, .inr (12, [.int (nI rm), .int (fq_b sd), .int (nI ns), .ref aK, .ref aN, .int (nI iw), .int (nI ow), .int (fq_b ih), .int (fq_b oh), .ref aB, .int (nI ca), .int (nI us), .int (fq_b cl), .int (fq_b fl), .ref aS, .int (nI tk), .ref aL, .ref aX, .int (nI md), .int (nI gi), .int (nI su), .int (nI ps), .int (nI cs)])), (aK, .inl (cI, 5, .inl fK)), (aN, .inl (cI, 25, .inl fN)), (aB, .inl (cI, 120, .inl fB)), (aS, .inl (cI, 120, .inl fS)), (aL, .inl (cI, 2300, .inl fL)), (aX, .inl (cI, 2300, .inl fX))]) sz)) (va_A ([(h, .inr (12, [.int (nI rm), .int (fq_b sd), .int (nI ns), .ref aK, .ref aN, .int (nI iw), .int (nI ow), .int (fq_b ih), .int (fq_b oh), .ref aB, .int (nI ca), .int (nI us), .int (fq_b cl), .int (fq_b fl), .ref aS, .int (nI tk), .ref aL, .ref aX, .int (nI md), .int (nI gi), .int (nI su), .int (nI ps), .int (nI cs)])), (aK, .inl (cI, 5, .inl fK)), (aN, .inl (cI, 25, .inl fN)), (aB, .inl (cI, 120, .inl fB)), (aS, .inl (cI, 120, .inl fS)), (aL, .inl (cI, 2300, .inl fL)), (aX, .inl (cI, 2300, .inl fX))]) sz)) (0) (0) (va_A ([(h, .inr (12, [.int (nI rm), .int (fq_b sd), .int (nI ns), .ref aK, .ref aN, .int (nI iw), .int (nI ow), .int (fq_b ih), .int (fq_b oh), .ref aB, .int (nI ca), .int (nI us), .int (fq_b cl), .int (fq_b fl), .ref aS, .int (nI tk), .ref aL, .ref aX, .int (nI md), .int (nI gi), .int (nI su), .int (nI ps), .int (nI cs)])), (aK, .inl (cI, 5, .inl fK)), (aN, .inl (cI, 25, .inl fN)), (aB, .inl (cI, 120, .inl fB)), (aS, .inl (cI, 120, .inl fS)), (aL, .inl (cI, 2300, .inl fL)), (aX, .inl (cI, 2300, .inl fX))]) sz) := by
  refine fq_open (by decide +kernel) (Nat.le_of_ble_eq_true rfl) ?_
  intro pg ev s mt below meth cd ls K hret hlk hin hK hZ hP hD hA hS hl
  generalize va_A ([(h, .inr (12, [.int (nI rm), .int (fq_b sd), .int (nI ns), .ref aK, .ref aN, .int (nI iw), .int (nI ow), .int (fq_b ih), .int (fq_b oh), .ref aB, .int (nI ca), .int (nI us), .int (fq_b cl), .int (fq_b fl), .ref aS, .int (nI tk), .ref aL, .ref aX, .int (nI md), .int (nI gi), .int (nI su), .int (nI ps), .int (nI cs)])), (aK, .inl (cI, 5, .inl fK)), (aN, .inl (cI, 25, .inl fN)), (aB, .inl (cI, 120, .inl fB)), (aS, .inl (cI, 120, .inl fS)), (aL, .inl (cI, 2300, .inl fL)), (aX, .inl (cI, 2300, .inl fX))]) sz = A at hZ hD hA hS ⊢
  have K : fq_Ctx pg mt cd cb_Mo_sinkByte 7 s _ cn_Mo := K
  have hl : lv_has ls 7 [(0, .ref h), (1, .int x)] := hl
  refine lv_iload_n K.1 K.2.1 dc_Mo_sinkByte_0 rfl (lv_at hl 1 rfl) ?_
  refine lv_if_lt (tgt := 17) K.1 K.2.1 dc_Mo_sinkByte_1 rfl (fun b1 => ?_) (fun b1 => ?_)
  · skip
    refine lv_iconst (v := (-1)) K.1 K.2.1 dc_Mo_sinkByte_17 (by decide) ?_
    exact fq_reti K hret hlk hS hP hD ⟨rfl, by first | exact kb_n b1 | exact kb_h hk hxk hks⟩ dc_Mo_sinkByte_18 (Nat.le_of_ble_eq_true rfl) (Nat.le_of_ble_eq_true rfl)
  · skip
    obtain ⟨k, hk, hxk⟩ := nI_of b1
    have hkd : k / ow ≤ k := Nat.div_le_self _ _
    refine lv_iload_n K.1 K.2.1 dc_Mo_sinkByte_4 rfl (lv_at hl 1 rfl) ?_
    refine fq_asi (y := nI k) hxk ?_
    refine lv_aload_n K.1 K.2.1 dc_Mo_sinkByte_5 rfl (lv_at hl 0 rfl) ?_
    refine fq_get K hK cl_Mo hP 0 6 rfl (by decide) wd_776 rfl dc_Mo_sinkByte_6 ?_
    refine lv_idiv K.1 K.2.1 dc_Mo_sinkByte_9 (nI_ne0 (by omega) (by omega)) ?_
    refine fq_asi (y := nI (k / ow)) (pk_div hk (by omega) (by omega)) ?_
    refine lv_aload_n K.1 K.2.1 dc_Mo_sinkByte_10 rfl (lv_at hl 0 rfl) ?_
    refine fq_get K hK cl_Mo hP 0 20 rfl (by decide) wd_790 rfl dc_Mo_sinkByte_11 ?_
    refine lv_icmp_lt (tgt := 19) K.1 K.2.1 dc_Mo_sinkByte_14 rfl (fun b14 => ?_) (fun b14 => ?_)
    · skip
      have hks : k / ow < su := (nI_ltI (by omega) (by omega)).mp b14
      refine lv_aload_n K.1 K.2.1 dc_Mo_sinkByte_19 rfl (lv_at hl 0 rfl) ?_
      refine fq_get K hK cl_Mo hP 0 16 rfl (by decide) wd_786 rfl dc_Mo_sinkByte_20 ?_
      refine lv_iload_n K.1 K.2.1 dc_Mo_sinkByte_23 rfl (lv_at hl 1 rfl) ?_
      refine fq_asi (y := nI k) hxk ?_
      refine lv_aload_n K.1 K.2.1 dc_Mo_sinkByte_24 rfl (lv_at hl 0 rfl) ?_
      refine fq_get K hK cl_Mo hP 0 6 rfl (by decide) wd_776 rfl dc_Mo_sinkByte_25 ?_
      refine lv_idiv K.1 K.2.1 dc_Mo_sinkByte_28 (nI_ne0 (by omega) (by omega)) ?_
      refine fq_asi (y := nI (k / ow)) (pk_div hk (by omega) (by omega)) ?_
      refine fq_ald K hK hP 5 rfl (vp_in_nI (show k / ow < 2300 by omega) (by decide)) dc_Mo_sinkByte_29 ?_
      refine fq_asi (y := fL (k / ow)) (by rw [nI_clamp (show k / ow < 2 ^ 31 by omega)]) ?_
      refine lv_i2l K.1 K.2.1 dc_Mo_sinkByte_30 rfl ?_
      refine lv_topl (fun v1 e_v1 => ?_)
      refine lv_lstore_n K.1 K.2.1 dc_Mo_sinkByte_31 rfl hl (by decide) rfl (fun ls hl => ?_)
      have hl : lv_has ls 7 [(2, .long v1), (0, .ref h), (1, .int x)] := hl
      have hs1 : v1.toInt = (fL (k / ow)).toInt := by rw [e_v1, Kit.i64_of_i32]
      have hsin : fm_in v1.toInt := by rw [hs1]; exact hall _ hks
      refine lv_aload_n K.1 K.2.1 dc_Mo_sinkByte_32 rfl (lv_at hl 1 rfl) ?_
      refine fq_get K hK cl_Mo hP 0 6 rfl (by decide) wd_776 rfl dc_Mo_sinkByte_33 ?_
      refine lv_iconst (v := 4) K.1 K.2.1 dc_Mo_sinkByte_36 (by decide) ?_
      refine lv_icmp_ne (tgt := 48) K.1 K.2.1 dc_Mo_sinkByte_37 rfl (fun b37 => ?_) (fun b37 => ?_)
      · skip
        have nw4 : ¬ ow = 4 := fun z => b37 (by rw [z]; rfl)
        refine lv_lload_n K.1 K.2.1 dc_Mo_sinkByte_48 rfl (lv_at hl 0 rfl) ?_
        refine lv_lstore K.1 K.2.1 dc_Mo_sinkByte_49 hl (by decide) rfl (fun ls hl => ?_)
        have hl : lv_has ls 7 [(4, .long v1), (2, .long v1), (0, .ref h), (1, .int x)] := hl
        refine lv_aload_n K.1 K.2.1 dc_Mo_sinkByte_51 rfl (lv_at hl 2 rfl) ?_
        refine fq_get K hK cl_Mo hP 0 6 rfl (by decide) wd_776 rfl dc_Mo_sinkByte_52 ?_
        refine lv_iconst (v := 1) K.1 K.2.1 dc_Mo_sinkByte_55 (by decide) ?_
        refine lv_icmp_ne (tgt := 100) K.1 K.2.1 dc_Mo_sinkByte_56 rfl (fun b56 => ?_) (fun b56 => ?_)
        · skip
          have nw1 : ¬ ow = 1 := fun z => b56 (by rw [z]; rfl)
          refine lv_aload_n K.1 K.2.1 dc_Mo_sinkByte_100 rfl (lv_at hl 2 rfl) ?_
          refine fq_get K hK cl_Mo hP 0 6 rfl (by decide) wd_776 rfl dc_Mo_sinkByte_101 ?_
          refine lv_iconst (v := 2) K.1 K.2.1 dc_Mo_sinkByte_104 (by decide) ?_
          refine lv_icmp_ne (tgt := 145) K.1 K.2.1 dc_Mo_sinkByte_105 rfl (fun b105 => ?_) (fun b105 => ?_)
          · skip
            have nw2 : ¬ ow = 2 := fun z => b105 (by rw [z]; rfl)
            have hv : v1.toInt = sk_v ow (fL (k / ow)).toInt := by rw [← hs1]; exact kb_5 nw1 nw2 nw4 how
            refine lv_aload_n K.1 K.2.1 dc_Mo_sinkByte_145 rfl (lv_at hl 2 rfl) ?_
            refine fq_get K hK cl_Mo hP 0 8 rfl (by decide) wd_778 rfl dc_Mo_sinkByte_146 ?_
            refine lv_if_eq (tgt := 168) K.1 K.2.1 dc_Mo_sinkByte_149 rfl (fun b149 => ?_) (fun b149 => ?_)
            · skip
              have hoh := fq_b0 b149
              refine lv_iload_n K.1 K.2.1 dc_Mo_sinkByte_168 rfl (lv_at hl 3 rfl) ?_
              refine fq_asi (y := nI k) hxk ?_
              refine lv_aload_n K.1 K.2.1 dc_Mo_sinkByte_169 rfl (lv_at hl 2 rfl) ?_
              refine fq_get K hK cl_Mo hP 0 6 rfl (by decide) wd_776 rfl dc_Mo_sinkByte_170 ?_
              refine lv_irem K.1 K.2.1 dc_Mo_sinkByte_173 (nI_ne0 (by omega) (by omega)) ?_
              refine fq_asi (y := nI (k % ow)) (pk_rem hk (by omega) (by omega)) ?_
              refine lv_istore K.1 K.2.1 dc_Mo_sinkByte_174 hl (by decide) rfl (fun ls hl => ?_)
              have hl : lv_has ls 7 [(6, .int (nI (k % ow))), (4, .long v1), (2, .long v1), (0, .ref h), (1, .int x)] := hl
              refine lv_lload K.1 K.2.1 dc_Mo_sinkByte_176 (lv_at hl 1 rfl) ?_
              refine lv_bipush (v := 8) K.1 K.2.1 dc_Mo_sinkByte_178 (by decide) ?_
              refine lv_iload K.1 K.2.1 dc_Mo_sinkByte_180 (lv_at hl 0 rfl) ?_
              refine lv_imul K.1 K.2.1 dc_Mo_sinkByte_182 ?_
              refine fq_asi (y := nI (ly_sh ow oh (k % ow))) (ly_sh0 hoh) ?_
              refine lv_lshr K.1 K.2.1 dc_Mo_sinkByte_183 rfl ?_
              refine lv_l2i K.1 K.2.1 dc_Mo_sinkByte_184 rfl ?_
              refine lv_sipush (v := 255) K.1 K.2.1 dc_Mo_sinkByte_185 (by decide) ?_
              refine lv_iand K.1 K.2.1 dc_Mo_sinkByte_188 ?_
              exact fq_reti K hret hlk hS hP hD ⟨rfl, kb_v how hk hxk hks hv⟩ dc_Mo_sinkByte_189 (Nat.le_of_ble_eq_true rfl) (Nat.le_of_ble_eq_true rfl)
            · skip
              have hoh := fq_b1 b149
              refine lv_aload_n K.1 K.2.1 dc_Mo_sinkByte_152 rfl (lv_at hl 2 rfl) ?_
              refine fq_get K hK cl_Mo hP 0 6 rfl (by decide) wd_776 rfl dc_Mo_sinkByte_153 ?_
              refine lv_iconst (v := 1) K.1 K.2.1 dc_Mo_sinkByte_156 (by decide) ?_
              refine lv_isub K.1 K.2.1 dc_Mo_sinkByte_157 ?_
              refine fq_asi (y := nI (ow - 1)) (pk_sub (a := ow) (b := 1) (by omega)) ?_
              refine lv_iload_n K.1 K.2.1 dc_Mo_sinkByte_158 rfl (lv_at hl 3 rfl) ?_
              refine fq_asi (y := nI k) hxk ?_
              refine lv_aload_n K.1 K.2.1 dc_Mo_sinkByte_159 rfl (lv_at hl 2 rfl) ?_
              refine fq_get K hK cl_Mo hP 0 6 rfl (by decide) wd_776 rfl dc_Mo_sinkByte_160 ?_
              refine lv_irem K.1 K.2.1 dc_Mo_sinkByte_163 (nI_ne0 (by omega) (by omega)) ?_
              refine fq_asi (y := nI (k % ow)) (pk_rem hk (by omega) (by omega)) ?_
              refine lv_isub K.1 K.2.1 dc_Mo_sinkByte_164 ?_
              refine fq_asi (y := nI (ow - 1 - k % ow)) (pk_sub (by have := Nat.mod_lt k (show 0 < ow by omega); omega)) ?_
              refine lv_goto (tgt := 174) K.1 K.2.1 dc_Mo_sinkByte_165 rfl ?_
              refine lv_istore K.1 K.2.1 dc_Mo_sinkByte_174 hl (by decide) rfl (fun ls hl => ?_)
              have hl : lv_has ls 7 [(6, .int (nI (ow - 1 - k % ow))), (4, .long v1), (2, .long v1), (0, .ref h), (1, .int x)] := hl
              refine lv_lload K.1 K.2.1 dc_Mo_sinkByte_176 (lv_at hl 1 rfl) ?_
              refine lv_bipush (v := 8) K.1 K.2.1 dc_Mo_sinkByte_178 (by decide) ?_
              refine lv_iload K.1 K.2.1 dc_Mo_sinkByte_180 (lv_at hl 0 rfl) ?_
              refine lv_imul K.1 K.2.1 dc_Mo_sinkByte_182 ?_
              refine fq_asi (y := nI (ly_sh ow oh (k % ow))) (ly_sh1 hoh) ?_
              refine lv_lshr K.1 K.2.1 dc_Mo_sinkByte_183 rfl ?_
              refine lv_l2i K.1 K.2.1 dc_Mo_sinkByte_184 rfl ?_
              refine lv_sipush (v := 255) K.1 K.2.1 dc_Mo_sinkByte_185 (by decide) ?_
              refine lv_iand K.1 K.2.1 dc_Mo_sinkByte_188 ?_
              exact fq_reti K hret hlk hS hP hD ⟨rfl, kb_v how hk hxk hks hv⟩ dc_Mo_sinkByte_189 (Nat.le_of_ble_eq_true rfl) (Nat.le_of_ble_eq_true rfl)
          · skip
            have w2 : ow = 2 := (nI_eq (by omega) (by decide)).mp b105
            refine lv_lload_n K.1 K.2.1 dc_Mo_sinkByte_108 rfl (lv_at hl 1 rfl) ?_
            refine lv_ldc2 (v := 128) K.1 K.2.1 K.2.2.2.1 (K.2.2.2.2 _ wd_931) dc_Mo_sinkByte_109 ?_
            refine lv_ladd K.1 K.2.1 dc_Mo_sinkByte_112 ?_
            refine lv_ldc2 (v := 256) K.1 K.2.1 K.2.2.2.1 (K.2.2.2.2 _ wd_860) dc_Mo_sinkByte_113 ?_
            have hc := fq_cut.of (wc := []) hP hD hS hA [] (by decide) rfl
            refine fq_cl_ (wr := [(h, .inr (12, [.int (nI rm), .int (fq_b sd), .int (nI ns), .ref aK, .ref aN, .int (nI iw), .int (nI ow), .int (fq_b ih), .int (fq_b oh), .ref aB, .int (nI ca), .int (nI us), .int (fq_b cl), .int (fq_b fl), .ref aS, .int (nI tk), .ref aL, .ref aX, .int (nI md), .int (nI gi), .int (nI su), .int (nI ps), .int (nI cs)])), (aK, .inl (cI, 5, .inl fK)), (aN, .inl (cI, 25, .inl fN)), (aB, .inl (cI, 120, .inl fB)), (aS, .inl (cI, 120, .inl fS)), (aL, .inl (cI, 2300, .inl fL)), (aX, .inl (cI, 2300, .inl fX))]) (fq_rS K hK hZ hS hc (ct_Mo_floor l D cI cO tE (v1 + 128) 256 (by decide) _) yk_Mo_floor wd_868 wd_867 ⟨⟨rfl, rfl⟩, ⟨Nat.le_of_ble_eq_true rfl, Nat.le_of_ble_eq_true rfl⟩, ⟨Nat.le_of_ble_eq_true rfl, Nat.le_of_ble_eq_true rfl⟩⟩ hl.1 rfl (Nat.le_of_ble_eq_true rfl) dc_Mo_sinkByte_116) hP hD hS hc [] [0, 1, 2, 3, 4, 5, 6] rfl rfl (by decide) (by decide) (fun r1 w H locs hw1 hP hD hS => ?_)
            obtain ⟨rfl, hd1⟩ := hw1
            have hP : va_P D fq_cl ([(h, .inr (12, [.int (nI rm), .int (fq_b sd), .int (nI ns), .ref aK, .ref aN, .int (nI iw), .int (nI ow), .int (fq_b ih), .int (fq_b oh), .ref aB, .int (nI ca), .int (nI us), .int (fq_b cl), .int (fq_b fl), .ref aS, .int (nI tk), .ref aL, .ref aX, .int (nI md), .int (nI gi), .int (nI su), .int (nI ps), .int (nI cs)])), (aK, .inl (cI, 5, .inl fK)), (aN, .inl (cI, 25, .inl fN)), (aB, .inl (cI, 120, .inl fB)), (aS, .inl (cI, 120, .inl fS)), (aL, .inl (cI, 2300, .inl fL)), (aX, .inl (cI, 2300, .inl fX))]) _ := hP
            have hD : va_D A ([(h, .inr (12, [.int (nI rm), .int (fq_b sd), .int (nI ns), .ref aK, .ref aN, .int (nI iw), .int (nI ow), .int (fq_b ih), .int (fq_b oh), .ref aB, .int (nI ca), .int (nI us), .int (fq_b cl), .int (fq_b fl), .ref aS, .int (nI tk), .ref aL, .ref aX, .int (nI md), .int (nI gi), .int (nI su), .int (nI ps), .int (nI cs)])), (aK, .inl (cI, 5, .inl fK)), (aN, .inl (cI, 25, .inl fN)), (aB, .inl (cI, 120, .inl fB)), (aS, .inl (cI, 120, .inl fS)), (aL, .inl (cI, 2300, .inl fL)), (aX, .inl (cI, 2300, .inl fX))]) := hD
            refine lv_ldc2 (v := 32767) K.1 K.2.1 K.2.2.2.1 (K.2.2.2.2 _ wd_995) dc_Mo_sinkByte_119 ?_
            refine W.lcmp K.1 K.2.1 dc_Mo_sinkByte_122 ?_
            refine lv_if_le (tgt := 132) K.1 K.2.1 dc_Mo_sinkByte_123 rfl (fun b123 => ?_) (fun b123 => ?_)
            · skip
              rw [lg_cmp_le] at b123
              refine lv_lload_n K.1 K.2.1 dc_Mo_sinkByte_132 rfl (lv_at hl 1 rfl) ?_
              refine lv_ldc2 (v := 128) K.1 K.2.1 K.2.2.2.1 (K.2.2.2.2 _ wd_931) dc_Mo_sinkByte_133 ?_
              refine lv_ladd K.1 K.2.1 dc_Mo_sinkByte_136 ?_
              refine lv_ldc2 (v := 256) K.1 K.2.1 K.2.2.2.1 (K.2.2.2.2 _ wd_860) dc_Mo_sinkByte_137 ?_
              have hc := fq_cut.of (wc := []) hP hD hS hA [] (by decide) rfl
              refine fq_cl_ (wr := [(h, .inr (12, [.int (nI rm), .int (fq_b sd), .int (nI ns), .ref aK, .ref aN, .int (nI iw), .int (nI ow), .int (fq_b ih), .int (fq_b oh), .ref aB, .int (nI ca), .int (nI us), .int (fq_b cl), .int (fq_b fl), .ref aS, .int (nI tk), .ref aL, .ref aX, .int (nI md), .int (nI gi), .int (nI su), .int (nI ps), .int (nI cs)])), (aK, .inl (cI, 5, .inl fK)), (aN, .inl (cI, 25, .inl fN)), (aB, .inl (cI, 120, .inl fB)), (aS, .inl (cI, 120, .inl fS)), (aL, .inl (cI, 2300, .inl fL)), (aX, .inl (cI, 2300, .inl fX))]) (fq_rS K hK hZ hS hc (ct_Mo_floor l D cI cO tE (v1 + 128) 256 (by decide) _) yk_Mo_floor wd_868 wd_867 ⟨⟨rfl, rfl⟩, ⟨Nat.le_of_ble_eq_true rfl, Nat.le_of_ble_eq_true rfl⟩, ⟨Nat.le_of_ble_eq_true rfl, Nat.le_of_ble_eq_true rfl⟩⟩ hl.1 rfl (Nat.le_of_ble_eq_true rfl) dc_Mo_sinkByte_140) hP hD hS hc [] [0, 1, 2, 3, 4, 5, 6] rfl rfl (by decide) (by decide) (fun r2 w H locs hw2 hP hD hS => ?_)
              obtain ⟨rfl, hd2⟩ := hw2
              have hP : va_P D fq_cl ([(h, .inr (12, [.int (nI rm), .int (fq_b sd), .int (nI ns), .ref aK, .ref aN, .int (nI iw), .int (nI ow), .int (fq_b ih), .int (fq_b oh), .ref aB, .int (nI ca), .int (nI us), .int (fq_b cl), .int (fq_b fl), .ref aS, .int (nI tk), .ref aL, .ref aX, .int (nI md), .int (nI gi), .int (nI su), .int (nI ps), .int (nI cs)])), (aK, .inl (cI, 5, .inl fK)), (aN, .inl (cI, 25, .inl fN)), (aB, .inl (cI, 120, .inl fB)), (aS, .inl (cI, 120, .inl fS)), (aL, .inl (cI, 2300, .inl fL)), (aX, .inl (cI, 2300, .inl fX))]) _ := hP
              have hD : va_D A ([(h, .inr (12, [.int (nI rm), .int (fq_b sd), .int (nI ns), .ref aK, .ref aN, .int (nI iw), .int (nI ow), .int (fq_b ih), .int (fq_b oh), .ref aB, .int (nI ca), .int (nI us), .int (fq_b cl), .int (fq_b fl), .ref aS, .int (nI tk), .ref aL, .ref aX, .int (nI md), .int (nI gi), .int (nI su), .int (nI ps), .int (nI cs)])), (aK, .inl (cI, 5, .inl fK)), (aN, .inl (cI, 25, .inl fN)), (aB, .inl (cI, 120, .inl fB)), (aS, .inl (cI, 120, .inl fS)), (aL, .inl (cI, 2300, .inl fL)), (aX, .inl (cI, 2300, .inl fX))]) := hD
              refine lv_lstore K.1 K.2.1 dc_Mo_sinkByte_143 hl (by decide) rfl (fun ls hl => ?_)
              have hl : lv_has ls 7 [(4, .long r2), (2, .long v1), (0, .ref h), (1, .int x)] := hl
              have hv : (r2 : Int64).toInt = sk_v ow (fL (k / ow)).toInt := by rw [← hs1, w2]; exact kb_4 hsin hd1 hd2 b123
              refine lv_aload_n K.1 K.2.1 dc_Mo_sinkByte_145 rfl (lv_at hl 2 rfl) ?_
              refine fq_get K hK cl_Mo hP 0 8 rfl (by decide) wd_778 rfl dc_Mo_sinkByte_146 ?_
              refine lv_if_eq (tgt := 168) K.1 K.2.1 dc_Mo_sinkByte_149 rfl (fun b149 => ?_) (fun b149 => ?_)
              · skip
                have hoh := fq_b0 b149
                refine lv_iload_n K.1 K.2.1 dc_Mo_sinkByte_168 rfl (lv_at hl 3 rfl) ?_
                refine fq_asi (y := nI k) hxk ?_
                refine lv_aload_n K.1 K.2.1 dc_Mo_sinkByte_169 rfl (lv_at hl 2 rfl) ?_
                refine fq_get K hK cl_Mo hP 0 6 rfl (by decide) wd_776 rfl dc_Mo_sinkByte_170 ?_
                refine lv_irem K.1 K.2.1 dc_Mo_sinkByte_173 (nI_ne0 (by omega) (by omega)) ?_
                refine fq_asi (y := nI (k % ow)) (pk_rem hk (by omega) (by omega)) ?_
                refine lv_istore K.1 K.2.1 dc_Mo_sinkByte_174 hl (by decide) rfl (fun ls hl => ?_)
                have hl : lv_has ls 7 [(6, .int (nI (k % ow))), (4, .long r2), (2, .long v1), (0, .ref h), (1, .int x)] := hl
                refine lv_lload K.1 K.2.1 dc_Mo_sinkByte_176 (lv_at hl 1 rfl) ?_
                refine lv_bipush (v := 8) K.1 K.2.1 dc_Mo_sinkByte_178 (by decide) ?_
                refine lv_iload K.1 K.2.1 dc_Mo_sinkByte_180 (lv_at hl 0 rfl) ?_
                refine lv_imul K.1 K.2.1 dc_Mo_sinkByte_182 ?_
                refine fq_asi (y := nI (ly_sh ow oh (k % ow))) (ly_sh0 hoh) ?_
                refine lv_lshr K.1 K.2.1 dc_Mo_sinkByte_183 rfl ?_
                refine lv_l2i K.1 K.2.1 dc_Mo_sinkByte_184 rfl ?_
                refine lv_sipush (v := 255) K.1 K.2.1 dc_Mo_sinkByte_185 (by decide) ?_
                refine lv_iand K.1 K.2.1 dc_Mo_sinkByte_188 ?_
                exact fq_reti K hret hlk hS hP hD ⟨rfl, kb_v how hk hxk hks hv⟩ dc_Mo_sinkByte_189 (Nat.le_of_ble_eq_true rfl) (Nat.le_of_ble_eq_true rfl)
              · skip
                have hoh := fq_b1 b149
                refine lv_aload_n K.1 K.2.1 dc_Mo_sinkByte_152 rfl (lv_at hl 2 rfl) ?_
                refine fq_get K hK cl_Mo hP 0 6 rfl (by decide) wd_776 rfl dc_Mo_sinkByte_153 ?_
                refine lv_iconst (v := 1) K.1 K.2.1 dc_Mo_sinkByte_156 (by decide) ?_
                refine lv_isub K.1 K.2.1 dc_Mo_sinkByte_157 ?_
                refine fq_asi (y := nI (ow - 1)) (pk_sub (a := ow) (b := 1) (by omega)) ?_
                refine lv_iload_n K.1 K.2.1 dc_Mo_sinkByte_158 rfl (lv_at hl 3 rfl) ?_
                refine fq_asi (y := nI k) hxk ?_
                refine lv_aload_n K.1 K.2.1 dc_Mo_sinkByte_159 rfl (lv_at hl 2 rfl) ?_
                refine fq_get K hK cl_Mo hP 0 6 rfl (by decide) wd_776 rfl dc_Mo_sinkByte_160 ?_
                refine lv_irem K.1 K.2.1 dc_Mo_sinkByte_163 (nI_ne0 (by omega) (by omega)) ?_
                refine fq_asi (y := nI (k % ow)) (pk_rem hk (by omega) (by omega)) ?_
                refine lv_isub K.1 K.2.1 dc_Mo_sinkByte_164 ?_
                refine fq_asi (y := nI (ow - 1 - k % ow)) (pk_sub (by have := Nat.mod_lt k (show 0 < ow by omega); omega)) ?_
                refine lv_goto (tgt := 174) K.1 K.2.1 dc_Mo_sinkByte_165 rfl ?_
                refine lv_istore K.1 K.2.1 dc_Mo_sinkByte_174 hl (by decide) rfl (fun ls hl => ?_)
                have hl : lv_has ls 7 [(6, .int (nI (ow - 1 - k % ow))), (4, .long r2), (2, .long v1), (0, .ref h), (1, .int x)] := hl
                refine lv_lload K.1 K.2.1 dc_Mo_sinkByte_176 (lv_at hl 1 rfl) ?_
                refine lv_bipush (v := 8) K.1 K.2.1 dc_Mo_sinkByte_178 (by decide) ?_
                refine lv_iload K.1 K.2.1 dc_Mo_sinkByte_180 (lv_at hl 0 rfl) ?_
                refine lv_imul K.1 K.2.1 dc_Mo_sinkByte_182 ?_
                refine fq_asi (y := nI (ly_sh ow oh (k % ow))) (ly_sh1 hoh) ?_
                refine lv_lshr K.1 K.2.1 dc_Mo_sinkByte_183 rfl ?_
                refine lv_l2i K.1 K.2.1 dc_Mo_sinkByte_184 rfl ?_
                refine lv_sipush (v := 255) K.1 K.2.1 dc_Mo_sinkByte_185 (by decide) ?_
                refine lv_iand K.1 K.2.1 dc_Mo_sinkByte_188 ?_
                exact fq_reti K hret hlk hS hP hD ⟨rfl, kb_v how hk hxk hks hv⟩ dc_Mo_sinkByte_189 (Nat.le_of_ble_eq_true rfl) (Nat.le_of_ble_eq_true rfl)
            · skip
              rw [lg_cmp_le] at b123
              refine lv_ldc2 (v := 32767) K.1 K.2.1 K.2.2.2.1 (K.2.2.2.2 _ wd_995) dc_Mo_sinkByte_126 ?_
              refine lv_goto (tgt := 143) K.1 K.2.1 dc_Mo_sinkByte_129 rfl ?_
              refine lv_lstore K.1 K.2.1 dc_Mo_sinkByte_143 hl (by decide) rfl (fun ls hl => ?_)
              have hl : lv_has ls 7 [(4, .long 32767), (2, .long v1), (0, .ref h), (1, .int x)] := hl
              have hv : (32767 : Int64).toInt = sk_v ow (fL (k / ow)).toInt := by rw [← hs1, w2]; exact kb_3 hsin hd1 b123
              refine lv_aload_n K.1 K.2.1 dc_Mo_sinkByte_145 rfl (lv_at hl 2 rfl) ?_
              refine fq_get K hK cl_Mo hP 0 8 rfl (by decide) wd_778 rfl dc_Mo_sinkByte_146 ?_
              refine lv_if_eq (tgt := 168) K.1 K.2.1 dc_Mo_sinkByte_149 rfl (fun b149 => ?_) (fun b149 => ?_)
              · skip
                have hoh := fq_b0 b149
                refine lv_iload_n K.1 K.2.1 dc_Mo_sinkByte_168 rfl (lv_at hl 3 rfl) ?_
                refine fq_asi (y := nI k) hxk ?_
                refine lv_aload_n K.1 K.2.1 dc_Mo_sinkByte_169 rfl (lv_at hl 2 rfl) ?_
                refine fq_get K hK cl_Mo hP 0 6 rfl (by decide) wd_776 rfl dc_Mo_sinkByte_170 ?_
                refine lv_irem K.1 K.2.1 dc_Mo_sinkByte_173 (nI_ne0 (by omega) (by omega)) ?_
                refine fq_asi (y := nI (k % ow)) (pk_rem hk (by omega) (by omega)) ?_
                refine lv_istore K.1 K.2.1 dc_Mo_sinkByte_174 hl (by decide) rfl (fun ls hl => ?_)
                have hl : lv_has ls 7 [(6, .int (nI (k % ow))), (4, .long 32767), (2, .long v1), (0, .ref h), (1, .int x)] := hl
                refine lv_lload K.1 K.2.1 dc_Mo_sinkByte_176 (lv_at hl 1 rfl) ?_
                refine lv_bipush (v := 8) K.1 K.2.1 dc_Mo_sinkByte_178 (by decide) ?_
                refine lv_iload K.1 K.2.1 dc_Mo_sinkByte_180 (lv_at hl 0 rfl) ?_
                refine lv_imul K.1 K.2.1 dc_Mo_sinkByte_182 ?_
                refine fq_asi (y := nI (ly_sh ow oh (k % ow))) (ly_sh0 hoh) ?_
                refine lv_lshr K.1 K.2.1 dc_Mo_sinkByte_183 rfl ?_
                refine lv_l2i K.1 K.2.1 dc_Mo_sinkByte_184 rfl ?_
                refine lv_sipush (v := 255) K.1 K.2.1 dc_Mo_sinkByte_185 (by decide) ?_
                refine lv_iand K.1 K.2.1 dc_Mo_sinkByte_188 ?_
                exact fq_reti K hret hlk hS hP hD ⟨rfl, kb_v how hk hxk hks hv⟩ dc_Mo_sinkByte_189 (Nat.le_of_ble_eq_true rfl) (Nat.le_of_ble_eq_true rfl)
              · skip
                have hoh := fq_b1 b149
                refine lv_aload_n K.1 K.2.1 dc_Mo_sinkByte_152 rfl (lv_at hl 2 rfl) ?_
                refine fq_get K hK cl_Mo hP 0 6 rfl (by decide) wd_776 rfl dc_Mo_sinkByte_153 ?_
                refine lv_iconst (v := 1) K.1 K.2.1 dc_Mo_sinkByte_156 (by decide) ?_
                refine lv_isub K.1 K.2.1 dc_Mo_sinkByte_157 ?_
                refine fq_asi (y := nI (ow - 1)) (pk_sub (a := ow) (b := 1) (by omega)) ?_
                refine lv_iload_n K.1 K.2.1 dc_Mo_sinkByte_158 rfl (lv_at hl 3 rfl) ?_
                refine fq_asi (y := nI k) hxk ?_
                refine lv_aload_n K.1 K.2.1 dc_Mo_sinkByte_159 rfl (lv_at hl 2 rfl) ?_
                refine fq_get K hK cl_Mo hP 0 6 rfl (by decide) wd_776 rfl dc_Mo_sinkByte_160 ?_
                refine lv_irem K.1 K.2.1 dc_Mo_sinkByte_163 (nI_ne0 (by omega) (by omega)) ?_
                refine fq_asi (y := nI (k % ow)) (pk_rem hk (by omega) (by omega)) ?_
                refine lv_isub K.1 K.2.1 dc_Mo_sinkByte_164 ?_
                refine fq_asi (y := nI (ow - 1 - k % ow)) (pk_sub (by have := Nat.mod_lt k (show 0 < ow by omega); omega)) ?_
                refine lv_goto (tgt := 174) K.1 K.2.1 dc_Mo_sinkByte_165 rfl ?_
                refine lv_istore K.1 K.2.1 dc_Mo_sinkByte_174 hl (by decide) rfl (fun ls hl => ?_)
                have hl : lv_has ls 7 [(6, .int (nI (ow - 1 - k % ow))), (4, .long 32767), (2, .long v1), (0, .ref h), (1, .int x)] := hl
                refine lv_lload K.1 K.2.1 dc_Mo_sinkByte_176 (lv_at hl 1 rfl) ?_
                refine lv_bipush (v := 8) K.1 K.2.1 dc_Mo_sinkByte_178 (by decide) ?_
                refine lv_iload K.1 K.2.1 dc_Mo_sinkByte_180 (lv_at hl 0 rfl) ?_
                refine lv_imul K.1 K.2.1 dc_Mo_sinkByte_182 ?_
                refine fq_asi (y := nI (ly_sh ow oh (k % ow))) (ly_sh1 hoh) ?_
                refine lv_lshr K.1 K.2.1 dc_Mo_sinkByte_183 rfl ?_
                refine lv_l2i K.1 K.2.1 dc_Mo_sinkByte_184 rfl ?_
                refine lv_sipush (v := 255) K.1 K.2.1 dc_Mo_sinkByte_185 (by decide) ?_
                refine lv_iand K.1 K.2.1 dc_Mo_sinkByte_188 ?_
                exact fq_reti K hret hlk hS hP hD ⟨rfl, kb_v how hk hxk hks hv⟩ dc_Mo_sinkByte_189 (Nat.le_of_ble_eq_true rfl) (Nat.le_of_ble_eq_true rfl)
        · skip
          have w1 : ow = 1 := (nI_eq (by omega) (by decide)).mp b56
          refine lv_lload_n K.1 K.2.1 dc_Mo_sinkByte_59 rfl (lv_at hl 1 rfl) ?_
          refine lv_ldc2 (v := 32768) K.1 K.2.1 K.2.2.2.1 (K.2.2.2.2 _ wd_992) dc_Mo_sinkByte_60 ?_
          refine lv_ladd K.1 K.2.1 dc_Mo_sinkByte_63 ?_
          refine lv_ldc2 (v := 65536) K.1 K.2.1 K.2.2.2.1 (K.2.2.2.2 _ wd_859) dc_Mo_sinkByte_64 ?_
          have hc := fq_cut.of (wc := []) hP hD hS hA [] (by decide) rfl
          refine fq_cl_ (wr := [(h, .inr (12, [.int (nI rm), .int (fq_b sd), .int (nI ns), .ref aK, .ref aN, .int (nI iw), .int (nI ow), .int (fq_b ih), .int (fq_b oh), .ref aB, .int (nI ca), .int (nI us), .int (fq_b cl), .int (fq_b fl), .ref aS, .int (nI tk), .ref aL, .ref aX, .int (nI md), .int (nI gi), .int (nI su), .int (nI ps), .int (nI cs)])), (aK, .inl (cI, 5, .inl fK)), (aN, .inl (cI, 25, .inl fN)), (aB, .inl (cI, 120, .inl fB)), (aS, .inl (cI, 120, .inl fS)), (aL, .inl (cI, 2300, .inl fL)), (aX, .inl (cI, 2300, .inl fX))]) (fq_rS K hK hZ hS hc (ct_Mo_floor l D cI cO tE (v1 + 32768) 65536 (by decide) _) yk_Mo_floor wd_868 wd_867 ⟨⟨rfl, rfl⟩, ⟨Nat.le_of_ble_eq_true rfl, Nat.le_of_ble_eq_true rfl⟩, ⟨Nat.le_of_ble_eq_true rfl, Nat.le_of_ble_eq_true rfl⟩⟩ hl.1 rfl (Nat.le_of_ble_eq_true rfl) dc_Mo_sinkByte_67) hP hD hS hc [] [0, 1, 2, 3, 4, 5, 6] rfl rfl (by decide) (by decide) (fun r3 w H locs hw3 hP hD hS => ?_)
          obtain ⟨rfl, hd3⟩ := hw3
          have hP : va_P D fq_cl ([(h, .inr (12, [.int (nI rm), .int (fq_b sd), .int (nI ns), .ref aK, .ref aN, .int (nI iw), .int (nI ow), .int (fq_b ih), .int (fq_b oh), .ref aB, .int (nI ca), .int (nI us), .int (fq_b cl), .int (fq_b fl), .ref aS, .int (nI tk), .ref aL, .ref aX, .int (nI md), .int (nI gi), .int (nI su), .int (nI ps), .int (nI cs)])), (aK, .inl (cI, 5, .inl fK)), (aN, .inl (cI, 25, .inl fN)), (aB, .inl (cI, 120, .inl fB)), (aS, .inl (cI, 120, .inl fS)), (aL, .inl (cI, 2300, .inl fL)), (aX, .inl (cI, 2300, .inl fX))]) _ := hP
          have hD : va_D A ([(h, .inr (12, [.int (nI rm), .int (fq_b sd), .int (nI ns), .ref aK, .ref aN, .int (nI iw), .int (nI ow), .int (fq_b ih), .int (fq_b oh), .ref aB, .int (nI ca), .int (nI us), .int (fq_b cl), .int (fq_b fl), .ref aS, .int (nI tk), .ref aL, .ref aX, .int (nI md), .int (nI gi), .int (nI su), .int (nI ps), .int (nI cs)])), (aK, .inl (cI, 5, .inl fK)), (aN, .inl (cI, 25, .inl fN)), (aB, .inl (cI, 120, .inl fB)), (aS, .inl (cI, 120, .inl fS)), (aL, .inl (cI, 2300, .inl fL)), (aX, .inl (cI, 2300, .inl fX))]) := hD
          refine lv_ldc2 (v := 127) K.1 K.2.1 K.2.2.2.1 (K.2.2.2.2 _ wd_993) dc_Mo_sinkByte_70 ?_
          refine W.lcmp K.1 K.2.1 dc_Mo_sinkByte_73 ?_
          refine lv_if_le (tgt := 83) K.1 K.2.1 dc_Mo_sinkByte_74 rfl (fun b74 => ?_) (fun b74 => ?_)
          · skip
            rw [lg_cmp_le] at b74
            refine lv_ldc2 (v := 128) K.1 K.2.1 K.2.2.2.1 (K.2.2.2.2 _ wd_931) dc_Mo_sinkByte_83 ?_
            refine lv_lload_n K.1 K.2.1 dc_Mo_sinkByte_86 rfl (lv_at hl 1 rfl) ?_
            refine lv_ldc2 (v := 32768) K.1 K.2.1 K.2.2.2.1 (K.2.2.2.2 _ wd_992) dc_Mo_sinkByte_87 ?_
            refine lv_ladd K.1 K.2.1 dc_Mo_sinkByte_90 ?_
            refine lv_ldc2 (v := 65536) K.1 K.2.1 K.2.2.2.1 (K.2.2.2.2 _ wd_859) dc_Mo_sinkByte_91 ?_
            have hc := fq_cut.of (wc := []) hP hD hS hA [] (by decide) rfl
            refine fq_cl_ (wr := [(h, .inr (12, [.int (nI rm), .int (fq_b sd), .int (nI ns), .ref aK, .ref aN, .int (nI iw), .int (nI ow), .int (fq_b ih), .int (fq_b oh), .ref aB, .int (nI ca), .int (nI us), .int (fq_b cl), .int (fq_b fl), .ref aS, .int (nI tk), .ref aL, .ref aX, .int (nI md), .int (nI gi), .int (nI su), .int (nI ps), .int (nI cs)])), (aK, .inl (cI, 5, .inl fK)), (aN, .inl (cI, 25, .inl fN)), (aB, .inl (cI, 120, .inl fB)), (aS, .inl (cI, 120, .inl fS)), (aL, .inl (cI, 2300, .inl fL)), (aX, .inl (cI, 2300, .inl fX))]) (fq_rS K hK hZ hS hc (ct_Mo_floor l D cI cO tE (v1 + 32768) 65536 (by decide) _) yk_Mo_floor wd_868 wd_867 ⟨⟨rfl, rfl⟩, ⟨Nat.le_of_ble_eq_true rfl, Nat.le_of_ble_eq_true rfl⟩, ⟨Nat.le_of_ble_eq_true rfl, Nat.le_of_ble_eq_true rfl⟩⟩ hl.1 rfl (Nat.le_of_ble_eq_true rfl) dc_Mo_sinkByte_94) hP hD hS hc [] [0, 1, 2, 3, 4, 5, 6] rfl rfl (by decide) (by decide) (fun r4 w H locs hw4 hP hD hS => ?_)
            obtain ⟨rfl, hd4⟩ := hw4
            have hP : va_P D fq_cl ([(h, .inr (12, [.int (nI rm), .int (fq_b sd), .int (nI ns), .ref aK, .ref aN, .int (nI iw), .int (nI ow), .int (fq_b ih), .int (fq_b oh), .ref aB, .int (nI ca), .int (nI us), .int (fq_b cl), .int (fq_b fl), .ref aS, .int (nI tk), .ref aL, .ref aX, .int (nI md), .int (nI gi), .int (nI su), .int (nI ps), .int (nI cs)])), (aK, .inl (cI, 5, .inl fK)), (aN, .inl (cI, 25, .inl fN)), (aB, .inl (cI, 120, .inl fB)), (aS, .inl (cI, 120, .inl fS)), (aL, .inl (cI, 2300, .inl fL)), (aX, .inl (cI, 2300, .inl fX))]) _ := hP
            have hD : va_D A ([(h, .inr (12, [.int (nI rm), .int (fq_b sd), .int (nI ns), .ref aK, .ref aN, .int (nI iw), .int (nI ow), .int (fq_b ih), .int (fq_b oh), .ref aB, .int (nI ca), .int (nI us), .int (fq_b cl), .int (fq_b fl), .ref aS, .int (nI tk), .ref aL, .ref aX, .int (nI md), .int (nI gi), .int (nI su), .int (nI ps), .int (nI cs)])), (aK, .inl (cI, 5, .inl fK)), (aN, .inl (cI, 25, .inl fN)), (aB, .inl (cI, 120, .inl fB)), (aS, .inl (cI, 120, .inl fS)), (aL, .inl (cI, 2300, .inl fL)), (aX, .inl (cI, 2300, .inl fX))]) := hD
            refine lv_ladd K.1 K.2.1 dc_Mo_sinkByte_97 ?_
            refine lv_topl (fun v2 e_v2 => ?_)
            refine lv_lstore K.1 K.2.1 dc_Mo_sinkByte_98 hl (by decide) rfl (fun ls hl => ?_)
            have hl : lv_has ls 7 [(4, .long v2), (2, .long v1), (0, .ref h), (1, .int x)] := hl
            have hv : (v2 : Int64).toInt = sk_v ow (fL (k / ow)).toInt := by rw [← hs1, w1, e_v2]; exact kb_2 hsin hd3 hd4 b74
            refine lv_aload_n K.1 K.2.1 dc_Mo_sinkByte_100 rfl (lv_at hl 2 rfl) ?_
            refine fq_get K hK cl_Mo hP 0 6 rfl (by decide) wd_776 rfl dc_Mo_sinkByte_101 ?_
            refine lv_iconst (v := 2) K.1 K.2.1 dc_Mo_sinkByte_104 (by decide) ?_
            refine lv_icmp_ne (tgt := 145) K.1 K.2.1 dc_Mo_sinkByte_105 rfl (fun b105 => ?_) (fun b105 => absurd ((nI_eq (by omega) (by decide)).mp b105 : ow = 2) (by omega))
            refine lv_aload_n K.1 K.2.1 dc_Mo_sinkByte_145 rfl (lv_at hl 2 rfl) ?_
            refine fq_get K hK cl_Mo hP 0 8 rfl (by decide) wd_778 rfl dc_Mo_sinkByte_146 ?_
            refine lv_if_eq (tgt := 168) K.1 K.2.1 dc_Mo_sinkByte_149 rfl (fun b149 => ?_) (fun b149 => ?_)
            · skip
              have hoh := fq_b0 b149
              refine lv_iload_n K.1 K.2.1 dc_Mo_sinkByte_168 rfl (lv_at hl 3 rfl) ?_
              refine fq_asi (y := nI k) hxk ?_
              refine lv_aload_n K.1 K.2.1 dc_Mo_sinkByte_169 rfl (lv_at hl 2 rfl) ?_
              refine fq_get K hK cl_Mo hP 0 6 rfl (by decide) wd_776 rfl dc_Mo_sinkByte_170 ?_
              refine lv_irem K.1 K.2.1 dc_Mo_sinkByte_173 (nI_ne0 (by omega) (by omega)) ?_
              refine fq_asi (y := nI (k % ow)) (pk_rem hk (by omega) (by omega)) ?_
              refine lv_istore K.1 K.2.1 dc_Mo_sinkByte_174 hl (by decide) rfl (fun ls hl => ?_)
              have hl : lv_has ls 7 [(6, .int (nI (k % ow))), (4, .long v2), (2, .long v1), (0, .ref h), (1, .int x)] := hl
              refine lv_lload K.1 K.2.1 dc_Mo_sinkByte_176 (lv_at hl 1 rfl) ?_
              refine lv_bipush (v := 8) K.1 K.2.1 dc_Mo_sinkByte_178 (by decide) ?_
              refine lv_iload K.1 K.2.1 dc_Mo_sinkByte_180 (lv_at hl 0 rfl) ?_
              refine lv_imul K.1 K.2.1 dc_Mo_sinkByte_182 ?_
              refine fq_asi (y := nI (ly_sh ow oh (k % ow))) (ly_sh0 hoh) ?_
              refine lv_lshr K.1 K.2.1 dc_Mo_sinkByte_183 rfl ?_
              refine lv_l2i K.1 K.2.1 dc_Mo_sinkByte_184 rfl ?_
              refine lv_sipush (v := 255) K.1 K.2.1 dc_Mo_sinkByte_185 (by decide) ?_
              refine lv_iand K.1 K.2.1 dc_Mo_sinkByte_188 ?_
              exact fq_reti K hret hlk hS hP hD ⟨rfl, kb_v how hk hxk hks hv⟩ dc_Mo_sinkByte_189 (Nat.le_of_ble_eq_true rfl) (Nat.le_of_ble_eq_true rfl)
            · skip
              have hoh := fq_b1 b149
              refine lv_aload_n K.1 K.2.1 dc_Mo_sinkByte_152 rfl (lv_at hl 2 rfl) ?_
              refine fq_get K hK cl_Mo hP 0 6 rfl (by decide) wd_776 rfl dc_Mo_sinkByte_153 ?_
              refine lv_iconst (v := 1) K.1 K.2.1 dc_Mo_sinkByte_156 (by decide) ?_
              refine lv_isub K.1 K.2.1 dc_Mo_sinkByte_157 ?_
              refine fq_asi (y := nI (ow - 1)) (pk_sub (a := ow) (b := 1) (by omega)) ?_
              refine lv_iload_n K.1 K.2.1 dc_Mo_sinkByte_158 rfl (lv_at hl 3 rfl) ?_
              refine fq_asi (y := nI k) hxk ?_
              refine lv_aload_n K.1 K.2.1 dc_Mo_sinkByte_159 rfl (lv_at hl 2 rfl) ?_
              refine fq_get K hK cl_Mo hP 0 6 rfl (by decide) wd_776 rfl dc_Mo_sinkByte_160 ?_
              refine lv_irem K.1 K.2.1 dc_Mo_sinkByte_163 (nI_ne0 (by omega) (by omega)) ?_
              refine fq_asi (y := nI (k % ow)) (pk_rem hk (by omega) (by omega)) ?_
              refine lv_isub K.1 K.2.1 dc_Mo_sinkByte_164 ?_
              refine fq_asi (y := nI (ow - 1 - k % ow)) (pk_sub (by have := Nat.mod_lt k (show 0 < ow by omega); omega)) ?_
              refine lv_goto (tgt := 174) K.1 K.2.1 dc_Mo_sinkByte_165 rfl ?_
              refine lv_istore K.1 K.2.1 dc_Mo_sinkByte_174 hl (by decide) rfl (fun ls hl => ?_)
              have hl : lv_has ls 7 [(6, .int (nI (ow - 1 - k % ow))), (4, .long v2), (2, .long v1), (0, .ref h), (1, .int x)] := hl
              refine lv_lload K.1 K.2.1 dc_Mo_sinkByte_176 (lv_at hl 1 rfl) ?_
              refine lv_bipush (v := 8) K.1 K.2.1 dc_Mo_sinkByte_178 (by decide) ?_
              refine lv_iload K.1 K.2.1 dc_Mo_sinkByte_180 (lv_at hl 0 rfl) ?_
              refine lv_imul K.1 K.2.1 dc_Mo_sinkByte_182 ?_
              refine fq_asi (y := nI (ly_sh ow oh (k % ow))) (ly_sh1 hoh) ?_
              refine lv_lshr K.1 K.2.1 dc_Mo_sinkByte_183 rfl ?_
              refine lv_l2i K.1 K.2.1 dc_Mo_sinkByte_184 rfl ?_
              refine lv_sipush (v := 255) K.1 K.2.1 dc_Mo_sinkByte_185 (by decide) ?_
              refine lv_iand K.1 K.2.1 dc_Mo_sinkByte_188 ?_
              exact fq_reti K hret hlk hS hP hD ⟨rfl, kb_v how hk hxk hks hv⟩ dc_Mo_sinkByte_189 (Nat.le_of_ble_eq_true rfl) (Nat.le_of_ble_eq_true rfl)
          · skip
            rw [lg_cmp_le] at b74
            refine lv_ldc2 (v := 255) K.1 K.2.1 K.2.2.2.1 (K.2.2.2.2 _ wd_994) dc_Mo_sinkByte_77 ?_
            refine lv_goto (tgt := 98) K.1 K.2.1 dc_Mo_sinkByte_80 rfl ?_
            refine lv_lstore K.1 K.2.1 dc_Mo_sinkByte_98 hl (by decide) rfl (fun ls hl => ?_)
            have hl : lv_has ls 7 [(4, .long 255), (2, .long v1), (0, .ref h), (1, .int x)] := hl
            have hv : (255 : Int64).toInt = sk_v ow (fL (k / ow)).toInt := by rw [← hs1, w1]; exact kb_1 hsin hd3 b74
            refine lv_aload_n K.1 K.2.1 dc_Mo_sinkByte_100 rfl (lv_at hl 2 rfl) ?_
            refine fq_get K hK cl_Mo hP 0 6 rfl (by decide) wd_776 rfl dc_Mo_sinkByte_101 ?_
            refine lv_iconst (v := 2) K.1 K.2.1 dc_Mo_sinkByte_104 (by decide) ?_
            refine lv_icmp_ne (tgt := 145) K.1 K.2.1 dc_Mo_sinkByte_105 rfl (fun b105 => ?_) (fun b105 => absurd ((nI_eq (by omega) (by decide)).mp b105 : ow = 2) (by omega))
            refine lv_aload_n K.1 K.2.1 dc_Mo_sinkByte_145 rfl (lv_at hl 2 rfl) ?_
            refine fq_get K hK cl_Mo hP 0 8 rfl (by decide) wd_778 rfl dc_Mo_sinkByte_146 ?_
            refine lv_if_eq (tgt := 168) K.1 K.2.1 dc_Mo_sinkByte_149 rfl (fun b149 => ?_) (fun b149 => ?_)
            · skip
              have hoh := fq_b0 b149
              refine lv_iload_n K.1 K.2.1 dc_Mo_sinkByte_168 rfl (lv_at hl 3 rfl) ?_
              refine fq_asi (y := nI k) hxk ?_
              refine lv_aload_n K.1 K.2.1 dc_Mo_sinkByte_169 rfl (lv_at hl 2 rfl) ?_
              refine fq_get K hK cl_Mo hP 0 6 rfl (by decide) wd_776 rfl dc_Mo_sinkByte_170 ?_
              refine lv_irem K.1 K.2.1 dc_Mo_sinkByte_173 (nI_ne0 (by omega) (by omega)) ?_
              refine fq_asi (y := nI (k % ow)) (pk_rem hk (by omega) (by omega)) ?_
              refine lv_istore K.1 K.2.1 dc_Mo_sinkByte_174 hl (by decide) rfl (fun ls hl => ?_)
              have hl : lv_has ls 7 [(6, .int (nI (k % ow))), (4, .long 255), (2, .long v1), (0, .ref h), (1, .int x)] := hl
              refine lv_lload K.1 K.2.1 dc_Mo_sinkByte_176 (lv_at hl 1 rfl) ?_
              refine lv_bipush (v := 8) K.1 K.2.1 dc_Mo_sinkByte_178 (by decide) ?_
              refine lv_iload K.1 K.2.1 dc_Mo_sinkByte_180 (lv_at hl 0 rfl) ?_
              refine lv_imul K.1 K.2.1 dc_Mo_sinkByte_182 ?_
              refine fq_asi (y := nI (ly_sh ow oh (k % ow))) (ly_sh0 hoh) ?_
              refine lv_lshr K.1 K.2.1 dc_Mo_sinkByte_183 rfl ?_
              refine lv_l2i K.1 K.2.1 dc_Mo_sinkByte_184 rfl ?_
              refine lv_sipush (v := 255) K.1 K.2.1 dc_Mo_sinkByte_185 (by decide) ?_
              refine lv_iand K.1 K.2.1 dc_Mo_sinkByte_188 ?_
              exact fq_reti K hret hlk hS hP hD ⟨rfl, kb_v how hk hxk hks hv⟩ dc_Mo_sinkByte_189 (Nat.le_of_ble_eq_true rfl) (Nat.le_of_ble_eq_true rfl)
            · skip
              have hoh := fq_b1 b149
              refine lv_aload_n K.1 K.2.1 dc_Mo_sinkByte_152 rfl (lv_at hl 2 rfl) ?_
              refine fq_get K hK cl_Mo hP 0 6 rfl (by decide) wd_776 rfl dc_Mo_sinkByte_153 ?_
              refine lv_iconst (v := 1) K.1 K.2.1 dc_Mo_sinkByte_156 (by decide) ?_
              refine lv_isub K.1 K.2.1 dc_Mo_sinkByte_157 ?_
              refine fq_asi (y := nI (ow - 1)) (pk_sub (a := ow) (b := 1) (by omega)) ?_
              refine lv_iload_n K.1 K.2.1 dc_Mo_sinkByte_158 rfl (lv_at hl 3 rfl) ?_
              refine fq_asi (y := nI k) hxk ?_
              refine lv_aload_n K.1 K.2.1 dc_Mo_sinkByte_159 rfl (lv_at hl 2 rfl) ?_
              refine fq_get K hK cl_Mo hP 0 6 rfl (by decide) wd_776 rfl dc_Mo_sinkByte_160 ?_
              refine lv_irem K.1 K.2.1 dc_Mo_sinkByte_163 (nI_ne0 (by omega) (by omega)) ?_
              refine fq_asi (y := nI (k % ow)) (pk_rem hk (by omega) (by omega)) ?_
              refine lv_isub K.1 K.2.1 dc_Mo_sinkByte_164 ?_
              refine fq_asi (y := nI (ow - 1 - k % ow)) (pk_sub (by have := Nat.mod_lt k (show 0 < ow by omega); omega)) ?_
              refine lv_goto (tgt := 174) K.1 K.2.1 dc_Mo_sinkByte_165 rfl ?_
              refine lv_istore K.1 K.2.1 dc_Mo_sinkByte_174 hl (by decide) rfl (fun ls hl => ?_)
              have hl : lv_has ls 7 [(6, .int (nI (ow - 1 - k % ow))), (4, .long 255), (2, .long v1), (0, .ref h), (1, .int x)] := hl
              refine lv_lload K.1 K.2.1 dc_Mo_sinkByte_176 (lv_at hl 1 rfl) ?_
              refine lv_bipush (v := 8) K.1 K.2.1 dc_Mo_sinkByte_178 (by decide) ?_
              refine lv_iload K.1 K.2.1 dc_Mo_sinkByte_180 (lv_at hl 0 rfl) ?_
              refine lv_imul K.1 K.2.1 dc_Mo_sinkByte_182 ?_
              refine fq_asi (y := nI (ly_sh ow oh (k % ow))) (ly_sh1 hoh) ?_
              refine lv_lshr K.1 K.2.1 dc_Mo_sinkByte_183 rfl ?_
              refine lv_l2i K.1 K.2.1 dc_Mo_sinkByte_184 rfl ?_
              refine lv_sipush (v := 255) K.1 K.2.1 dc_Mo_sinkByte_185 (by decide) ?_
              refine lv_iand K.1 K.2.1 dc_Mo_sinkByte_188 ?_
              exact fq_reti K hret hlk hS hP hD ⟨rfl, kb_v how hk hxk hks hv⟩ dc_Mo_sinkByte_189 (Nat.le_of_ble_eq_true rfl) (Nat.le_of_ble_eq_true rfl)
      · skip
        have w4 : ow = 4 := (nI_eq (by omega) (by decide)).mp b37
        refine lv_ldc2 (v := 256) K.1 K.2.1 K.2.2.2.1 (K.2.2.2.2 _ wd_860) dc_Mo_sinkByte_40 ?_
        refine lv_lload_n K.1 K.2.1 dc_Mo_sinkByte_43 rfl (lv_at hl 0 rfl) ?_
        refine lv_lmul K.1 K.2.1 dc_Mo_sinkByte_44 ?_
        refine lv_goto (tgt := 49) K.1 K.2.1 dc_Mo_sinkByte_45 rfl ?_
        refine lv_topl (fun v3 e_v3 => ?_)
        refine lv_lstore K.1 K.2.1 dc_Mo_sinkByte_49 hl (by decide) rfl (fun ls hl => ?_)
        have hl : lv_has ls 7 [(4, .long v3), (2, .long v1), (0, .ref h), (1, .int x)] := hl
        have hv : v3.toInt = sk_v ow (fL (k / ow)).toInt := by rw [← hs1, e_v3]; exact kb_6 w4 hsin
        refine lv_aload_n K.1 K.2.1 dc_Mo_sinkByte_51 rfl (lv_at hl 2 rfl) ?_
        refine fq_get K hK cl_Mo hP 0 6 rfl (by decide) wd_776 rfl dc_Mo_sinkByte_52 ?_
        refine lv_iconst (v := 1) K.1 K.2.1 dc_Mo_sinkByte_55 (by decide) ?_
        refine lv_icmp_ne (tgt := 100) K.1 K.2.1 dc_Mo_sinkByte_56 rfl (fun b56 => ?_) (fun b56 => absurd ((nI_eq (by omega) (by decide)).mp b56 : ow = 1) (by omega))
        refine lv_aload_n K.1 K.2.1 dc_Mo_sinkByte_100 rfl (lv_at hl 2 rfl) ?_
        refine fq_get K hK cl_Mo hP 0 6 rfl (by decide) wd_776 rfl dc_Mo_sinkByte_101 ?_
        refine lv_iconst (v := 2) K.1 K.2.1 dc_Mo_sinkByte_104 (by decide) ?_
        refine lv_icmp_ne (tgt := 145) K.1 K.2.1 dc_Mo_sinkByte_105 rfl (fun b105 => ?_) (fun b105 => absurd ((nI_eq (by omega) (by decide)).mp b105 : ow = 2) (by omega))
        refine lv_aload_n K.1 K.2.1 dc_Mo_sinkByte_145 rfl (lv_at hl 2 rfl) ?_
        refine fq_get K hK cl_Mo hP 0 8 rfl (by decide) wd_778 rfl dc_Mo_sinkByte_146 ?_
        refine lv_if_eq (tgt := 168) K.1 K.2.1 dc_Mo_sinkByte_149 rfl (fun b149 => ?_) (fun b149 => ?_)
        · skip
          have hoh := fq_b0 b149
          refine lv_iload_n K.1 K.2.1 dc_Mo_sinkByte_168 rfl (lv_at hl 3 rfl) ?_
          refine fq_asi (y := nI k) hxk ?_
          refine lv_aload_n K.1 K.2.1 dc_Mo_sinkByte_169 rfl (lv_at hl 2 rfl) ?_
          refine fq_get K hK cl_Mo hP 0 6 rfl (by decide) wd_776 rfl dc_Mo_sinkByte_170 ?_
          refine lv_irem K.1 K.2.1 dc_Mo_sinkByte_173 (nI_ne0 (by omega) (by omega)) ?_
          refine fq_asi (y := nI (k % ow)) (pk_rem hk (by omega) (by omega)) ?_
          refine lv_istore K.1 K.2.1 dc_Mo_sinkByte_174 hl (by decide) rfl (fun ls hl => ?_)
          have hl : lv_has ls 7 [(6, .int (nI (k % ow))), (4, .long v3), (2, .long v1), (0, .ref h), (1, .int x)] := hl
          refine lv_lload K.1 K.2.1 dc_Mo_sinkByte_176 (lv_at hl 1 rfl) ?_
          refine lv_bipush (v := 8) K.1 K.2.1 dc_Mo_sinkByte_178 (by decide) ?_
          refine lv_iload K.1 K.2.1 dc_Mo_sinkByte_180 (lv_at hl 0 rfl) ?_
          refine lv_imul K.1 K.2.1 dc_Mo_sinkByte_182 ?_
          refine fq_asi (y := nI (ly_sh ow oh (k % ow))) (ly_sh0 hoh) ?_
          refine lv_lshr K.1 K.2.1 dc_Mo_sinkByte_183 rfl ?_
          refine lv_l2i K.1 K.2.1 dc_Mo_sinkByte_184 rfl ?_
          refine lv_sipush (v := 255) K.1 K.2.1 dc_Mo_sinkByte_185 (by decide) ?_
          refine lv_iand K.1 K.2.1 dc_Mo_sinkByte_188 ?_
          exact fq_reti K hret hlk hS hP hD ⟨rfl, kb_v how hk hxk hks hv⟩ dc_Mo_sinkByte_189 (Nat.le_of_ble_eq_true rfl) (Nat.le_of_ble_eq_true rfl)
        · skip
          have hoh := fq_b1 b149
          refine lv_aload_n K.1 K.2.1 dc_Mo_sinkByte_152 rfl (lv_at hl 2 rfl) ?_
          refine fq_get K hK cl_Mo hP 0 6 rfl (by decide) wd_776 rfl dc_Mo_sinkByte_153 ?_
          refine lv_iconst (v := 1) K.1 K.2.1 dc_Mo_sinkByte_156 (by decide) ?_
          refine lv_isub K.1 K.2.1 dc_Mo_sinkByte_157 ?_
          refine fq_asi (y := nI (ow - 1)) (pk_sub (a := ow) (b := 1) (by omega)) ?_
          refine lv_iload_n K.1 K.2.1 dc_Mo_sinkByte_158 rfl (lv_at hl 3 rfl) ?_
          refine fq_asi (y := nI k) hxk ?_
          refine lv_aload_n K.1 K.2.1 dc_Mo_sinkByte_159 rfl (lv_at hl 2 rfl) ?_
          refine fq_get K hK cl_Mo hP 0 6 rfl (by decide) wd_776 rfl dc_Mo_sinkByte_160 ?_
          refine lv_irem K.1 K.2.1 dc_Mo_sinkByte_163 (nI_ne0 (by omega) (by omega)) ?_
          refine fq_asi (y := nI (k % ow)) (pk_rem hk (by omega) (by omega)) ?_
          refine lv_isub K.1 K.2.1 dc_Mo_sinkByte_164 ?_
          refine fq_asi (y := nI (ow - 1 - k % ow)) (pk_sub (by have := Nat.mod_lt k (show 0 < ow by omega); omega)) ?_
          refine lv_goto (tgt := 174) K.1 K.2.1 dc_Mo_sinkByte_165 rfl ?_
          refine lv_istore K.1 K.2.1 dc_Mo_sinkByte_174 hl (by decide) rfl (fun ls hl => ?_)
          have hl : lv_has ls 7 [(6, .int (nI (ow - 1 - k % ow))), (4, .long v3), (2, .long v1), (0, .ref h), (1, .int x)] := hl
          refine lv_lload K.1 K.2.1 dc_Mo_sinkByte_176 (lv_at hl 1 rfl) ?_
          refine lv_bipush (v := 8) K.1 K.2.1 dc_Mo_sinkByte_178 (by decide) ?_
          refine lv_iload K.1 K.2.1 dc_Mo_sinkByte_180 (lv_at hl 0 rfl) ?_
          refine lv_imul K.1 K.2.1 dc_Mo_sinkByte_182 ?_
          refine fq_asi (y := nI (ly_sh ow oh (k % ow))) (ly_sh1 hoh) ?_
          refine lv_lshr K.1 K.2.1 dc_Mo_sinkByte_183 rfl ?_
          refine lv_l2i K.1 K.2.1 dc_Mo_sinkByte_184 rfl ?_
          refine lv_sipush (v := 255) K.1 K.2.1 dc_Mo_sinkByte_185 (by decide) ?_
          refine lv_iand K.1 K.2.1 dc_Mo_sinkByte_188 ?_
          exact fq_reti K hret hlk hS hP hD ⟨rfl, kb_v how hk hxk hks hv⟩ dc_Mo_sinkByte_189 (Nat.le_of_ble_eq_true rfl) (Nat.le_of_ble_eq_true rfl)
    · skip
      have hks : ¬ k / ow < su := fun z => b14 ((nI_ltI (by omega) (by omega)).mpr z)
      refine lv_iconst (v := (-1)) K.1 K.2.1 dc_Mo_sinkByte_17 (by decide) ?_
      exact fq_reti K hret hlk hS hP hD ⟨rfl, by first | exact kb_n b1 | exact kb_h hk hxk hks⟩ dc_Mo_sinkByte_18 (Nat.le_of_ble_eq_true rfl) (Nat.le_of_ble_eq_true rfl)
set_option maxHeartbeats 4000000 in
set_option maxRecDepth 100000 in
theorem ct_Mo_power (l : Launch) (D : va_G) (cI cO : ClassId) (tE : Nat) (h aK aN aB aS aL aX : Nat) (rm : Nat) (sd : Bool) (ns : Nat) (iw : Nat) (ow : Nat) (ih : Bool) (oh : Bool) (ca : Nat) (us : Nat) (cl : Bool) (fl : Bool) (tk : Nat) (md : Nat) (gi : Nat) (su : Nat) (ps : Nat) (cs : Nat) (fK fN fB fS fL fX : Nat → Int32) (xn : Int32) (hsu : su ≤ 2300) (sz : Nat) : Met l my_Mo_power (fq_w my_Mo_power cb_Mo_power 18 (some .long)) ({ frames := 0, cells := 0, slots := 0, locals := 0 }) (va_Pc ([.ref h, .int xn]) (fq_Pre D cI cO tE sz ([(h, .inr (12, [.int (nI rm), .int (fq_b sd), .int (nI ns), .ref aK, .ref aN, .int (nI iw), .int (nI ow), .int (fq_b ih), .int (fq_b oh), .ref aB, .int (nI ca), .int (nI us), .int (fq_b cl), .int (fq_b fl), .ref aS, .int (nI tk), .ref aL, .ref aX, .int (nI md), .int (nI gi), .int (nI su), .int (nI ps), .int (nI cs)])), (aK, .inl (cI, 5, .inl fK)), (aN, .inl (cI, 25, .inl fN)), (aB, .inl (cI, 120, .inl fB)), (aS, .inl (cI, 120, .inl fS)), (aL, .inl (cI, 2300, .inl fL)), (aX, .inl (cI, 2300, .inl fX))]))) (va_Ql (S := va_W) (fun r w => w = [(h, .inr (12, [.int (nI rm), .int (fq_b sd), .int (nI ns), .ref aK, .ref aN, .int (nI iw), .int (nI ow), .int (fq_b ih), .int (fq_b oh), .ref aB, .int (nI ca), .int (nI us), .int (fq_b cl), .int (fq_b fl), .ref aS, .int (nI tk), .ref aL, .ref aX, .int (nI md), .int (nI gi), .int (nI su), .int (nI ps), .int (nI cs)])), (aK, .inl (cI, 5, .inl fK)), (aN, .inl (cI, 25, .inl fN)), (aB, .inl (cI, 120, .inl fB)), (aS, .inl (cI, 120, .inl fS)), (aL, .inl (cI, 2300, .inl fL)), (aX, .inl (cI, 2300, .inl fX))] ∧ r = if xn < 0 ∨ 4 < xn then -1 else tn_r (2 - xn).toInt64 (pw_L fL su)) (fq_Bw D (va_A ([(h, .inr (12, [.int (nI rm), .int (fq_b sd), .int (nI ns), .ref aK, .ref aN, .int (nI iw), .int (nI ow), .int (fq_b ih), .int (fq_b oh), .ref aB, .int (nI ca), .int (nI us), .int (fq_b cl), .int (fq_b fl), .ref aS, .int (nI tk), .ref aL, .ref aX, .int (nI md), .int (nI gi), .int (nI su), .int (nI ps), .int (nI cs)])), (aK, .inl (cI, 5, .inl fK)), (aN, .inl (cI, 25, .inl fN)), (aB, .inl (cI, 120, .inl fB)), (aS, .inl (cI, 120, .inl fS)), (aL, .inl (cI, 2300, .inl fL)), (aX, .inl (cI, 2300, .inl fX))]) sz)) (va_A ([(h, .inr (12, [.int (nI rm), .int (fq_b sd), .int (nI ns), .ref aK, .ref aN, .int (nI iw), .int (nI ow), .int (fq_b ih), .int (fq_b oh), .ref aB, .int (nI ca), .int (nI us), .int (fq_b cl), .int (fq_b fl), .ref aS, .int (nI tk), .ref aL, .ref aX, .int (nI md), .int (nI gi), .int (nI su), .int (nI ps), .int (nI cs)])), (aK, .inl (cI, 5, .inl fK)), (aN, .inl (cI, 25, .inl fN)), (aB, .inl (cI, 120, .inl fB)), (aS, .inl (cI, 120, .inl fS)), (aL, .inl (cI, 2300, .inl fL)), (aX, .inl (cI, 2300, .inl fX))]) sz)) (0) (0) (va_A ([(h, .inr (12, [.int (nI rm), .int (fq_b sd), .int (nI ns), .ref aK, .ref aN, .int (nI iw), .int (nI ow), .int (fq_b ih), .int (fq_b oh), .ref aB, .int (nI ca), .int (nI us), .int (fq_b cl), .int (fq_b fl), .ref aS, .int (nI tk), .ref aL, .ref aX, .int (nI md), .int (nI gi), .int (nI su), .int (nI ps), .int (nI cs)])), (aK, .inl (cI, 5, .inl fK)), (aN, .inl (cI, 25, .inl fN)), (aB, .inl (cI, 120, .inl fB)), (aS, .inl (cI, 120, .inl fS)), (aL, .inl (cI, 2300, .inl fL)), (aX, .inl (cI, 2300, .inl fX))]) sz) := by
  refine fq_open (by decide +kernel) (Nat.le_of_ble_eq_true rfl) ?_
  intro pg ev s mt below meth cd ls K hret hlk hin hK hZ hP hD hA hS hl
  generalize va_A ([(h, .inr (12, [.int (nI rm), .int (fq_b sd), .int (nI ns), .ref aK, .ref aN, .int (nI iw), .int (nI ow), .int (fq_b ih), .int (fq_b oh), .ref aB, .int (nI ca), .int (nI us), .int (fq_b cl), .int (fq_b fl), .ref aS, .int (nI tk), .ref aL, .ref aX, .int (nI md), .int (nI gi), .int (nI su), .int (nI ps), .int (nI cs)])), (aK, .inl (cI, 5, .inl fK)), (aN, .inl (cI, 25, .inl fN)), (aB, .inl (cI, 120, .inl fB)), (aS, .inl (cI, 120, .inl fS)), (aL, .inl (cI, 2300, .inl fL)), (aX, .inl (cI, 2300, .inl fX))]) sz = A at hZ hD hA hS ⊢
  have K : fq_Ctx pg mt cd cb_Mo_power 18 s _ cn_Mo := K
  have hl : lv_has ls 18 [(0, .ref h), (1, .int xn)] := hl
  refine lv_aload_n K.1 K.2.1 dc_Mo_power_0 rfl (lv_at hl 0 rfl) ?_
  refine fq_get K hK cl_Mo hP 0 20 rfl (by decide) wd_790 rfl dc_Mo_power_1 ?_
  refine lv_bipush (v := 12) K.1 K.2.1 dc_Mo_power_4 (by decide) ?_
  refine lv_idiv K.1 K.2.1 dc_Mo_power_6 (by decide) ?_
  refine fq_asi (y := nI (su / 12)) (pk_div (a := su) (d := 12) (by omega) (by decide) (by decide)) ?_
  refine lv_iconst (v := 1) K.1 K.2.1 dc_Mo_power_7 (by decide) ?_
  refine lv_isub K.1 K.2.1 dc_Mo_power_8 ?_
  refine lv_topi (fun v1 e_v1 => ?_)
  refine lv_istore_n K.1 K.2.1 dc_Mo_power_9 rfl hl (by decide) rfl (fun ls hl => ?_)
  have hl : lv_has ls 18 [(2, .int v1), (0, .ref h), (1, .int xn)] := hl
  refine lv_iload_n K.1 K.2.1 dc_Mo_power_10 rfl (lv_at hl 0 rfl) ?_
  refine lv_if_lt (tgt := 23) K.1 K.2.1 dc_Mo_power_11 rfl (fun b11 => ?_) (fun b11 => ?_)
  · skip
    have h0 := pw_b0 hsu e_v1 b11
    refine lv_ldc2 (v := (-1)) K.1 K.2.1 K.2.2.2.1 (K.2.2.2.2 _ wd_1000) dc_Mo_power_23 ?_
    exact fq_retl K hret hlk hS hP hD ⟨rfl, by first | exact pw_r1 h0 | exact pw_r2 (Or.inl b15) | exact pw_r2 (Or.inr (Int32.not_le.mp b20))⟩ dc_Mo_power_26 (Nat.le_of_ble_eq_true rfl) (Nat.le_of_ble_eq_true rfl)
  · skip
    have h1 := pw_b1 hsu e_v1 b11
    refine lv_iload_n K.1 K.2.1 dc_Mo_power_14 rfl (lv_at hl 2 rfl) ?_
    refine lv_if_lt (tgt := 23) K.1 K.2.1 dc_Mo_power_15 rfl (fun b15 => ?_) (fun b15 => ?_)
    · skip
      refine lv_ldc2 (v := (-1)) K.1 K.2.1 K.2.2.2.1 (K.2.2.2.2 _ wd_1000) dc_Mo_power_23 ?_
      exact fq_retl K hret hlk hS hP hD ⟨rfl, by first | exact pw_r1 h0 | exact pw_r2 (Or.inl b15) | exact pw_r2 (Or.inr (Int32.not_le.mp b20))⟩ dc_Mo_power_26 (Nat.le_of_ble_eq_true rfl) (Nat.le_of_ble_eq_true rfl)
    · skip
      refine lv_iload_n K.1 K.2.1 dc_Mo_power_18 rfl (lv_at hl 2 rfl) ?_
      refine lv_iconst (v := 4) K.1 K.2.1 dc_Mo_power_19 (by decide) ?_
      refine lv_icmp_le (tgt := 27) K.1 K.2.1 dc_Mo_power_20 rfl (fun b20 => ?_) (fun b20 => ?_)
      · skip
        refine lv_ldc2 (v := 2) K.1 K.2.1 K.2.2.2.1 (K.2.2.2.2 _ wd_866) dc_Mo_power_27 ?_
        refine lv_iload_n K.1 K.2.1 dc_Mo_power_30 rfl (lv_at hl 2 rfl) ?_
        refine lv_i2l K.1 K.2.1 dc_Mo_power_31 rfl ?_
        refine lv_lsub K.1 K.2.1 dc_Mo_power_32 ?_
        refine lv_topl (fun v2 e_v2 => ?_)
        refine lv_lstore_n K.1 K.2.1 dc_Mo_power_33 rfl hl (by decide) rfl (fun ls hl => ?_)
        have hl : lv_has ls 18 [(3, .long v2), (2, .int v1), (0, .ref h), (1, .int xn)] := hl
        refine lv_lconst (v := 1) K.1 K.2.1 dc_Mo_power_34 (by decide) ?_
        refine lv_lstore K.1 K.2.1 dc_Mo_power_35 hl (by decide) rfl (fun ls hl => ?_)
        have hl : lv_has ls 18 [(5, .long 1), (3, .long v2), (2, .int v1), (0, .ref h), (1, .int xn)] := hl
        refine lv_lconst (v := 0) K.1 K.2.1 dc_Mo_power_37 (by decide) ?_
        refine lv_lstore K.1 K.2.1 dc_Mo_power_38 hl (by decide) rfl (fun ls hl => ?_)
        have hl : lv_has ls 18 [(7, .long 0), (5, .long 1), (3, .long v2), (2, .int v1), (0, .ref h), (1, .int xn)] := hl
        refine lv_lconst (v := 0) K.1 K.2.1 dc_Mo_power_40 (by decide) ?_
        refine lv_lstore K.1 K.2.1 dc_Mo_power_41 hl (by decide) rfl (fun ls hl => ?_)
        have hl : lv_has ls 18 [(9, .long 0), (7, .long 0), (5, .long 1), (3, .long v2), (2, .int v1), (0, .ref h), (1, .int xn)] := hl
        refine lv_lconst (v := 0) K.1 K.2.1 dc_Mo_power_43 (by decide) ?_
        refine lv_lstore K.1 K.2.1 dc_Mo_power_44 hl (by decide) rfl (fun ls hl => ?_)
        have hl : lv_has ls 18 [(11, .long 0), (9, .long 0), (7, .long 0), (5, .long 1), (3, .long v2), (2, .int v1), (0, .ref h), (1, .int xn)] := hl
        refine lv_iconst (v := 0) K.1 K.2.1 dc_Mo_power_46 (by decide) ?_
        refine lv_istore K.1 K.2.1 dc_Mo_power_47 hl (by decide) rfl (fun ls hl => ?_)
        have hl : lv_has ls 18 [(13, .int 0), (11, .long 0), (9, .long 0), (7, .long 0), (5, .long 1), (3, .long v2), (2, .int v1), (0, .ref h), (1, .int xn)] := hl
        refine fq_lp (σ := Nat × Int64 × Int64 × Int64 × Int64) (fun x => 12 - x.1) (fun x H locs ls => (x.1 ≤ 12 ∧ tn_J v2 (pw_L fL su) (su - su % 12) x.1 x.2.1 x.2.2.1 x.2.2.2.1 x.2.2.2.2) ∧ lv_has ls 18 [(0, .ref h), (2, .int v1), (3, .long v2), (5, .long x.2.1), (7, .long x.2.2.1), (9, .long x.2.2.2.1), (11, .long x.2.2.2.2), (13, .int (nI x.1))] ∧ va_P D fq_cl ([(h, .inr (12, [.int (nI rm), .int (fq_b sd), .int (nI ns), .ref aK, .ref aN, .int (nI iw), .int (nI ow), .int (fq_b ih), .int (fq_b oh), .ref aB, .int (nI ca), .int (nI us), .int (fq_b cl), .int (fq_b fl), .ref aS, .int (nI tk), .ref aL, .ref aX, .int (nI md), .int (nI gi), .int (nI su), .int (nI ps), .int (nI cs)])), (aK, .inl (cI, 5, .inl fK)), (aN, .inl (cI, 25, .inl fN)), (aB, .inl (cI, 120, .inl fB)), (aS, .inl (cI, 120, .inl fS)), (aL, .inl (cI, 2300, .inl fL)), (aX, .inl (cI, 2300, .inl fX))]) H ∧ va_D A ([(h, .inr (12, [.int (nI rm), .int (fq_b sd), .int (nI ns), .ref aK, .ref aN, .int (nI iw), .int (nI ow), .int (fq_b ih), .int (fq_b oh), .ref aB, .int (nI ca), .int (nI us), .int (fq_b cl), .int (fq_b fl), .ref aS, .int (nI tk), .ref aL, .ref aX, .int (nI md), .int (nI gi), .int (nI su), .int (nI ps), .int (nI cs)])), (aK, .inl (cI, 5, .inl fK)), (aN, .inl (cI, 25, .inl fN)), (aB, .inl (cI, 120, .inl fB)), (aS, .inl (cI, 120, .inl fS)), (aL, .inl (cI, 2300, .inl fL)), (aX, .inl (cI, 2300, .inl fX))]) ∧ va_S A s.heap H locs) ?_ (0, 1, 0, 0, 0) _ _ _ ⟨⟨Nat.zero_le _, tn_J0⟩, lv_sub hl [7, 6, 5, 4, 3, 2, 1, 0] rfl, hP, hD, hS⟩
        rintro ⟨j, pp, qq, aa, bb⟩ H locs ls ⟨hI49, hl, hP, hD, hS⟩ ih49
        have hI49 : j ≤ 12 ∧ tn_J v2 (pw_L fL su) (su - su % 12) j pp qq aa bb := hI49
        have hl : lv_has ls 18 [(0, .ref h), (2, .int v1), (3, .long v2), (5, .long pp), (7, .long qq), (9, .long aa), (11, .long bb), (13, .int (nI j))] := hl
        have hP : va_P D fq_cl ([(h, .inr (12, [.int (nI rm), .int (fq_b sd), .int (nI ns), .ref aK, .ref aN, .int (nI iw), .int (nI ow), .int (fq_b ih), .int (fq_b oh), .ref aB, .int (nI ca), .int (nI us), .int (fq_b cl), .int (fq_b fl), .ref aS, .int (nI tk), .ref aL, .ref aX, .int (nI md), .int (nI gi), .int (nI su), .int (nI ps), .int (nI cs)])), (aK, .inl (cI, 5, .inl fK)), (aN, .inl (cI, 25, .inl fN)), (aB, .inl (cI, 120, .inl fB)), (aS, .inl (cI, 120, .inl fS)), (aL, .inl (cI, 2300, .inl fL)), (aX, .inl (cI, 2300, .inl fX))]) _ := hP
        have hD : va_D A ([(h, .inr (12, [.int (nI rm), .int (fq_b sd), .int (nI ns), .ref aK, .ref aN, .int (nI iw), .int (nI ow), .int (fq_b ih), .int (fq_b oh), .ref aB, .int (nI ca), .int (nI us), .int (fq_b cl), .int (fq_b fl), .ref aS, .int (nI tk), .ref aL, .ref aX, .int (nI md), .int (nI gi), .int (nI su), .int (nI ps), .int (nI cs)])), (aK, .inl (cI, 5, .inl fK)), (aN, .inl (cI, 25, .inl fN)), (aB, .inl (cI, 120, .inl fB)), (aS, .inl (cI, 120, .inl fS)), (aL, .inl (cI, 2300, .inl fL)), (aX, .inl (cI, 2300, .inl fX))]) := hD
        refine lv_iload K.1 K.2.1 dc_Mo_power_49 (lv_at hl 7 rfl) ?_
        refine lv_bipush (v := 12) K.1 K.2.1 dc_Mo_power_51 (by decide) ?_
        refine lv_icmp_ge (tgt := 115) K.1 K.2.1 dc_Mo_power_53 rfl (fun b53 => ?_) (fun b53 => ?_)
        · skip
          have hj : j = 12 := sr_c hI49.1 b53
          refine lv_lload K.1 K.2.1 dc_Mo_power_115 (lv_at hl 5 rfl) ?_
          refine lv_lload K.1 K.2.1 dc_Mo_power_117 (lv_at hl 5 rfl) ?_
          refine lv_lmul K.1 K.2.1 dc_Mo_power_119 ?_
          refine lv_lload_n K.1 K.2.1 dc_Mo_power_120 rfl (lv_at hl 2 rfl) ?_
          refine lv_lload K.1 K.2.1 dc_Mo_power_121 (lv_at hl 5 rfl) ?_
          refine lv_lmul K.1 K.2.1 dc_Mo_power_123 ?_
          refine lv_lload K.1 K.2.1 dc_Mo_power_124 (lv_at hl 6 rfl) ?_
          refine lv_lmul K.1 K.2.1 dc_Mo_power_126 ?_
          refine lv_ladd K.1 K.2.1 dc_Mo_power_127 ?_
          refine lv_lload K.1 K.2.1 dc_Mo_power_128 (lv_at hl 6 rfl) ?_
          refine lv_lload K.1 K.2.1 dc_Mo_power_130 (lv_at hl 6 rfl) ?_
          refine lv_lmul K.1 K.2.1 dc_Mo_power_132 ?_
          refine lv_ladd K.1 K.2.1 dc_Mo_power_133 ?_
          exact fq_retl K hret hlk hS hP hD ⟨rfl, pw_r3 b15 b20 h1 e_v2 hj hI49.2⟩ dc_Mo_power_134 (Nat.le_of_ble_eq_true rfl) (Nat.le_of_ble_eq_true rfl)
        · skip
          have hj : j < 12 := sr_d hI49.1 b53
          refine lv_aload_n K.1 K.2.1 dc_Mo_power_56 rfl (lv_at hl 0 rfl) ?_
          refine fq_get K hK cl_Mo hP 0 16 rfl (by decide) wd_786 rfl dc_Mo_power_57 ?_
          refine lv_bipush (v := 12) K.1 K.2.1 dc_Mo_power_60 (by decide) ?_
          refine lv_iload_n K.1 K.2.1 dc_Mo_power_62 rfl (lv_at hl 1 rfl) ?_
          refine lv_imul K.1 K.2.1 dc_Mo_power_63 ?_
          refine fq_asi (y := nI (12 * (su / 12 - 1))) (by rw [e_v1, show nI (su / 12) - 1 = nI (su / 12 - 1) from pk_sub (a := su / 12) (b := 1) h1]; exact pk_mul 12 _) ?_
          refine lv_iload K.1 K.2.1 dc_Mo_power_64 (lv_at hl 7 rfl) ?_
          refine lv_iadd K.1 K.2.1 dc_Mo_power_66 ?_
          refine fq_asi (y := nI (12 * (su / 12 - 1) + j)) (nI_add _ _) ?_
          refine fq_ald K hK hP 5 rfl (vp_in_nI (show 12 * (su / 12 - 1) + j < 2300 by omega) (by decide)) dc_Mo_power_67 ?_
          refine fq_asi (y := fL (12 * (su / 12 - 1) + j)) (by rw [nI_clamp (show 12 * (su / 12 - 1) + j < 2 ^ 31 by omega)]) ?_
          refine lv_i2l K.1 K.2.1 dc_Mo_power_68 rfl ?_
          refine lv_topl (fun v3 e_v3 => ?_)
          refine lv_lstore K.1 K.2.1 dc_Mo_power_69 hl (by decide) rfl (fun ls hl => ?_)
          have hl : lv_has ls 18 [(14, .long v3), (0, .ref h), (2, .int v1), (3, .long v2), (5, .long pp), (7, .long qq), (9, .long aa), (11, .long bb), (13, .int (nI j))] := hl
          have hs : v3 = ((pw_L fL su).getD (su - su % 12 - 12 + j) 0).toInt64 := by rw [e_v3, pw_g (by omega), show su - su % 12 - 12 + j = 12 * (su / 12 - 1) + j by omega]
          refine lv_lload K.1 K.2.1 dc_Mo_power_71 (lv_at hl 6 rfl) ?_
          refine lv_lload K.1 K.2.1 dc_Mo_power_73 (lv_at hl 4 rfl) ?_
          refine lv_lload K.1 K.2.1 dc_Mo_power_75 (lv_at hl 0 rfl) ?_
          refine lv_lmul K.1 K.2.1 dc_Mo_power_77 ?_
          refine lv_ladd K.1 K.2.1 dc_Mo_power_78 ?_
          refine lv_topl (fun v4 e_v4 => ?_)
          refine lv_lstore K.1 K.2.1 dc_Mo_power_79 hl (by decide) rfl (fun ls hl => ?_)
          have hl : lv_has ls 18 [(9, .long v4), (14, .long v3), (0, .ref h), (2, .int v1), (3, .long v2), (5, .long pp), (7, .long qq), (11, .long bb), (13, .int (nI j))] := hl
          refine lv_lload K.1 K.2.1 dc_Mo_power_81 (lv_at hl 7 rfl) ?_
          refine lv_lload K.1 K.2.1 dc_Mo_power_83 (lv_at hl 6 rfl) ?_
          refine lv_lload K.1 K.2.1 dc_Mo_power_85 (lv_at hl 1 rfl) ?_
          refine lv_lmul K.1 K.2.1 dc_Mo_power_87 ?_
          refine lv_ladd K.1 K.2.1 dc_Mo_power_88 ?_
          refine lv_topl (fun v5 e_v5 => ?_)
          refine lv_lstore K.1 K.2.1 dc_Mo_power_89 hl (by decide) rfl (fun ls hl => ?_)
          have hl : lv_has ls 18 [(11, .long v5), (9, .long v4), (14, .long v3), (0, .ref h), (2, .int v1), (3, .long v2), (5, .long pp), (7, .long qq), (13, .int (nI j))] := hl
          refine lv_lload K.1 K.2.1 dc_Mo_power_91 (lv_at hl 6 rfl) ?_
          refine lv_lstore K.1 K.2.1 dc_Mo_power_93 hl (by decide) rfl (fun ls hl => ?_)
          have hl : lv_has ls 18 [(16, .long pp), (11, .long v5), (9, .long v4), (14, .long v3), (0, .ref h), (2, .int v1), (3, .long v2), (5, .long pp), (7, .long qq), (13, .int (nI j))] := hl
          refine lv_lload K.1 K.2.1 dc_Mo_power_95 (lv_at hl 8 rfl) ?_
          refine lv_lneg K.1 K.2.1 dc_Mo_power_97 ?_
          refine lv_topl (fun v6 e_v6 => ?_)
          refine lv_lstore K.1 K.2.1 dc_Mo_power_98 hl (by decide) rfl (fun ls hl => ?_)
          have hl : lv_has ls 18 [(5, .long v6), (16, .long pp), (11, .long v5), (9, .long v4), (14, .long v3), (0, .ref h), (2, .int v1), (3, .long v2), (7, .long qq), (13, .int (nI j))] := hl
          refine lv_lload K.1 K.2.1 dc_Mo_power_100 (lv_at hl 1 rfl) ?_
          refine lv_lload_n K.1 K.2.1 dc_Mo_power_102 rfl (lv_at hl 7 rfl) ?_
          refine lv_lload K.1 K.2.1 dc_Mo_power_103 (lv_at hl 8 rfl) ?_
          refine lv_lmul K.1 K.2.1 dc_Mo_power_105 ?_
          refine lv_ladd K.1 K.2.1 dc_Mo_power_106 ?_
          refine lv_topl (fun v7 e_v7 => ?_)
          refine lv_lstore K.1 K.2.1 dc_Mo_power_107 hl (by decide) rfl (fun ls hl => ?_)
          have hl : lv_has ls 18 [(7, .long v7), (5, .long v6), (16, .long pp), (11, .long v5), (9, .long v4), (14, .long v3), (0, .ref h), (2, .int v1), (3, .long v2), (13, .int (nI j))] := hl
          refine lv_iinc (v := nI (j + 1)) K.1 K.2.1 dc_Mo_power_109 hl (k := 9) rfl (nI_1 j) (by decide) rfl (fun ls hl => ?_)
          have hl : lv_has ls 18 [(13, .int (nI (j + 1))), (7, .long v7), (5, .long v6), (16, .long pp), (11, .long v5), (9, .long v4), (14, .long v3), (0, .ref h), (2, .int v1), (3, .long v2)] := hl
          refine lv_goto (tgt := 49) K.1 K.2.1 dc_Mo_power_112 rfl ?_
          exact ih49 (j + 1, v6, v7, v4, v5) _ _ _ (by show 12 - (j + 1) < 12 - j; omega) ⟨⟨hj, tn_Js hI49.2 hj (by omega) hs e_v4 e_v5 e_v6 e_v7⟩, lv_sub hl [7, 8, 9, 2, 1, 5, 4, 0] rfl, hP, hD, hS⟩
      · skip
        refine lv_ldc2 (v := (-1)) K.1 K.2.1 K.2.2.2.1 (K.2.2.2.2 _ wd_1000) dc_Mo_power_23 ?_
        exact fq_retl K hret hlk hS hP hD ⟨rfl, by first | exact pw_r1 h0 | exact pw_r2 (Or.inl b15) | exact pw_r2 (Or.inr (Int32.not_le.mp b20))⟩ dc_Mo_power_26 (Nat.le_of_ble_eq_true rfl) (Nat.le_of_ble_eq_true rfl)
