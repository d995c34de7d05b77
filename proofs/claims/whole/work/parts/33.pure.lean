
/-! how many come out -/
theorem pl_dl (sp : fm_S) (fl : Bool) (xs zs : List Int) : (fm_d sp fl xs zs).length = fm_m sp fl (xs.length + zs.length) - fm_m sp false xs.length := by
  unfold fm_d
  rw [List.length_drop, fm_o_length, List.length_append]
def pl_b (sp : fm_S) (e : Nat) : Nat := if sp.1 = 3 then 4 * e + 6 else if sp.1 = 2 then e + 7 else e
def pl_c (sp : fm_S) (e : Nat) : Nat := if sp.1 = 3 then 4 * e else e
theorem pl_mx {u d : Int} (hu : 1 ≤ u ∧ u ≤ 4) (hd : 1 ≤ d ∧ d ≤ 4) : 1 ≤ (fm_max u d).toNat ∧ (fm_max u d).toNat ≤ 4 ∧ d.toNat ≤ (fm_max u d).toNat := by
  unfold fm_max
  split <;> omega
theorem pl_b1 {sp : fm_S} (hok : fm_ok sp) (fl : Bool) (n e : Nat) : fm_m sp fl (n + e) - fm_m sp false n ≤ pl_b sp e := by
  obtain ⟨h3, -, -, hw, hr⟩ := hok
  unfold fm_m pl_b
  by_cases hk : sp.1 < 2
  · rw [if_pos (Or.inr hk), if_pos (Or.inr hk), if_neg (by omega), if_neg (by omega)]; omega
  by_cases h0 : n + e = 0
  · rw [if_pos (Or.inl h0)]; omega
  rw [if_neg (show ¬ (n + e = 0 ∨ sp.1 < 2) by omega)]
  by_cases k2 : sp.1 = 2
  · obtain ⟨-, l1, l8⟩ := hw k2
    rw [if_pos k2, if_neg (show ¬ sp.1 = 3 by omega), if_pos k2]
    split <;> split <;> (try split) <;> (try split) <;> omega
  · have k3 : sp.1 = 3 := by omega
    obtain ⟨hu, hd⟩ := hr k3
    obtain ⟨m1, m4, m5⟩ := pl_mx hu hd
    rw [if_neg k2, if_pos k3, if_neg k2, if_neg (show ¬ (false : Bool) = true by decide)]
    generalize (fm_max sp.2.1 sp.2.2.1).toNat = r at m1 m4 m5 ⊢
    have hu' : 1 ≤ sp.2.1.toNat ∧ sp.2.1.toNat ≤ 4 := by omega
    have hd' : 1 ≤ sp.2.2.1.toNat ∧ sp.2.2.1.toNat ≤ 4 := by omega
    generalize sp.2.1.toNat = u at hu' ⊢
    generalize sp.2.2.1.toNat = d at hd' m5 ⊢
    have he : e * u ≤ 4 * e := by rw [Nat.mul_comm 4 e]; exact Nat.mul_le_mul_left e hu'.2
    have hn : n = 0 → n * u = 0 := fun z => by rw [z, Nat.zero_mul]
    rw [Nat.add_mul]
    generalize n * u = a at hn ⊢
    generalize e * u = b at he ⊢
    have cd : d = 1 ∨ d = 2 ∨ d = 3 ∨ d = 4 := by omega
    rcases cd with rfl | rfl | rfl | rfl <;> cases fl <;> simp only [Bool.false_eq_true, if_true, if_false] <;> split <;> omega
theorem pl_c1 {sp : fm_S} (hok : fm_ok sp) (n e : Nat) : fm_m sp false (n + e) - fm_m sp false n ≤ pl_c sp e := by
  obtain ⟨h3, -, -, hw, hr⟩ := hok
  unfold fm_m pl_c
  simp only [Bool.false_eq_true, if_false]
  by_cases hk : sp.1 < 2
  · rw [if_pos (Or.inr hk), if_pos (Or.inr hk), if_neg (by omega)]; omega
  by_cases h0 : n + e = 0
  · rw [if_pos (Or.inl h0)]; omega
  rw [if_neg (show ¬ (n + e = 0 ∨ sp.1 < 2) by omega)]
  by_cases k2 : sp.1 = 2
  · rw [if_pos k2, if_neg (show ¬ sp.1 = 3 by omega), if_pos k2]
    split <;> omega
  · have k3 : sp.1 = 3 := by omega
    obtain ⟨hu, hd⟩ := hr k3
    rw [if_neg k2, if_pos k3, if_neg k2]
    have hu' : 1 ≤ sp.2.1.toNat ∧ sp.2.1.toNat ≤ 4 := by omega
    have hd' : 1 ≤ sp.2.2.1.toNat ∧ sp.2.2.1.toNat ≤ 4 := by omega
    generalize sp.2.1.toNat = u at hu' ⊢
    generalize sp.2.2.1.toNat = d at hd' ⊢
    have he : e * u ≤ 4 * e := by rw [Nat.mul_comm 4 e]; exact Nat.mul_le_mul_left e hu'.2
    have hn : n = 0 → n * u = 0 := fun z => by rw [z, Nat.zero_mul]
    rw [Nat.add_mul]
    generalize n * u = a at hn ⊢
    generalize e * u = b at he ⊢
    have cd : d = 1 ∨ d = 2 ∨ d = 3 ∨ d = 4 := by omega
    rcases cd with rfl | rfl | rfl | rfl <;> split <;> omega
def pl_s (sps : List fm_S) : Nat := sps.countP (fun sp => sp.1 == 3)
def pl_w (sps : List fm_S) : Nat := sps.countP (fun sp => sp.1 == 2)
theorem pl_s1 {sp : fm_S} {r : List fm_S} (h : sp.1 = 3) : pl_s (sp :: r) = pl_s r + 1 := by
  unfold pl_s; rw [List.countP_cons, if_pos (by rw [h]; rfl)]
theorem pl_s0 {sp : fm_S} {r : List fm_S} (h : ¬ sp.1 = 3) : pl_s (sp :: r) = pl_s r := by
  unfold pl_s; rw [List.countP_cons, if_neg (by simpa using h)]; rfl
theorem pl_w1 {sp : fm_S} {r : List fm_S} (h : sp.1 = 2) : pl_w (sp :: r) = pl_w r + 1 := by
  unfold pl_w; rw [List.countP_cons, if_pos (by rw [h]; rfl)]
theorem pl_w0 {sp : fm_S} {r : List fm_S} (h : ¬ sp.1 = 2) : pl_w (sp :: r) = pl_w r := by
  unfold pl_w; rw [List.countP_cons, if_neg (by simpa using h)]; rfl
theorem pl_sw : ∀ (sps : List fm_S), pl_s sps + pl_w sps ≤ sps.length
  | [] => Nat.le_refl _
  | sp :: r => by
    have ih := pl_sw r
    rw [List.length_cons]
    by_cases h3 : sp.1 = 3
    · rw [pl_s1 h3, pl_w0 (by omega)]; omega
    · rw [pl_s0 h3]
      by_cases h2 : sp.1 = 2
      · rw [pl_w1 h2]; omega
      · rw [pl_w0 h2]; omega
theorem pl_N (fl : Bool) : ∀ (sps : List fm_S), (∀ sp ∈ sps, fm_ok sp) → ∀ (xs zs : List Int), (fm_N sps fl xs zs).length + 2 ≤ 4 ^ pl_s sps * (zs.length + 7 * pl_w sps + 2)
  | [], _, xs, zs => by
    show zs.length + 2 ≤ 1 * (zs.length + 0 + 2)
    omega
  | sp :: r, h, xs, zs => by
    have ih := pl_N fl r (fun q hq => h q (List.mem_cons_of_mem _ hq)) (fm_o sp false xs) (fm_d sp fl xs zs)
    have hb := pl_b1 (h sp List.mem_cons_self) fl xs.length zs.length
    rw [← pl_dl] at hb
    show (fm_N r fl (fm_o sp false xs) (fm_d sp fl xs zs)).length + 2 ≤ _
    generalize (fm_d sp fl xs zs).length = e at ih hb
    generalize (fm_N r fl (fm_o sp false xs) (fm_d sp fl xs zs)).length = L at ih ⊢
    unfold pl_b at hb
    refine Nat.le_trans ih ?_
    by_cases h3 : sp.1 = 3
    · rw [if_pos h3] at hb
      rw [pl_s1 h3, pl_w0 (by omega), Nat.pow_succ, Nat.mul_assoc]
      exact Nat.mul_le_mul_left _ (by omega)
    · rw [if_neg h3] at hb
      rw [pl_s0 h3]
      by_cases h2 : sp.1 = 2
      · rw [if_pos h2] at hb
        rw [pl_w1 h2]
        exact Nat.mul_le_mul_left _ (by omega)
      · rw [if_neg h2] at hb
        rw [pl_w0 h2]
        exact Nat.mul_le_mul_left _ (by omega)
theorem pl_Nf : ∀ (sps : List fm_S), (∀ sp ∈ sps, fm_ok sp) → ∀ (xs zs : List Int), (fm_N sps false xs zs).length ≤ 4 ^ pl_s sps * zs.length
  | [], _, xs, zs => by
    show zs.length ≤ 1 * zs.length
    omega
  | sp :: r, h, xs, zs => by
    have ih := pl_Nf r (fun q hq => h q (List.mem_cons_of_mem _ hq)) (fm_o sp false xs) (fm_d sp false xs zs)
    have hb := pl_c1 (h sp List.mem_cons_self) xs.length zs.length
    rw [← pl_dl] at hb
    show (fm_N r false (fm_o sp false xs) (fm_d sp false xs zs)).length ≤ _
    generalize (fm_d sp false xs zs).length = e at ih hb
    refine Nat.le_trans ih ?_
    unfold pl_c at hb
    by_cases h3 : sp.1 = 3
    · rw [if_pos h3] at hb
      rw [pl_s1 h3, Nat.pow_succ, Nat.mul_assoc]
      exact Nat.mul_le_mul_left _ (by omega)
    · rw [if_neg h3] at hb
      rw [pl_s0 h3]
      exact Nat.mul_le_mul_left _ hb
/-- chains as the class takes them -/
def pl_ok (sps : List fm_S) : Prop := (∀ sp ∈ sps, fm_ok sp) ∧ sps.length ≤ 5 ∧ pl_s sps ≤ 2
theorem pl_sub {P Q : List fm_S} (h : pl_ok P) (hs : Q.Sublist P) : pl_ok Q := ⟨fun sp hp => h.1 sp (hs.subset hp), Nat.le_trans hs.length_le h.2.1, Nat.le_trans (hs.countP_le) h.2.2⟩
theorem pl_N2 {Q : List fm_S} (h : pl_ok Q) (fl : Bool) (xs zs : List Int) : (fm_N Q fl xs zs).length ≤ 16 * zs.length + 366 := by
  have k := pl_N fl Q h.1 xs zs
  have hw := pl_sw Q
  have h5 := h.2.1
  have hs : pl_s Q = 0 ∨ pl_s Q = 1 ∨ pl_s Q = 2 := by have := h.2.2; omega
  rcases hs with e | e | e <;> rw [e] at k hw <;> omega
theorem pl_Nf2 {Q : List fm_S} (h : pl_ok Q) (xs zs : List Int) : (fm_N Q false xs zs).length ≤ 16 * zs.length := by
  have k := pl_Nf Q h.1 xs zs
  have hs : pl_s Q = 0 ∨ pl_s Q = 1 ∨ pl_s Q = 2 := by have := h.2.2; omega
  rcases hs with e | e | e <;> rw [e] at k <;> omega
theorem pl_o0 (sp : fm_S) : fm_o sp false [] = [] := by
  unfold fm_o fm_m
  rw [if_pos (Or.inl List.length_nil)]; rfl
theorem pl_o0t (sp : fm_S) : fm_o sp true [] = [] := by
  unfold fm_o fm_m
  rw [if_pos (Or.inl List.length_nil)]; rfl
theorem pl_O0 (fl : Bool) : ∀ (sps : List fm_S), fm_O sps fl [] = []
  | [] => rfl
  | sp :: r => by
    show fm_O r fl (fm_o sp fl []) = []
    cases fl
    · rw [pl_o0]; exact pl_O0 false r
    · rw [pl_o0t]; exact pl_O0 true r
theorem pl_ON {P : List fm_S} (h : ∀ sp ∈ P, fm_ok sp) (fl : Bool) (X : List Int) : fm_O P fl X = fm_N P fl [] X := by
  have k := fm_O_app fl P h [] X
  rw [List.nil_append, pl_O0, List.nil_append] at k
  exact k
theorem pl_Ol {P : List fm_S} (h : pl_ok P) (fl : Bool) (X : List Int) : (fm_O P fl X).length ≤ 16 * X.length + 366 := by
  rw [pl_ON h.1]; exact pl_N2 h fl [] X
theorem pl_G {P : List fm_S} (h : ∀ sp ∈ P, fm_ok sp) (X : List Int) : fm_G P X = fm_N P true X [] := by
  have k1 := fm_O_app true P h X []
  rw [List.append_nil, fm_O_flush P h X] at k1
  exact List.append_cancel_left k1
theorem pl_Gl {P : List fm_S} (h : pl_ok P) (X : List Int) : (fm_G P X).length ≤ 366 := by
  rw [pl_G h.1]
  have := pl_N2 h true X []
  rw [List.length_nil] at this
  omega
/-! the values -/
theorem pl_y {sp : fm_S} (hok : fm_ok sp) {xs : List Int} (hx : ∀ v ∈ xs, fm_in v) (i : Nat) : fm_in (fm_y sp xs i) := by
  obtain ⟨h3, -, -, hw, hr⟩ := hok
  unfold fm_y
  split
  · exact (fm_sec_in _ _ _ _ _ _ _).1
  · split
    · exact fm_clip_in _
    · split
      · rename_i k2
        obtain ⟨a, b, c⟩ := hw k2
        exact fm_win_in a (by omega) (by omega) hx
      · exact fm_clip_in _
theorem pl_oin {sp : fm_S} (hok : fm_ok sp) (fl : Bool) {xs : List Int} (hx : ∀ v ∈ xs, fm_in v) : ∀ v ∈ fm_o sp fl xs, fm_in v := by
  intro v hv
  obtain ⟨i, -, rfl⟩ := List.mem_map.mp hv
  exact pl_y hok hx i
theorem pl_Oin (fl : Bool) : ∀ {P : List fm_S}, (∀ sp ∈ P, fm_ok sp) → ∀ {xs : List Int}, (∀ v ∈ xs, fm_in v) → ∀ v ∈ fm_O P fl xs, fm_in v
  | [], _, xs, hx => hx
  | sp :: r, h, xs, hx => pl_Oin fl (P := r) (fun q hq => h q (List.mem_cons_of_mem _ hq)) (pl_oin (h sp List.mem_cons_self) fl hx)
theorem pl_Nin (fl : Bool) {P : List fm_S} (h : ∀ sp ∈ P, fm_ok sp) {xs zs : List Int} (hx : ∀ v ∈ xs, fm_in v) (hz : ∀ v ∈ zs, fm_in v) : ∀ v ∈ fm_N P fl xs zs, fm_in v := by
  intro v hv
  refine pl_Oin fl h (xs := xs ++ zs) (fun u hu => (List.mem_append.mp hu).elim (hx u) (hz u)) v ?_
  rw [fm_O_app fl P h]
  exact List.mem_append_right _ hv
/-! the chain's run -/
theorem pl_Os {fl : Bool} {sp : fm_S} : ∀ {P : List fm_S} {xs : List Int}, fm_O (P ++ [sp]) fl xs = fm_o sp fl (fm_O P fl xs)
  | [], _ => rfl
  | q :: r, xs => pl_Os (P := r) (xs := fm_o q fl xs)
theorem pl_Ns {fl : Bool} {sp : fm_S} : ∀ {P : List fm_S} {xs zs : List Int}, fm_N (P ++ [sp]) fl xs zs = fm_d sp fl (fm_O P false xs) (fm_N P fl xs zs)
  | [], _, _ => rfl
  | q :: r, xs, zs => pl_Ns (P := r) (xs := fm_o q false xs) (zs := fm_d q fl xs zs)
theorem pl_tk {P : List fm_S} {n : Nat} {sp : fm_S} (h : P[n]? = some sp) : P.take (n + 1) = P.take n ++ [sp] := by
  rw [List.take_add_one, h]; rfl
theorem pl_ss {α : Type} {l : List α} {i : Nat} {a : α} (h : l[i]? = some a) : l.set i a = l := by
  apply List.ext_getElem?
  intro j
  by_cases e : i = j
  · subst e
    rw [List.getElem?_set_self (List.getElem?_eq_some_iff.mp h).1, h]
  · rw [List.getElem?_set_ne e]
/-- from the stage k on, the stages have taken xs, and made all that they can without a flush -/
def pl_cn (sts : List ch_T) (P : List fm_S) (k : Nat) (xs : List Int) : Prop := sts.map (fun s => s.2.1) = P ∧ ∀ (j : Nat) (s : ch_T), k ≤ j → sts[j]? = some s → s.2.2.1 = fm_O ((P.drop k).take (j - k)) false xs ∧ s.2.2.2 = fm_m s.2.1 false s.2.2.1.length
theorem pl_sp {sts : List ch_T} {P : List fm_S} {j : Nat} {s : ch_T} (h : sts.map (fun s => s.2.1) = P) (hs : sts[j]? = some s) : P[j]? = some s.2.1 := by
  rw [← h, List.getElem?_map, hs]; rfl
theorem pl_it {sts : List ch_T} {P : List fm_S} {k : Nat} {xs q : List Int} (hok : ∀ sp ∈ P, fm_ok sp) (h : pl_cn sts P k xs) : ∀ (n : Nat), k + n ≤ sts.length →
    (ch_it sts k q n).2 = fm_N ((P.drop k).take n) false xs q ∧ (ch_it sts k q n).1.map (fun s => s.2.1) = P
    ∧ ∀ (j : Nat) (s : ch_T), k ≤ j → j < k + n → (ch_it sts k q n).1[j]? = some s → s.2.2.1 = fm_O ((P.drop k).take (j - k)) false (xs ++ q) ∧ s.2.2.2 = fm_m s.2.1 false s.2.2.1.length
  | 0, _ => ⟨rfl, h.1, fun j s h1 h2 => by omega⟩
  | n + 1, hn => by
    obtain ⟨i1, i2, i3⟩ := pl_it (q := q) hok h n (by omega)
    obtain ⟨s, hs⟩ : ∃ s, sts[k + n]? = some s := ⟨_, List.getElem?_eq_getElem (show k + n < sts.length by omega)⟩
    have hs1 : (ch_it sts k q n).1[k + n]? = some s := by rw [ch_it_ge (Nat.le_refl _)]; exact hs
    have hp : (P.drop k)[n]? = some s.2.1 := by rw [List.getElem?_drop]; exact pl_sp h.1 hs
    obtain ⟨c1, c2⟩ := h.2 (k + n) s (by omega) hs
    rw [show k + n - k = n by omega] at c1
    have e : ch_it sts k q (n + 1) = ((ch_it sts k q n).1.set (k + n) (s.1, s.2.1, s.2.2.1 ++ (ch_it sts k q n).2, fm_m s.2.1 false (s.2.2.1.length + (ch_it sts k q n).2.length)), fm_d s.2.1 false s.2.2.1 (ch_it sts k q n).2) := by
      show ch_one (ch_it sts k q n).1 (k + n) (ch_it sts k q n).2 = _
      unfold ch_one
      rw [hs1]
    rw [e]
    refine ⟨?_, ?_, ?_⟩
    · show fm_d s.2.1 false s.2.2.1 (ch_it sts k q n).2 = _
      rw [pl_tk hp, pl_Ns, c1, i1]
    · show List.map _ (List.set _ _ _) = P
      rw [List.map_set, i2]
      have hp0 : P[k + n]? = some s.2.1 := pl_sp h.1 hs
      exact pl_ss hp0
    · intro j t h1 h2 h3
      by_cases ej : j = k + n
      · subst ej
        have hl : k + n < (ch_it sts k q n).1.length := (List.getElem?_eq_some_iff.mp hs1).1
        rw [show (((ch_it sts k q n).1.set (k + n) (s.1, s.2.1, s.2.2.1 ++ (ch_it sts k q n).2, fm_m s.2.1 false (s.2.2.1.length + (ch_it sts k q n).2.length)), fm_d s.2.1 false s.2.2.1 (ch_it sts k q n).2) : List ch_T × List Int).1 = (ch_it sts k q n).1.set (k + n) (s.1, s.2.1, s.2.2.1 ++ (ch_it sts k q n).2, fm_m s.2.1 false (s.2.2.1.length + (ch_it sts k q n).2.length)) from rfl, List.getElem?_set_self hl] at h3
        cases h3
        refine ⟨?_, ?_⟩
        · show s.2.2.1 ++ (ch_it sts k q n).2 = _
          rw [show k + n - k = n by omega, c1, i1, fm_O_app false _ (fun sp hsp => hok sp (List.mem_of_mem_drop (List.mem_of_mem_take hsp)))]
        · show fm_m s.2.1 false (s.2.2.1.length + (ch_it sts k q n).2.length) = fm_m s.2.1 false (s.2.2.1 ++ (ch_it sts k q n).2).length
          rw [List.length_append]
      · refine i3 j t h1 (by omega) ?_
        rw [← h3]
        exact (List.getElem?_set_ne (fun z => ej z.symm)).symm
theorem pl_cnw {sts : List ch_T} {P : List fm_S} {k : Nat} {xs q : List Int} (hok : ∀ sp ∈ P, fm_ok sp) (h : pl_cn sts P k xs) : pl_cn (ch_it sts k q (sts.length - k)).1 P k (xs ++ q) := by
  by_cases hk : k ≤ sts.length
  · obtain ⟨i1, i2, i3⟩ := pl_it (q := q) hok h (sts.length - k) (by omega)
    refine ⟨i2, fun j s h1 h2 => i3 j s h1 ?_ h2⟩
    have hl : j < (ch_it sts k q (sts.length - k)).1.length := (List.getElem?_eq_some_iff.mp h2).1
    rw [show (ch_it sts k q (sts.length - k)).1.length = P.length by rw [← i2, List.length_map], ← h.1, List.length_map] at hl
    omega
  · rw [show sts.length - k = 0 by omega]
    refine ⟨h.1, fun j s h1 h2 => ?_⟩
    have hl := (List.getElem?_eq_some_iff.mp h2).1
    have hl : j < sts.length := hl
    omega

theorem pl_fe {sp : fm_S} (Z : List Int) : fl_e sp Z (fm_m sp false Z.length) = fm_d sp true Z [] := by
  unfold fl_e fm_d fm_o
  rw [List.append_nil]
  apply List.ext_getElem
  · simp
  · intro i h1 h2
    simp
theorem pl_st {sts : List ch_T} {P : List fm_S} {a m : Nat} {Z : List Int} {s : ch_T} (h : pl_cn sts P a Z) (hs : sts[a]? = some s) : pl_cn (sts.set a (s.1, s.2.1, s.2.2.1, m)) P (a + 1) (fm_o s.2.1 false Z) := by
  have hp : P[a]? = some s.2.1 := pl_sp h.1 hs
  refine ⟨?_, fun j t h1 h2 => ?_⟩
  · rw [List.map_set, h.1]
    exact pl_ss hp
  · rw [List.getElem?_set_ne (by omega)] at h2
    obtain ⟨c1, c2⟩ := h.2 j t (by omega) h2
    refine ⟨?_, c2⟩
    rw [c1, show P.drop a = s.2.1 :: P.drop (a + 1) by
      have hl := (List.getElem?_eq_some_iff.mp hp)
      rw [List.drop_eq_getElem_cons hl.1, hl.2], show j - a = (j - (a + 1)) + 1 by omega, List.take_succ_cons]
    rfl
theorem pl_fl {sts : List ch_T} {P : List fm_S} {X : List Int} (hok : ∀ sp ∈ P, fm_ok sp) (h : pl_cn sts P 0 X) : ∀ (a : Nat), a ≤ sts.length → pl_cn (fl_it sts a).1 P a (fm_O (P.take a) true X) ∧ (fl_it sts a).2 ++ fm_G (P.drop a) (fm_O (P.take a) true X) = fm_G P X
  | 0, _ => ⟨h, rfl⟩
  | a + 1, ha => by
    obtain ⟨i1, i2⟩ := pl_fl hok h a (by omega)
    have hlen : (fl_it sts a).1.length = sts.length := fl_len
    obtain ⟨s, hs⟩ : ∃ s, (fl_it sts a).1[a]? = some s := ⟨_, List.getElem?_eq_getElem (show a < (fl_it sts a).1.length by omega)⟩
    have hp : P[a]? = some s.2.1 := pl_sp i1.1 hs
    obtain ⟨c1, c2⟩ := i1.2 a s (Nat.le_refl _) hs
    rw [Nat.sub_self] at c1
    have c1 : s.2.2.1 = fm_O (P.take a) true X := c1
    generalize eZ : fm_O (P.take a) true X = Z at i1 i2 c1
    have hZ : fm_O (P.take (a + 1)) true X = fm_o s.2.1 true Z := by rw [pl_tk hp, pl_Os, eZ]
    have hd : P.drop a = s.2.1 :: P.drop (a + 1) := by
      have hl := (List.getElem?_eq_some_iff.mp hp)
      rw [List.drop_eq_getElem_cons hl.1, hl.2]
    have hsp : fm_ok s.2.1 := hok _ (List.mem_of_getElem? hp)
    have e1 : fl_e s.2.1 s.2.2.1 s.2.2.2 = fm_d s.2.1 true Z [] := by rw [c2, c1]; exact pl_fe Z
    have h2 := pl_st (m := s.2.2.2 + (fm_m s.2.1 true s.2.2.1.length - s.2.2.2)) i1 hs
    have e2 : fl_one (fl_it sts a).1 a = ch_it ((fl_it sts a).1.set a (s.1, s.2.1, s.2.2.1, s.2.2.2 + (fm_m s.2.1 true s.2.2.1.length - s.2.2.2))) (a + 1) (fl_e s.2.1 s.2.2.1 s.2.2.2) (((fl_it sts a).1.set a (s.1, s.2.1, s.2.2.1, s.2.2.2 + (fm_m s.2.1 true s.2.2.1.length - s.2.2.2))).length - (a + 1)) := by
      unfold fl_one
      rw [hs, List.length_set]
    have h3 := pl_cnw (q := fl_e s.2.1 s.2.2.1 s.2.2.2) hok h2
    have h4 := pl_it (q := fl_e s.2.1 s.2.2.1 s.2.2.2) hok h2 (((fl_it sts a).1.set a (s.1, s.2.1, s.2.2.1, s.2.2.2 + (fm_m s.2.1 true s.2.2.1.length - s.2.2.2))).length - (a + 1)) (by rw [List.length_set]; omega)
    rw [← e2] at h3 h4
    have e3 : fm_o s.2.1 false Z ++ fm_d s.2.1 true Z [] = fm_o s.2.1 true Z := by
      have k := fm_o_app hsp true Z []
      rw [List.append_nil] at k
      rw [k]; unfold fm_d; rw [List.append_nil]
    have eL : P.length = sts.length := by rw [← h.1, List.length_map]
    refine ⟨?_, ?_⟩
    · rw [hZ, ← e3, ← e1]
      exact h3
    · show ((fl_it sts a).2 ++ (fl_one (fl_it sts a).1 a).2) ++ fm_G (P.drop (a + 1)) (fm_O (P.take (a + 1)) true X) = _
      rw [← i2, List.append_assoc, hd, hZ]
      congr 1
      show (fl_one (fl_it sts a).1 a).2 ++ _ = fm_N (P.drop (a + 1)) false (fm_o s.2.1 false Z) (fm_d s.2.1 true Z []) ++ fm_G (P.drop (a + 1)) (fm_o s.2.1 true Z)
      rw [h4.1, List.take_of_length_le (by rw [List.length_set, List.length_drop]; omega), e1]
/-! what the class asks -/
theorem pl_lo {sts : List ch_T} {k : Nat} {q : List Int} : ∀ {n j : Nat}, j < k → (ch_it sts k q n).1[j]? = sts[j]?
  | 0, _, _ => rfl
  | n + 1, j, h => by
    have ih := pl_lo (sts := sts) (k := k) (q := q) (n := n) (j := j) h
    show (ch_one (ch_it sts k q n).1 (k + n) (ch_it sts k q n).2).1[j]? = _
    unfold ch_one
    split
    · rw [List.getElem?_set_ne (by omega)]; exact ih
    · exact ih
theorem pl_un {sts : List ch_T} {P : List fm_S} {k : Nat} {xs : List Int} (h : pl_cn sts P k xs) : ch_un sts k := fun j s h1 h2 => (h.2 j s h1 h2).2
theorem pl_dt (P : List fm_S) (k n : Nat) : ((P.drop k).take n).Sublist P := ((P.drop k).take_sublist n).trans (P.drop_sublist k)
theorem pl_fit {sts : List ch_T} {P : List fm_S} {k : Nat} {xs q : List Int} (hok : pl_ok P) (h : pl_cn sts P k xs) (hx : ∀ v ∈ xs, fm_in v) (hq : ∀ v ∈ q, fm_in v) (hl : q.length ≤ 22) (hb : ∀ s ∈ sts, s.2.2.1.length < 2500) : ch_fit sts k q := by
  intro n hn
  by_cases hk : k ≤ sts.length
  · obtain ⟨i1, i2, i3⟩ := pl_it (q := q) hok.1 h n (by omega)
    have hs := pl_sub hok (pl_dt P k n)
    refine ⟨?_, ?_, ?_⟩
    · rw [i1]
      have := pl_Nf2 hs xs q
      omega
    · rw [i1]
      exact pl_Nin false hs.1 hx hq
    · intro s hm
      obtain ⟨j, hj, e⟩ := List.getElem_of_mem hm
      have hj' : (ch_it sts k q n).1[j]? = some s := by rw [List.getElem?_eq_getElem hj, e]
      by_cases c1 : k ≤ j ∧ j < k + n
      · obtain ⟨d1, -⟩ := i3 j s c1.1 c1.2 hj'
        rw [d1, fm_O_app false _ (pl_sub hok (pl_dt P k (j - k))).1, List.length_append]
        have := pl_Nf2 (pl_sub hok (pl_dt P k (j - k))) xs q
        obtain ⟨t, ht⟩ : ∃ t, sts[j]? = some t := ⟨_, List.getElem?_eq_getElem (show j < sts.length by omega)⟩
        have b := hb t (List.mem_of_getElem? ht)
        rw [(h.2 j t c1.1 ht).1] at b
        omega
      · have e2 : sts[j]? = some s := by
          by_cases c2 : k + n ≤ j
          · rw [← hj', ch_it_ge c2]
          · rw [← hj', pl_lo (by omega)]
        have := hb s (List.mem_of_getElem? e2)
        omega
  · rw [show n = 0 by omega]
    refine ⟨?_, hq, fun s hs => ?_⟩
    · show q.length ≤ 366; omega
    · have := hb s hs; omega

theorem pl_Oa {fl : Bool} {Q : List fm_S} : ∀ {P : List fm_S} {xs : List Int}, fm_O (P ++ Q) fl xs = fm_O Q fl (fm_O P fl xs)
  | [], _ => rfl
  | q :: r, xs => pl_Oa (P := r) (xs := fm_o q fl xs)
theorem pl_xl {sts : List ch_T} {P : List fm_S} {X : List Int} {a j : Nat} {s : ch_T} (hok : pl_ok P) (h : pl_cn sts P a (fm_O (P.take a) true X)) (hj : a ≤ j) (hs : sts[j]? = some s) : s.2.2.1.length ≤ 16 * X.length + 366 := by
  rw [(h.2 j s hj hs).1]
  have hb : ((P.take a) ++ (P.drop a).take (j - a)).Sublist P := by
    conv => rhs; rw [← List.take_append_drop a P]
    exact (List.Sublist.refl _).append (List.take_sublist _ _)
  have hs2 := pl_sub hok hb
  have h1 := pl_Ol hs2 true X
  rw [pl_Oa, fm_O_flush _ (fun sp hsp => hs2.1 sp (List.mem_append_right _ hsp)), List.length_append] at h1
  omega
theorem pl_xf {sts : List ch_T} {P : List fm_S} {X : List Int} (hok : pl_ok P) (h : pl_cn sts P 0 X) : ∀ (a : Nat), a ≤ sts.length → ∀ s ∈ (fl_it sts a).1, s.2.2.1.length ≤ 16 * X.length + 366
  | 0, _, s, hs => by
    have hs : s ∈ sts := hs
    obtain ⟨j, hj, e⟩ := List.getElem_of_mem hs
    exact pl_xl (a := 0) hok h (Nat.zero_le j) (by rw [List.getElem?_eq_getElem hj, e])
  | a + 1, ha, s, hs => by
    have ih := pl_xf hok h a (by omega)
    obtain ⟨i1, -⟩ := pl_fl hok.1 h (a + 1) ha
    obtain ⟨j, hj, e⟩ := List.getElem_of_mem hs
    have hj' : (fl_it sts (a + 1)).1[j]? = some s := by rw [List.getElem?_eq_getElem hj, e]
    by_cases c : a + 1 ≤ j
    · exact pl_xl hok i1 c hj'
    · have hlen : (fl_it sts a).1.length = sts.length := fl_len
      obtain ⟨t, ht⟩ : ∃ t, (fl_it sts a).1[a]? = some t := ⟨_, List.getElem?_eq_getElem (show a < (fl_it sts a).1.length by omega)⟩
      have hj2 : (fl_one (fl_it sts a).1 a).1[j]? = some s := hj'
      unfold fl_one at hj2
      rw [ht] at hj2
      have hj2 : (ch_it ((fl_it sts a).1.set a (t.1, t.2.1, t.2.2.1, t.2.2.2 + (fm_m t.2.1 true t.2.2.1.length - t.2.2.2))) (a + 1) (fl_e t.2.1 t.2.2.1 t.2.2.2) ((fl_it sts a).1.length - (a + 1))).1[j]? = some s := hj2
      rw [pl_lo (by omega)] at hj2
      by_cases ej : a = j
      · subst ej
        rw [List.getElem?_set_self (by omega)] at hj2
        cases hj2
        exact ih t (List.mem_of_getElem? ht)
      · rw [List.getElem?_set_ne ej] at hj2
        exact ih s (List.mem_of_getElem? hj2)
theorem pl_ffit {sts : List ch_T} {P : List fm_S} {X : List Int} (hok : pl_ok P) (h : pl_cn sts P 0 X) (hX : X.length ≤ 120) (hx : ∀ v ∈ X, fm_in v) : fl_fit sts [] 366 := by
  intro a s ha hs
  obtain ⟨i1, i2⟩ := pl_fl hok.1 h a (by omega)
  obtain ⟨j1, j2⟩ := pl_fl hok.1 h (a + 1) (by omega)
  obtain ⟨c1, c2⟩ := i1.2 a s (Nat.le_refl _) hs
  have hxl := pl_xf hok h a (by omega)
  have h2 := pl_st (m := s.2.2.2 + (fm_m s.2.1 true s.2.2.1.length - s.2.2.2)) i1 hs
  rw [Nat.sub_self] at c1
  have c1 : s.2.2.1 = fm_O (P.take a) true X := c1
  have hp : P[a]? = some s.2.1 := pl_sp i1.1 hs
  have hsp : fm_ok s.2.1 := hok.1 _ (List.mem_of_getElem? hp)
  have hZ : ∀ v ∈ s.2.2.1, fm_in v := by rw [c1]; exact pl_Oin true (fun sp hsp => hok.1 sp (List.mem_of_mem_take hsp)) hx
  have e1 : fl_e s.2.1 s.2.2.1 s.2.2.2 = fm_d s.2.1 true s.2.2.1 [] := by rw [c2]; exact pl_fe _
  have hl : (fl_e s.2.1 s.2.2.1 s.2.2.2).length ≤ 7 := by
    rw [e1, pl_dl]
    have := pl_b1 hsp true s.2.2.1.length ([] : List Int).length
    rw [show ([] : List Int).length = 0 from rfl] at this ⊢
    refine Nat.le_trans this ?_
    unfold pl_b
    split
    · omega
    · split <;> omega
  have hfin : ∀ v ∈ fl_e s.2.1 s.2.2.1 s.2.2.2, fm_in v := by
    rw [e1]
    intro v hv
    have hv2 := List.mem_of_mem_drop hv
    rw [List.append_nil] at hv2
    exact pl_oin hsp true hZ v hv2
  refine ⟨c2, ?_, by omega, pl_un h2, ?_, ?_⟩
  · have := hxl s (List.mem_of_getElem? hs); omega
  · refine pl_fit hok h2 (pl_oin hsp false (c1 ▸ hZ)) hfin (by omega) (fun t ht => ?_)
    rcases List.mem_or_eq_of_mem_set ht with z | z
    · have := hxl t z; omega
    · rw [z]
      have := hxl s (List.mem_of_getElem? hs)
      show s.2.2.1.length < 2500
      omega
  · have := pl_Gl hok X
    rw [← j2, List.length_append] at this
    show 0 + _ ≤ 366
    omega
theorem pl_bm {n : Nat} (v : Int) (h : 0 < n) (h2 : n % 2 = 0) : -(n : Int) ≤ 2 * v.bmod n ∧ 2 * v.bmod n < n := by
  have h1 := Int.le_bmod (x := v) h
  have h3 := Int.bmod_lt (x := v) h
  omega
theorem pl_ns {w v : Nat} (hw : 1 ≤ w ∧ w ≤ 4) (hv : v < 2 ^ (8 * w)) : fm_in (ns_s w v) := by
  unfold ns_s fm_in
  split
  · rename_i e; subst e
    have : v < 256 := hv
    omega
  · split
    · have := pl_bm (n := 65536) (v : Int) (by decide) (by decide); omega
    · split
      · have := pl_bm (n := 16777216) (v : Int) (by decide) (by decide); omega
      · have := pl_bm (n := 4294967296) (v : Int) (by decide) (by decide); omega
/-! the state of class and reference -/
abbrev st_P (S : fs_A) : List fm_S := S.sts.map (fun s => s.2.1)
def st_Y (S : fs_A) (X : List Int) : List Int := fm_O (st_P S) S.fl X
def st_I (S : fs_A) (us md gi su : Nat) (X : List Int) : Prop :=
  fp_n S.ps S.cs S.ca S.iw S.ow S.sts ∧ (1 ≤ S.rm ∧ S.rm ≤ 12) ∧ (pl_ok (st_P S) ∧ S.rs = pl_s (st_P S))
  ∧ (us ≤ S.ca ∧ X.length ≤ us ∧ S.Lb.length = S.ca - us ∧ ∀ x ∈ S.Lb, 0 ≤ x.toInt ∧ x.toInt < 256) ∧ (∀ v ∈ X, fm_in v)
  ∧ (su ≤ gi ∧ gi ≤ md ∧ md ≤ (st_Y S X).length ∧ gi - su ≤ S.rm ∧ (S.ps = 1 → md = (st_Y S X).length))
  ∧ (S.Lk = (st_Y S X).take su ∧ S.Lr = ((st_Y S X).take gi).drop su ∧ S.Lh = ((st_Y S X).take md).drop gi)
  ∧ (S.fl = false → pl_cn S.sts (st_P S) 0 X) ∧ (S.fl = true → S.Lb = [] ∧ S.cl = true) ∧ (S.ps = 0 → X = [] ∧ S.fl = false ∧ S.ca = 0 ∧ S.cl = false ∧ S.cs = 0)
theorem st_xl {S : fs_A} {us md gi su : Nat} {X : List Int} (h : st_I S us md gi su X) : X.length ≤ 120 := by
  obtain ⟨hn, -, -, hb, -⟩ := h
  have := hn.2.2.1
  omega
theorem st_yl {S : fs_A} {us md gi su : Nat} {X : List Int} (h : st_I S us md gi su X) : (st_Y S X).length ≤ 2286 := by
  have h1 := st_xl h
  have h2 := pl_Ol h.2.2.1.1 S.fl X
  unfold st_Y
  omega
theorem st_yi {S : fs_A} {us md gi su : Nat} {X : List Int} (h : st_I S us md gi su X) : ∀ v ∈ st_Y S X, fm_in v := pl_Oin S.fl h.2.2.1.1.1 h.2.2.2.2.1
theorem st_kl {S : fs_A} {us md gi su : Nat} {X : List Int} (h : st_I S us md gi su X) : S.Lk.length = su ∧ S.Lr.length = gi - su ∧ S.Lh.length = md - gi := by
  obtain ⟨-, -, -, -, -, hg, hl, -⟩ := h
  rw [hl.1, hl.2.1, hl.2.2, List.length_take, List.length_drop, List.length_take, List.length_drop, List.length_take]
  omega
theorem st_pre {S : fs_A} {us md gi su : Nat} {X : List Int} (h : st_I S us md gi su X) : fs_pre S := by
  have hX := st_xl h
  obtain ⟨hn, hrm, ⟨hok, hrs⟩, hb, hx, hg, hl, hc, hf, h0⟩ := h
  refine ⟨hb.2.2.2, fun h1 h2 h3 => ?_, fun h1 h2 h3 => ?_⟩
  · have hfl : S.fl = false := by
      cases e : S.fl with
      | false => rfl
      | true =>
        exfalso
        rw [(hf e).1] at h3
        have := hn.2.2.2.1.1
        exact h3 (by rw [List.length_nil]; omega)
    have hcn := hc hfl
    have hv : fm_in (ns_s S.iw (ns_v S.iw S.ih S.Lb S.iw)) := pl_ns hn.2.2.2.1 (ns_lt hn.2.2.2.1.2 (ns_bs hb.2.2.2 (by omega)) (Nat.le_refl _))
    have hv1 : ∀ v ∈ [ns_s S.iw (ns_v S.iw S.ih S.Lb S.iw)], fm_in v := fun v hv2 => by rw [List.mem_singleton.mp hv2]; exact hv
    have hfit : ch_fit S.sts 0 [ns_s S.iw (ns_v S.iw S.ih S.Lb S.iw)] := by
      refine pl_fit hok hcn hx hv1 (by show 1 ≤ 22; omega) (fun s hs => ?_)
      obtain ⟨j, hj, e⟩ := List.getElem_of_mem hs
      have := pl_xl (a := 0) hok hcn (Nat.zero_le j) (s := s) (by rw [List.getElem?_eq_getElem hj, e])
      omega
    exact ⟨pl_un hcn, hfit, (hfit S.sts.length (by omega)).1⟩
  · exact pl_ffit hok (hc (by cases e : S.fl with | false => rfl | true => exact absurd e h3)) hX hx

theorem ls_hd {Y : List Int} {g m : Nat} (h1 : g < m) (h2 : m ≤ Y.length) : ((Y.take m).drop g).headD 0 = Y.getD g 0 := by
  rw [List.headD_eq_head?_getD, List.head?_drop, List.getElem?_take_of_lt h1, List.getD_eq_getElem?_getD]
theorem ls_tk {Y : List Int} {g : Nat} (h : g < Y.length) : Y.take (g + 1) = Y.take g ++ [Y.getD g 0] := by
  rw [List.take_add_one, List.getD_eq_getElem?_getD, List.getElem?_eq_getElem h]; rfl
theorem ls_app {Y N : List Int} {gi su : Nat} (hg : gi = Y.length) (hs : su ≤ gi) : (Y ++ N).take su = Y.take su ∧ ((Y ++ N).take gi).drop su = (Y.take gi).drop su ∧ ((Y ++ N).take (Y ++ N).length).drop gi = N := by
  subst hg
  refine ⟨List.take_append_of_le_length hs, ?_, ?_⟩
  · rw [List.take_append_of_le_length (Nat.le_refl _)]
  · rw [List.take_length, List.drop_left]
theorem ls_hand {Y : List Int} {gi md su : Nat} (h1 : gi < md) (h2 : md ≤ Y.length) (h3 : su ≤ gi) : ((Y.take md).drop gi).tail = (Y.take md).drop (gi + 1) ∧ (Y.take gi).drop su ++ [((Y.take md).drop gi).headD 0] = (Y.take (gi + 1)).drop su := by
  refine ⟨List.tail_drop, ?_⟩
  rw [ls_hd h1 h2, ls_tk (by omega), List.drop_append_of_le_length (by rw [List.length_take]; omega)]
theorem ls_cons {Y : List Int} {gi su : Nat} (h1 : su < gi) (h2 : gi ≤ Y.length) : ((Y.take gi).drop su).tail = (Y.take gi).drop (su + 1) ∧ Y.take su ++ [((Y.take gi).drop su).headD 0] = Y.take (su + 1) := by
  refine ⟨List.tail_drop, ?_⟩
  rw [ls_hd h1 h2, ls_tk (by omega)]
theorem st_gm {S : fs_A} {us md gi su : Nat} {X : List Int} (h : st_I S us md gi su X) (hl : S.Lh = []) : gi = md := by
  have k := (st_kl h).2.2
  rw [hl, List.length_nil] at k
  have := h.2.2.2.2.2.1
  omega
theorem st_nf {S : fs_A} {us md gi su : Nat} {X : List Int} (h : st_I S us md gi su X) (h3 : ¬ S.Lb.length < S.iw) : S.fl = false := by
  cases e : S.fl with
  | false => rfl
  | true =>
    exfalso
    rw [(h.2.2.2.2.2.2.2.2.1 e).1] at h3
    have := h.1.2.2.2.1.1
    exact h3 (by rw [List.length_nil]; omega)
theorem st_take {S : fs_A} {us md gi su : Nat} {X : List Int} (h : st_I S us md gi su X) (h1 : S.ps = 1) (h2 : S.Lh = []) (h3 : ¬ S.Lb.length < S.iw) :
    st_I (((ch_it S.sts 0 [(ns_s S.iw (ns_v S.iw S.ih S.Lb S.iw))] S.sts.length).1, S.rs, S.fl, S.ps, S.cs, S.ca, S.cl, S.iw, S.ih, S.Lb.drop S.iw, (ch_it S.sts 0 [(ns_s S.iw (ns_v S.iw S.ih S.Lb S.iw))] S.sts.length).2, S.Lr, S.rm, S.ow, S.oh, S.Lk) : fs_A) (us + S.iw) (fm_O (st_P S) false (X ++ [(ns_s S.iw (ns_v S.iw S.ih S.Lb S.iw))])).length gi su (X ++ [(ns_s S.iw (ns_v S.iw S.ih S.Lb S.iw))]) := by
  have hgm := st_gm h h2
  have hfl := st_nf h h3
  obtain ⟨hn, hrm, ⟨hok, hrs⟩, hb, hx, hg, hl, hc, hf, h0⟩ := h
  have hcn := hc hfl
  have hv : fm_in (ns_s S.iw (ns_v S.iw S.ih S.Lb S.iw)) := pl_ns hn.2.2.2.1 (ns_lt hn.2.2.2.1.2 (ns_bs hb.2.2.2 (by omega)) (Nat.le_refl _))
  have hmd := hg.2.2.2.2 h1
  have hi := pl_it (q := [(ns_s S.iw (ns_v S.iw S.ih S.Lb S.iw))]) hok.1 hcn S.sts.length (by omega)
  have hw := pl_cnw (q := [(ns_s S.iw (ns_v S.iw S.ih S.Lb S.iw))]) hok.1 hcn
  have hN : (ch_it S.sts 0 [(ns_s S.iw (ns_v S.iw S.ih S.Lb S.iw))] S.sts.length).2 = fm_N (st_P S) false X [(ns_s S.iw (ns_v S.iw S.ih S.Lb S.iw))] := by
    rw [hi.1, List.take_of_length_le (by rw [List.length_drop, List.length_map]; omega)]; rfl
  have hlen : (ch_it S.sts 0 [(ns_s S.iw (ns_v S.iw S.ih S.Lb S.iw))] S.sts.length).1.length = S.sts.length := ch_it_len
  generalize (ns_s S.iw (ns_v S.iw S.ih S.Lb S.iw)) = v at hv hi hw hN hlen ⊢
  generalize ch_it S.sts 0 [v] S.sts.length = C at hi hw hN hlen ⊢
  have hY : st_Y S X = fm_O (st_P S) false X := by unfold st_Y; rw [hfl]
  have hYa : fm_O (st_P S) false (X ++ [v]) = st_Y S X ++ fm_N (st_P S) false X [v] := by rw [hY]; exact fm_O_app false _ hok.1 X [v]
  have hYT : ∀ (T : fs_A), st_P T = st_P S → T.fl = S.fl → st_Y T (X ++ [v]) = st_Y S X ++ fm_N (st_P S) false X [v] := fun T e1 e2 => by
    unfold st_Y; rw [e1, e2, hfl]; rw [hYa, hY]
  have hYT := hYT ((C.1, S.rs, S.fl, S.ps, S.cs, S.ca, S.cl, S.iw, S.ih, S.Lb.drop S.iw, C.2, S.Lr, S.rm, S.ow, S.oh, S.Lk) : fs_A) hi.2.1 rfl
  have hq := ls_app (Y := st_Y S X) (N := fm_N (st_P S) false X [v]) (gi := gi) (su := su) (by omega) hg.1
  have hll : (st_Y S X ++ fm_N (st_P S) false X [v]).length = (st_Y S X).length + (fm_N (st_P S) false X [v]).length := List.length_append
  unfold st_I
  rw [hYT, hYa]
  refine ⟨⟨hn.1, hn.2.1, hn.2.2.1, hn.2.2.2.1, hn.2.2.2.2.1, ?_⟩, hrm, ⟨?_, ?_⟩, ⟨?_, ?_, ?_, ?_⟩, fm_in_app hx hv, ⟨hg.1, ?_, Nat.le_refl _, hg.2.2.2.1, fun _ => rfl⟩, ⟨?_, ?_, ?_⟩, fun _ => ?_, fun z => ?_, fun z => ?_⟩
  · show C.1.length ≤ 5; rw [hlen]; exact hn.2.2.2.2.2
  · show pl_ok (C.1.map (fun s => s.2.1)); rw [hi.2.1]; exact hok
  · show S.rs = pl_s (C.1.map (fun s => s.2.1)); rw [hi.2.1]; exact hrs
  · show us + S.iw ≤ S.ca; omega
  · rw [List.length_append]; have := hn.2.2.2.1.1; show X.length + 1 ≤ _; omega
  · show (S.Lb.drop S.iw).length = _; rw [List.length_drop]; show _ = S.ca - (us + S.iw); omega
  · exact fun x hx => hb.2.2.2 x (List.mem_of_mem_drop hx)
  · omega
  · rw [hq.1]; exact hl.1
  · rw [hq.2.1]; exact hl.2.1
  · rw [hq.2.2]; exact hN
  · show pl_cn C.1 (C.1.map (fun s => s.2.1)) 0 (X ++ [v]); rw [hi.2.1]; exact hw
  · exact absurd (hfl.symm.trans z) (by decide)
  · exact absurd (h1.symm.trans z) (by decide)
theorem st_flush {S : fs_A} {us md gi su : Nat} {X : List Int} (h : st_I S us md gi su X) (h1 : S.ps = 1) (h2 : S.Lh = []) (h4 : S.cl = true) (h5 : ¬ S.fl = true) :
    st_I (((fl_it S.sts S.sts.length).1, S.rs, true, S.ps, S.cs, S.ca, S.cl, S.iw, S.ih, [], (fl_it S.sts S.sts.length).2, S.Lr, S.rm, S.ow, S.oh, S.Lk) : fs_A) S.ca (fm_O (st_P S) true X).length gi su X := by
  have hgm := st_gm h h2
  obtain ⟨hn, hrm, ⟨hok, hrs⟩, hb, hx, hg, hl, hc, hf, h0⟩ := h
  have hfl : S.fl = false := by cases e : S.fl with
    | false => rfl
    | true => exact absurd e h5
  have hcn := hc hfl
  have hmd := hg.2.2.2.2 h1
  obtain ⟨hi1, hi2⟩ := pl_fl hok.1 hcn S.sts.length (Nat.le_refl _)
  have hd : (st_P S).drop S.sts.length = [] := List.drop_eq_nil_of_le (by rw [List.length_map]; exact Nat.le_refl _)
  rw [hd] at hi2
  have hi2 : (fl_it S.sts S.sts.length).2 ++ [] = fm_G (st_P S) X := hi2
  rw [List.append_nil] at hi2
  have hlen : (fl_it S.sts S.sts.length).1.length = S.sts.length := fl_len
  have hi1 := hi1.1
  generalize fl_it S.sts S.sts.length = C at hi1 hi2 hlen ⊢
  have hY : st_Y S X = fm_O (st_P S) false X := by unfold st_Y; rw [hfl]
  have hYa : fm_O (st_P S) true X = st_Y S X ++ fm_G (st_P S) X := by rw [hY]; exact fm_O_flush _ hok.1 X
  have hYT : ∀ (T : fs_A), st_P T = st_P S → T.fl = true → st_Y T X = st_Y S X ++ fm_G (st_P S) X := fun T e1 e2 => by
    unfold st_Y; rw [e1, e2, hYa]; rfl
  have hYT := hYT ((C.1, S.rs, true, S.ps, S.cs, S.ca, S.cl, S.iw, S.ih, [], C.2, S.Lr, S.rm, S.ow, S.oh, S.Lk) : fs_A) hi1 rfl
  have hq := ls_app (Y := st_Y S X) (N := fm_G (st_P S) X) (gi := gi) (su := su) (by omega) hg.1
  have hll : (st_Y S X ++ fm_G (st_P S) X).length = (st_Y S X).length + (fm_G (st_P S) X).length := List.length_append
  unfold st_I
  rw [hYT, hYa]
  refine ⟨⟨hn.1, hn.2.1, hn.2.2.1, hn.2.2.2.1, hn.2.2.2.2.1, ?_⟩, hrm, ⟨?_, ?_⟩, ⟨Nat.le_refl _, by omega, ?_, fun x hx => absurd hx List.not_mem_nil⟩, hx, ⟨hg.1, ?_, Nat.le_refl _, hg.2.2.2.1, fun _ => rfl⟩, ⟨?_, ?_, ?_⟩, fun z => ?_, fun _ => ⟨rfl, h4⟩, fun z => ?_⟩
  · show C.1.length ≤ 5; rw [hlen]; exact hn.2.2.2.2.2
  · show pl_ok (C.1.map (fun s => s.2.1)); rw [hi1]; exact hok
  · show S.rs = pl_s (C.1.map (fun s => s.2.1)); rw [hi1]; exact hrs
  · show 0 = S.ca - S.ca; omega
  · omega
  · rw [hq.1]; exact hl.1
  · rw [hq.2.1]; exact hl.2.1
  · rw [hq.2.2]; exact hi2
  · exact absurd z (show ¬ true = false by decide)
  · exact absurd (h1.symm.trans z) (by decide)
theorem st_end {S : fs_A} {us md gi su : Nat} {X : List Int} (h : st_I S us md gi su X) : st_I ((S.sts, S.rs, S.fl, 2, S.cs, S.ca, S.cl, S.iw, S.ih, S.Lb, S.Lh, S.Lr, S.rm, S.ow, S.oh, S.Lk) : fs_A) us md gi su X := by
  obtain ⟨hn, hrm, hok, hb, hx, hg, hl, hc, hf, h0⟩ := h
  exact ⟨⟨by show 2 ≤ 3; decide, hn.2⟩, hrm, hok, hb, hx, ⟨hg.1, hg.2.1, hg.2.2.1, hg.2.2.2.1, fun z => absurd z (show ¬ 2 = 1 by decide)⟩, hl, hc, hf, fun z => absurd z (show ¬ 2 = 0 by decide)⟩
theorem st_drop {S : fs_A} {us md gi su : Nat} {X : List Int} (h : st_I S us md gi su X) : st_I ((S.sts, S.rs, S.fl, 2, S.cs, S.ca, S.cl, S.iw, S.ih, S.Lb, [], S.Lr, S.rm, S.ow, S.oh, S.Lk) : fs_A) us gi gi su X := by
  obtain ⟨hn, hrm, hok, hb, hx, hg, hl, hc, hf, h0⟩ := h
  refine ⟨⟨by show 2 ≤ 3; decide, hn.2⟩, hrm, hok, hb, hx, ⟨hg.1, Nat.le_refl _, Nat.le_trans hg.2.1 hg.2.2.1, hg.2.2.2.1, fun z => absurd z (show ¬ 2 = 1 by decide)⟩, ⟨hl.1, hl.2.1, ?_⟩, hc, hf, fun z => absurd z (show ¬ 2 = 0 by decide)⟩
  exact (List.drop_eq_nil_of_le (by rw [List.length_take]; omega)).symm
theorem st_hand {S : fs_A} {us md gi su : Nat} {X : List Int} (h : st_I S us md gi su X) (h2 : ¬ S.Lh = []) (h3 : S.Lr.length < S.rm) : st_I ((S.sts, S.rs, S.fl, S.ps, S.cs, S.ca, S.cl, S.iw, S.ih, S.Lb, S.Lh.tail, S.Lr ++ [S.Lh.headD 0], S.rm, S.ow, S.oh, S.Lk) : fs_A) us md (gi + 1) su X := by
  have hk := st_kl h
  obtain ⟨hn, hrm, hok, hb, hx, hg, hl, hc, hf, h0⟩ := h
  have hlt : gi < md := by
    have : ¬ S.Lh.length = 0 := fun z => h2 (List.eq_nil_of_length_eq_zero z)
    omega
  have hq := ls_hand hlt hg.2.2.1 hg.1
  refine ⟨hn, hrm, hok, hb, hx, ⟨by omega, hlt, hg.2.2.1, ?_, hg.2.2.2.2⟩, ⟨hl.1, ?_, ?_⟩, hc, hf, h0⟩
  · show gi + 1 - su ≤ S.rm; omega
  · show S.Lr ++ [S.Lh.headD 0] = _; rw [hl.2.1, hl.2.2]; exact hq.2
  · show S.Lh.tail = _; rw [hl.2.2]; exact hq.1
theorem st_ced {S : fs_A} {us md gi su : Nat} {X : List Int} (h : st_I S us md gi su X) (h1 : S.cs = 1) : st_I ((S.sts, S.rs, S.fl, S.ps, 2, S.ca, S.cl, S.iw, S.ih, S.Lb, S.Lh, S.Lr, S.rm, S.ow, S.oh, S.Lk) : fs_A) us md gi su X := by
  obtain ⟨hn, hrm, hok, hb, hx, hg, hl, hc, hf, h0⟩ := h
  exact ⟨⟨hn.1, by show 2 ≤ 3; decide, hn.2.2⟩, hrm, hok, hb, hx, hg, hl, hc, hf, fun z => absurd (h1.symm.trans (h0 z).2.2.2.2) (by decide)⟩
theorem st_csm {S : fs_A} {us md gi su : Nat} {X : List Int} (h : st_I S us md gi su X) (h2 : ¬ S.Lr = []) : st_I ((S.sts, S.rs, S.fl, S.ps, S.cs, S.ca, S.cl, S.iw, S.ih, S.Lb, S.Lh, S.Lr.tail, S.rm, S.ow, S.oh, fs_put 2286 S.Lk (S.Lr.headD 0)) : fs_A) us md gi (su + 1) X := by
  have hk := st_kl h
  have hy := st_yl h
  obtain ⟨hn, hrm, hok, hb, hx, hg, hl, hc, hf, h0⟩ := h
  have hlt : su < gi := by
    have : ¬ S.Lr.length = 0 := fun z => h2 (List.eq_nil_of_length_eq_zero z)
    omega
  have hq := ls_cons hlt (Nat.le_trans hg.2.1 hg.2.2.1)
  refine ⟨hn, hrm, hok, hb, hx, ⟨hlt, hg.2.1, hg.2.2.1, by show gi - (su + 1) ≤ S.rm; omega, hg.2.2.2.2⟩, ⟨?_, ?_, hl.2.2⟩, hc, hf, h0⟩
  · show fs_put 2286 S.Lk (S.Lr.headD 0) = _
    unfold fs_put
    rw [if_pos (by omega), hl.1, hl.2.1]; exact hq.2
  · show S.Lr.tail = _; rw [hl.2.1]; exact hq.1
def st_J (S : fs_A) : Prop := ∃ (us md gi su : Nat) (X : List Int), st_I S us md gi su X
def st_m (S : fs_A) : Nat := S.Lb.length + (S.rm - S.Lr.length) + (if S.fl = true then 0 else 1) + (if S.ps = 1 then 1 else 0)
theorem st_Ps {S T : fs_A} (h : st_J S) (hT : fs_P S = some T) : st_J T ∧ st_m T < st_m S := by
  obtain ⟨us, md, gi, su, X, h⟩ := h
  unfold fs_P at hT
  by_cases c1 : S.ps = 1
  · rw [if_pos c1] at hT
    by_cases c2 : S.Lh = []
    · rw [if_pos c2] at hT
      by_cases c3 : S.Lb.length < S.iw
      · rw [if_pos c3] at hT
        by_cases c4 : S.cl = true
        · rw [if_pos c4] at hT
          by_cases c5 : S.fl = true
          · rw [if_pos c5] at hT
            cases hT
            refine ⟨⟨_, _, _, _, _, st_end h⟩, ?_⟩
            show (S.Lb).length + (S.rm - (S.Lr).length) + (if S.fl = true then 0 else 1) + (if 2 = 1 then 1 else 0) < (S.Lb).length + (S.rm - (S.Lr).length) + (if S.fl = true then 0 else 1) + (if S.ps = 1 then 1 else 0)
            rw [if_pos c1, if_neg (show ¬ 2 = 1 by decide)]
            omega
          · rw [if_neg c5] at hT
            cases hT
            refine ⟨⟨_, _, _, _, _, st_flush h c1 c2 c4 c5⟩, ?_⟩
            show ([] : List Int32).length + (S.rm - (S.Lr).length) + (if true = true then 0 else 1) + (if S.ps = 1 then 1 else 0) < (S.Lb).length + (S.rm - (S.Lr).length) + (if S.fl = true then 0 else 1) + (if S.ps = 1 then 1 else 0)
            rw [if_neg c5, if_pos (show true = true from rfl), show ([] : List Int32).length = 0 from rfl]
            omega
        · rw [if_neg c4] at hT; exact absurd hT (by simp)
      · rw [if_neg c3] at hT
        cases hT
        refine ⟨⟨_, _, _, _, _, st_take h c1 c2 c3⟩, ?_⟩
        show (S.Lb.drop S.iw).length + (S.rm - (S.Lr).length) + (if S.fl = true then 0 else 1) + (if S.ps = 1 then 1 else 0) < (S.Lb).length + (S.rm - (S.Lr).length) + (if S.fl = true then 0 else 1) + (if S.ps = 1 then 1 else 0)
        rw [List.length_drop]
        have := h.1.2.2.2.1.1
        omega
    · rw [if_neg c2] at hT
      by_cases c3 : S.cs = 3
      · rw [if_pos c3] at hT
        cases hT
        refine ⟨⟨_, _, _, _, _, st_drop h⟩, ?_⟩
        show (S.Lb).length + (S.rm - (S.Lr).length) + (if S.fl = true then 0 else 1) + (if 2 = 1 then 1 else 0) < (S.Lb).length + (S.rm - (S.Lr).length) + (if S.fl = true then 0 else 1) + (if S.ps = 1 then 1 else 0)
        rw [if_pos c1, if_neg (show ¬ 2 = 1 by decide)]
        omega
      · rw [if_neg c3] at hT
        by_cases c4 : S.Lr.length < S.rm
        · rw [if_pos c4] at hT
          cases hT
          refine ⟨⟨_, _, _, _, _, st_hand h c2 c4⟩, ?_⟩
          show (S.Lb).length + (S.rm - (S.Lr ++ [S.Lh.headD 0]).length) + (if S.fl = true then 0 else 1) + (if S.ps = 1 then 1 else 0) < (S.Lb).length + (S.rm - (S.Lr).length) + (if S.fl = true then 0 else 1) + (if S.ps = 1 then 1 else 0)
          rw [List.length_append, List.length_singleton]
          omega
        · rw [if_neg c4] at hT; exact absurd hT (by simp)
  · rw [if_neg c1] at hT; exact absurd hT (by simp)
def st_n (S : fs_A) : Nat := S.Lr.length + (if S.cs = 1 then 1 else 0)
theorem st_Cs {S T : fs_A} (h : st_J S) (hT : fs_C S = some T) : st_J T ∧ st_n T < st_n S := by
  obtain ⟨us, md, gi, su, X, h⟩ := h
  unfold fs_C at hT
  by_cases c1 : S.cs = 1
  · rw [if_pos c1] at hT
    by_cases c2 : S.Lr = []
    · rw [if_pos c2] at hT
      by_cases c3 : S.ps = 1
      · rw [if_pos c3] at hT; exact absurd hT (by simp)
      · rw [if_neg c3] at hT
        cases hT
        refine ⟨⟨_, _, _, _, _, st_ced h c1⟩, ?_⟩
        show (S.Lr).length + (if 2 = 1 then 1 else 0) < (S.Lr).length + (if S.cs = 1 then 1 else 0)
        rw [if_pos c1, if_neg (show ¬ 2 = 1 by decide)]
        omega
    · rw [if_neg c2] at hT
      cases hT
      refine ⟨⟨_, _, _, _, _, st_csm h c2⟩, ?_⟩
      show (S.Lr.tail).length + (if S.cs = 1 then 1 else 0) < (S.Lr).length + (if S.cs = 1 then 1 else 0)
      rw [List.length_tail]
      have : ¬ S.Lr.length = 0 := fun z => c2 (List.eq_nil_of_length_eq_zero z)
      omega
  · rw [if_neg c1] at hT; exact absurd hT (by simp)
theorem st_go {f : fs_A → Option fs_A} {m : fs_A → Nat} (hf : ∀ S T, st_J S → f S = some T → st_J T ∧ m T < m S) {S : fs_A} (h : st_J S) : ∀ {k : Nat} {T : fs_A}, fs_go f k S = some T → st_J T ∧ k + m T ≤ m S
  | 0, T, hT => by cases hT; exact ⟨h, by omega⟩
  | k + 1, T, hT => by
    have hT : (fs_go f k S).bind f = some T := hT
    cases e : fs_go f k S with
    | none => rw [e] at hT; exact absurd hT (by simp)
    | some U =>
      rw [e] at hT
      have hT : f U = some T := hT
      obtain ⟨i1, i2⟩ := st_go hf h e
      obtain ⟨j1, j2⟩ := hf U T i1 hT
      exact ⟨j1, by omega⟩
theorem st_gol {f : fs_A → Option fs_A} {S : fs_A} {k : Nat} : ∀ {j : Nat} {T : fs_A}, fs_go f (k + j) S = some T → ∃ U, fs_go f k S = some U ∧ (0 < j → f U ≠ none)
  | 0, T, h => ⟨T, h, fun z => absurd z (by decide)⟩
  | j + 1, T, h => by
    have h : (fs_go f (k + j) S).bind f = some T := h
    cases e : fs_go f (k + j) S with
    | none => rw [e] at h; exact absurd h (by simp)
    | some V =>
      obtain ⟨U, u1, u2⟩ := st_gol (j := j) e
      refine ⟨U, u1, fun _ => ?_⟩
      cases j with
      | zero =>
        have eU : U = V := by
          have e : fs_go f k S = some V := e
          rw [e] at u1; cases u1; rfl
        rw [e, ← eU] at h
        intro z
        have h : f U = some T := h
        rw [z] at h; exact absurd h (by simp)
      | succ j => exact u2 (by omega)
theorem st_same {f : fs_A → Option fs_A} {S T1 T2 : fs_A} {k1 k2 n : Nat} (h1 : fs_go f k1 S = some T1) (h2 : fs_go f k2 S = some T2) (a1 : k1 ≤ n) (a2 : k2 ≤ min n 5000) (b1 : k1 = n ∨ f T1 = none) (b2 : k2 = min n 5000 ∨ f T2 = none) (hk : k1 ≤ 200) : k1 = k2 ∧ T1 = T2 := by
  have e : k1 = k2 := by
    rcases Nat.lt_trichotomy k1 k2 with c | c | c
    · exfalso
      obtain ⟨U, u1, u2⟩ := st_gol (k := k1) (j := k2 - k1) (T := T2) (by rw [show k1 + (k2 - k1) = k2 by omega]; exact h2)
      rw [h1] at u1
      cases u1
      rcases b1 with b | b
      · omega
      · exact u2 (by omega) b
    · exact c
    · exfalso
      obtain ⟨U, u1, u2⟩ := st_gol (k := k2) (j := k1 - k2) (T := T1) (by rw [show k2 + (k1 - k2) = k1 by omega]; exact h1)
      rw [h2] at u1
      cases u1
      rcases b2 with b | b
      · omega
      · exact u2 (by omega) b
  subst e
  rw [h1] at h2
  cases h2
  exact ⟨rfl, rfl⟩
theorem st_mb {S : fs_A} (h : st_J S) : st_m S ≤ 200 ∧ st_n S ≤ 200 := by
  obtain ⟨us, md, gi, su, X, h⟩ := h
  have hk := st_kl h
  obtain ⟨hn, hrm, hok, hb, hx, hg, hl, hc, hf, h0⟩ := h
  have := hn.2.2.1
  unfold st_m st_n
  refine ⟨?_, ?_⟩
  · have h1 : (if S.fl = true then 0 else 1) ≤ 1 := by split <;> omega
    have h2 : (if S.ps = 1 then 1 else 0) ≤ 1 := by split <;> omega
    omega
  · have h2 : (if S.cs = 1 then 1 else 0) ≤ 1 := by split <;> omega
    omega



