theorem wd_8 : Cond.selects cn_Chain my_Chain_passThrough my_Chain_passThrough ∈ fq_TB := fq_in 8 (by decide +kernel) rfl
theorem wd_105 : Cond.fieldLink cn_Chain 12 cn_Chain "stages" "Ljava/util/ArrayList;" ∈ fq_TB := fq_in 105 (by decide +kernel) rfl
theorem wd_228 : Cond.methodLink cn_Chain 27 my_AL_size ∈ fq_TB := fq_in 228 (by decide +kernel) rfl
theorem wd_466 : Cond.methodLink cn_Chain 31 my_AL_get ∈ fq_TB := fq_in 466 (by decide +kernel) rfl
theorem wd_480 : Cond.classLink cn_Chain 35 cn_Stage ∈ fq_TB := fq_in 480 (by decide +kernel) rfl
theorem wd_609 : Cond.instanceMethod my_Chain_passThrough ∈ fq_TB := fq_in 609 (by decide +kernel) rfl
theorem wd_610 : Cond.code my_Chain_passThrough cb_Chain_passThrough 7 none ∈ fq_TB := fq_in 610 (by decide +kernel) rfl
theorem wd_611 : Cond.methodLink cn_Chain 61 my_Row_size ∈ fq_TB := fq_in 611 (by decide +kernel) rfl
theorem wd_612 : Cond.methodLink cn_Chain 62 my_Row_takeOldest ∈ fq_TB := fq_in 612 (by decide +kernel) rfl
theorem wd_641 : Cond.methodLink cn_Chain 57 my_Chain_makeSamples ∈ fq_TB := fq_in 641 (by decide +kernel) rfl
theorem wn_1001 : Cond.castable cn_Gain cn_Stage ∈ lw_tbl := List.mem_of_getElem? (i := 1001) (by decide +kernel)
theorem wn_1002 : Cond.castable cn_Resampler cn_Stage ∈ lw_tbl := List.mem_of_getElem? (i := 1002) (by decide +kernel)
theorem wn_1003 : Cond.castable cn_Section cn_Stage ∈ lw_tbl := List.mem_of_getElem? (i := 1003) (by decide +kernel)
theorem wn_1004 : Cond.castable cn_Window cn_Stage ∈ lw_tbl := List.mem_of_getElem? (i := 1004) (by decide +kernel)

section FQT
variable {p : Program} {l : Launch} {e : Env} {R : Room} {s : State} {m : MethodId} {args : Array Value} {below : List Frame} {meth : Method} {c : Code} {H : Heap} {locs : List Loc} {cells slots : Nat} {Q : State → Prop}
variable {cc : ByteArray} {nL pc : Nat} {ls : Array Slot} {rest st0 : List Value} {D : va_G} {A : Nat → Prop} {wr X cx T : va_W} {mc ms : Nat}
theorem fq_cqT {post : Option Nat → va_W → Prop} {a : Array Value} (hr : va_Run p l e R s m args below meth c H locs cells slots mc ms (F0 m pc ls st0) rest (va_Qq (S := va_W) post (fq_Bw D (va_A cx H.size)) (va_A cx H.size) a) (va_A cx H.size))
    (hP : va_P D fq_cl (X ++ T) H) (hD : va_D A (X ++ T)) (hS : va_S A s.heap H locs) (hc : fq_cut D A H cx) (isC isR : List Nat) (hC : isC.map (fun i => X[i]?) = cx.map some) (hR : isR.map (fun i => X[i]?) = wr.map some) (hn : va_nd isR = true) (hdis : ∀ i ∈ isR, i ∉ isC)
    (kk : ∀ (r : Option Nat) (w : va_W) (H1 : Heap) (locs1 : List Loc), post r w → va_P D fq_cl ((wr ++ w) ++ T) H1 → va_D A ((wr ++ w) ++ T) → va_S A s.heap H1 locs1 → W p l e R s m args below meth c H1 locs1 (cells + mc) (slots + ms) Q (F0 m (pc + 3) ls (va_rf r :: rest))) : W p l e R s m args below meth c H locs cells slots Q (F0 m pc ls st0) := by
  refine va_callq hr hS (fun q _ h => hc.2.2 q h) hc.2.2 (fun r u t H1 locs1 ht hvm hp hB hz hk hS1 => ?_)
  obtain ⟨hP1, hD1⟩ := hB
  rw [ht] at hP1
  obtain ⟨hP2, hD2⟩ := va_joinQ hP hD isC isR hC hR hn hdis hk hc.2.2 hP1 hD1
  exact kk r u H1 locs1 hp hP2 hD2 hS1
theorem fq_cl_T {post : Int64 → va_W → Prop} {a : Array Value} (hr : va_Run p l e R s m args below meth c H locs cells slots mc ms (F0 m pc ls st0) rest (va_Ql (S := va_W) post (fq_Bw D (va_A cx H.size)) (va_A cx H.size) a) (va_A cx H.size))
    (hP : va_P D fq_cl (X ++ T) H) (hD : va_D A (X ++ T)) (hS : va_S A s.heap H locs) (hc : fq_cut D A H cx) (isC isR : List Nat) (hC : isC.map (fun i => X[i]?) = cx.map some) (hR : isR.map (fun i => X[i]?) = wr.map some) (hn : va_nd isR = true) (hdis : ∀ i ∈ isR, i ∉ isC)
    (kk : ∀ (r : Int64) (w : va_W) (H1 : Heap) (locs1 : List Loc), post r w → va_P D fq_cl ((wr ++ w) ++ T) H1 → va_D A ((wr ++ w) ++ T) → va_S A s.heap H1 locs1 → W p l e R s m args below meth c H1 locs1 (cells + mc) (slots + ms) Q (F0 m (pc + 3) ls (.long r :: rest))) : W p l e R s m args below meth c H locs cells slots Q (F0 m pc ls st0) := by
  refine va_calll hr hS (fun q _ h => hc.2.2 q h) hc.2.2 (fun r u t H1 locs1 ht hvm hp hB hz hk hS1 => ?_)
  obtain ⟨hP1, hD1⟩ := hB
  rw [ht] at hP1
  obtain ⟨hP2, hD2⟩ := va_joinQ hP hD isC isR hC hR hn hdis hk hc.2.2 hP1 hD1
  exact kk r u H1 locs1 hp hP2 hD2 hS1
end FQT
/-- a stage of the chain: its address, what it is, what came to it, how many it has made -/
abbrev ch_T : Type := Nat × fm_S × List Int × Nat
def ch_ok (cI : ClassId) (Ls : List va_W) (sts : List ch_T) : Prop := Ls.length = sts.length ∧ ∀ (k : Nat) (s : ch_T) (g : va_W), sts[k]? = some s → Ls[k]? = some g → sg_ok cI s.1 s.2.1 s.2.2.1 s.2.2.2 g
def al_W (tE : Nat) (cO : ClassId) (hL : Nat) (sts : List ch_T) (wl : va_W) : Prop :=
  (sts = [] ∧ ∃ mo : Int32, wl = [(hL, .inr (11, [.ref tE, .int (nI 0), .int mo]))])
  ∨ ∃ (e : Nat) (mo : Int32) (f : Nat → Option Nat), wl = [(hL, .inr (11, [.ref e, .int (nI sts.length), .int mo])), (e, .inl (cO, 10, .inr (.inr (.inr (.inr f)))))] ∧ sts.length ≤ 5 ∧ ∀ (k : Nat) (s : ch_T), sts[k]? = some s → f k = some s.1
def ch_one (sts : List ch_T) (k : Nat) (q : List Int) : List ch_T × List Int := match sts[k]? with
  | some s => (sts.set k (s.1, s.2.1, s.2.2.1 ++ q, fm_m s.2.1 false (s.2.2.1.length + q.length)), fm_d s.2.1 false s.2.2.1 q)
  | none => (sts, q)
def ch_it (sts : List ch_T) (k : Nat) (q : List Int) : Nat → List ch_T × List Int
  | 0 => (sts, q)
  | n + 1 => ch_one (ch_it sts k q n).1 (k + n) (ch_it sts k q n).2
def ch_un (sts : List ch_T) (fr : Nat) : Prop := ∀ (k : Nat) (s : ch_T), fr ≤ k → sts[k]? = some s → s.2.2.2 = fm_m s.2.1 false s.2.2.1.length
def ch_fit (sts : List ch_T) (fr : Nat) (q : List Int) : Prop := ∀ n, n ≤ sts.length - fr → (ch_it sts fr q n).2.length ≤ 366 ∧ (∀ v ∈ (ch_it sts fr q n).2, fm_in v) ∧ ∀ s ∈ (ch_it sts fr q n).1, s.2.2.1.length < 50000
theorem ch_get {cI : ClassId} {Ls : List va_W} {sts : List ch_T} {k : Nat} {s : ch_T} (h : ch_ok cI Ls sts) (hk : sts[k]? = some s) : ∃ g, Ls[k]? = some g ∧ sg_ok cI s.1 s.2.1 s.2.2.1 s.2.2.2 g := by
  have hl : k < Ls.length := by rw [h.1]; exact (List.getElem?_eq_some_iff.mp hk).1
  exact ⟨Ls[k], List.getElem?_eq_getElem hl, h.2 k s _ hk (List.getElem?_eq_getElem hl)⟩
theorem ch_set {Lg : List va_W} {a : Nat} {g g2 : va_W} (h : Lg[a]? = some g) : (Lg.set a g2)[a]? = some g2 := List.getElem?_set_self (List.getElem?_eq_some_iff.mp h).1
theorem ch_upd {cI : ClassId} {Ls : List va_W} {sts : List ch_T} {k : Nat} {s : ch_T} {g : va_W} (h : ch_ok cI Ls sts) (hs : sg_ok cI s.1 s.2.1 s.2.2.1 s.2.2.2 g) : ch_ok cI (Ls.set k g) (sts.set k s) := by
  refine ⟨by simp [h.1], fun j t u h1 h2 => ?_⟩
  by_cases e : j = k
  · subst e
    have l1 : j < sts.length := by have := (List.getElem?_eq_some_iff.mp h1).1; simpa using this
    rw [List.getElem?_set_self l1] at h1
    rw [List.getElem?_set_self (by rw [h.1]; exact l1)] at h2
    cases h1; cases h2
    exact hs
  · rw [List.getElem?_set_ne (Ne.symm e)] at h1 h2
    exact h.2 j t u h1 h2
theorem fq_gx {X Y : va_W} {L : List va_W} {i : Nat} {g : va_W} (h : L[i]? = some g) : ((X ++ Y) ++ L.flatten).Perm ((X ++ g) ++ (Y ++ (L.eraseIdx i).flatten)) := by
  rw [List.append_assoc, List.append_assoc]
  exact (((fq_fl h).append_left Y).trans (List.perm_append_comm_assoc Y g _)).append_left X
theorem fq_gy {X Y : va_W} {L : List va_W} {i : Nat} {g g' : va_W} (h : L[i]? = some g) : ((X ++ g') ++ (Y ++ (L.eraseIdx i).flatten)).Perm ((X ++ Y) ++ (L.set i g').flatten) := by
  rw [List.append_assoc, List.append_assoc]
  exact ((((fq_fs h).append_left Y).trans (List.perm_append_comm_assoc Y g' _)).append_left X).symm
theorem ch_it_ge {sts : List ch_T} {k : Nat} {q : List Int} : ∀ {n j : Nat}, k + n ≤ j → (ch_it sts k q n).1[j]? = sts[j]?
  | 0, j, _ => rfl
  | n + 1, j, h => by
    have ih := ch_it_ge (sts := sts) (k := k) (q := q) (n := n) (j := j) (by omega)
    show (ch_one (ch_it sts k q n).1 (k + n) (ch_it sts k q n).2).1[j]? = sts[j]?
    unfold ch_one
    split
    · rw [List.getElem?_set_ne (by omega)]; exact ih
    · exact ih
theorem ch_it_len {sts : List ch_T} {k : Nat} {q : List Int} : ∀ {n : Nat}, (ch_it sts k q n).1.length = sts.length
  | 0 => rfl
  | n + 1 => by
    have ih := ch_it_len (sts := sts) (k := k) (q := q) (n := n)
    show (ch_one (ch_it sts k q n).1 (k + n) (ch_it sts k q n).2).1.length = sts.length
    unfold ch_one
    split
    · rw [List.length_set]; exact ih
    · exact ih
theorem fm_d_length {sp : fm_S} {fl : Bool} {xs zs : List Int} : (fm_d sp fl xs zs).length = fm_m sp fl (xs.length + zs.length) - fm_m sp false xs.length := by
  unfold fm_d; rw [List.length_drop, fm_o_length, List.length_append]
theorem fm_d_nil {sp : fm_S} {xs : List Int} : fm_d sp false xs [] = [] := by
  apply List.eq_nil_of_length_eq_zero
  rw [fm_d_length, List.length_nil, Nat.add_zero, Nat.sub_self]
/-- one more came: what is made then stands behind what was made -/
theorem fm_d_snoc {sp : fm_S} (hok : fm_ok sp) {xs ys : List Int} {x : Int} : fm_d sp false xs (ys ++ [x]) = fm_d sp false xs ys ++ (List.range (fm_m sp false (xs.length + ys.length + 1) - fm_m sp false (xs.length + ys.length))).map (fun z => fm_y sp (xs ++ ys ++ [x]) (fm_m sp false (xs.length + ys.length) + z)) := by
  have h1 := fm_o_app hok false (xs ++ ys) [x]
  have hle : fm_m sp false xs.length ≤ fm_m sp false (xs.length + ys.length) := fm_m_le hok false (by omega)
  unfold fm_d
  rw [← List.append_assoc, h1, List.drop_append_of_le_length (by rw [fm_o_length, List.length_append]; exact hle)]
  congr 1
  apply List.ext_getElem
  · rw [List.length_drop, fm_o_length, List.length_map, List.length_range]
    simp [Nat.add_assoc]
  · intro k k1 k2
    rw [List.getElem_drop]
    simp only [fm_o, List.getElem_map, List.getElem_range, List.length_append]
theorem fm_m_bd {sp : fm_S} (hok : fm_ok sp) {fl : Bool} {n : Nat} : fm_m sp fl n ≤ 4 * n + 10 := by
  obtain ⟨h3, -, -, hw, hr⟩ := hok
  unfold fm_m
  by_cases h0 : n = 0 ∨ sp.1 < 2
  · rw [if_pos h0]; omega
  rw [if_neg h0]
  by_cases k2 : sp.1 = 2
  · obtain ⟨-, l1, l8⟩ := hw k2
    rw [if_pos k2]
    split <;> omega
  · obtain ⟨⟨u1, u4⟩, d1, d4⟩ := hr (by omega)
    have hnu : n * sp.2.1.toNat ≤ n * 4 := Nat.mul_le_mul_left _ (by omega)
    have hmx : (fm_max sp.2.1 sp.2.2.1).toNat ≤ 4 := by unfold fm_max; split <;> omega
    rw [if_neg k2]
    split
    · have := Nat.div_le_self (n * sp.2.1.toNat + 2 * (fm_max sp.2.1 sp.2.2.1).toNat - 3) sp.2.2.1.toNat
      omega
    · have := Nat.div_le_self (n * sp.2.1.toNat + sp.2.2.1.toNat - 1) sp.2.2.1.toNat
      omega
theorem fm_m_res {sp : fm_S} (k3 : sp.1 = 3) (hok : fm_ok sp) {n : Nat} : fm_m sp false n = (n * sp.2.1.toNat + sp.2.2.1.toNat - 1) / sp.2.2.1.toNat := by
  obtain ⟨⟨u1, u4⟩, d1, d4⟩ := hok.2.2.2.2 k3
  unfold fm_m
  by_cases h0 : n = 0
  · subst h0
    rw [if_pos (Or.inl rfl), Nat.zero_mul, Nat.zero_add, Nat.div_eq_of_lt (by omega)]
  · rw [if_neg (by omega), if_neg (by omega), if_neg (by decide)]
theorem fm_m_small {sp : fm_S} (k3 : ¬ sp.1 = 3) (hok : fm_ok sp) {n : Nat} : fm_m sp false n = n := by
  have := hok.1
  unfold fm_m
  by_cases h0 : n = 0 ∨ sp.1 < 2
  · rw [if_pos h0]
  · rw [if_neg h0, if_pos (by omega), if_neg (by decide)]
/-- while a stage takes c and makes, never more lie in the row than before or behind it -/
theorem ch_cap {sp : fm_S} (hok : fm_ok sp) {n c j : Nat} (hj : j ≤ c) : (c - j) + (fm_m sp false (n + j) - fm_m sp false n) ≤ c ∨ (c - j) + (fm_m sp false (n + j) - fm_m sp false n) ≤ fm_m sp false (n + c) - fm_m sp false n := by
  by_cases k3 : sp.1 = 3
  · rw [fm_m_res k3 hok, fm_m_res k3 hok, fm_m_res k3 hok]
    obtain ⟨⟨u1, u4⟩, d1, d4⟩ := hok.2.2.2.2 k3
    generalize hu : sp.2.1.toNat = u
    generalize hd : sp.2.2.1.toNat = d
    have hd0 : 0 < d := by omega
    by_cases hc : d ≤ u
    · right
      have h1 : (n + c) * u = (n + j) * u + (c - j) * u := by rw [← Nat.add_mul]; congr 1; omega
      have h2 : (c - j) * d ≤ (c - j) * u := Nat.mul_le_mul_left _ hc
      have h3 : ((n + j) * u + d - 1 + (c - j) * d) / d ≤ ((n + c) * u + d - 1) / d := Nat.div_le_div_right (by omega)
      rw [Nat.add_mul_div_right _ _ hd0] at h3
      have h4 : (n * u + d - 1) / d ≤ ((n + j) * u + d - 1) / d := Nat.div_le_div_right (by have : n * u ≤ (n + j) * u := Nat.mul_le_mul_right _ (by omega); omega)
      omega
    · left
      have h1 : (n + j) * u = n * u + j * u := Nat.add_mul _ _ _
      have h2 : j * u ≤ j * d := Nat.mul_le_mul_left _ (by omega)
      have h3 : ((n + j) * u + d - 1) / d ≤ (n * u + d - 1 + j * d) / d := Nat.div_le_div_right (by omega)
      rw [Nat.add_mul_div_right _ _ hd0] at h3
      omega
  · rw [fm_m_small k3 hok, fm_m_small k3 hok]; left; omega
section PS
variable {cI : ClassId} {fr a : Nat} {sts stt : List ch_T} {ff f2 f3 : Nat → Int32} {ii i2 i3 j : Nat} {L LL L2 L3 : List Int32} {Lc Lg : List va_W} {hS0 : Nat} {sp : fm_S} {xs : List Int} {m0 : Nat} {g1 g3 : va_W}
def ps_I (cI : ClassId) (fr a : Nat) (sts stt : List ch_T) (ff : Nat → Int32) (ii : Nat) (L LL : List Int32) (Lc : List va_W) : Prop := fr ≤ a ∧ a ≤ sts.length ∧ rw_ok 366 ff ii LL ∧ (stt, LL.map Int32.toInt) = ch_it sts fr (L.map Int32.toInt) (a - fr) ∧ ch_ok cI Lc stt
def ps_J (cI : ClassId) (a : Nat) (stt : List ch_T) (LL : List Int32) (hS0 : Nat) (sp : fm_S) (xs : List Int) (j : Nat) (f2 : Nat → Int32) (i2 : Nat) (L2 : List Int32) (Lg : List va_W) : Prop := j ≤ LL.length ∧ rw_ok 366 f2 i2 L2 ∧ L2.map Int32.toInt = (LL.map Int32.toInt).drop j ++ fm_d sp false xs ((LL.map Int32.toInt).take j) ∧ ch_ok cI Lg (stt.set a (hS0, sp, xs ++ (LL.map Int32.toInt).take j, fm_m sp false (xs.length + j)))
theorem ps_some {a : Nat} {sts : List ch_T} (h : a < sts.length) : ∃ s, sts[a]? = some s := ⟨sts[a], List.getElem?_eq_getElem h⟩
theorem ps_cur (h : ps_I cI fr a sts stt ff ii L LL Lc) (hs : sts[a]? = some (hS0, sp, xs, m0)) : stt[a]? = some (hS0, sp, xs, m0) := by
  have e := congrArg Prod.fst h.2.2.2.1
  have e : stt = _ := e
  rw [e, ch_it_ge (by have := h.1; omega), hs]
theorem ps_fit (h : ps_I cI fr a sts stt ff ii L LL Lc) (hf : ch_fit sts fr (L.map Int32.toInt)) : LL.length ≤ 366 ∧ (∀ v ∈ LL.map Int32.toInt, fm_in v) ∧ ∀ s ∈ stt, s.2.2.1.length < 50000 := by
  have k := hf (a - fr) (by have := h.2.1; omega)
  rw [← h.2.2.2.1] at k
  simpa using k
theorem ps_nx (h : ps_I cI fr a sts stt ff ii L LL Lc) (hs : sts[a]? = some (hS0, sp, xs, m0)) : ch_it sts fr (L.map Int32.toInt) (a + 1 - fr) = (stt.set a (hS0, sp, xs ++ LL.map Int32.toInt, fm_m sp false (xs.length + LL.length)), fm_d sp false xs (LL.map Int32.toInt)) := by
  have h1 := h.1
  rw [show a + 1 - fr = (a - fr) + 1 by omega]
  show ch_one (ch_it sts fr (L.map Int32.toInt) (a - fr)).1 (fr + (a - fr)) (ch_it sts fr (L.map Int32.toInt) (a - fr)).2 = _
  rw [← h.2.2.2.1, show fr + (a - fr) = a by omega]
  unfold ch_one
  simp only [ps_cur h hs]
  rw [List.length_map]
theorem ps_set (h : ps_I cI fr a sts stt ff ii L LL Lc) (ha : a < sts.length) (hs : sts[a]? = some (hS0, sp, xs, m0)) (ys : List Int) (n : Nat) : (stt.set a (hS0, sp, ys, n))[a]? = some (hS0, sp, ys, n) := List.getElem?_set_self (List.getElem?_eq_some_iff.mp (ps_cur h hs)).1
theorem ps_init (h : ps_I cI fr a sts stt ff ii L LL Lc) (ha : a < sts.length) (hs : sts[a]? = some (hS0, sp, xs, m0)) (hu : ch_un sts fr) : ps_J cI a stt LL hS0 sp xs 0 ff ii LL Lc := by
  have e := hu a _ h.1 hs
  have e : m0 = fm_m sp false xs.length := e
  have hc := ps_cur h hs
  refine ⟨Nat.zero_le _, h.2.2.1, ?_, ?_⟩
  · rw [List.take_zero, fm_d_nil, List.append_nil, List.drop_zero]
  · rw [List.take_zero, List.append_nil, Nat.add_zero, ← e]
    have e2 : stt.set a (hS0, sp, xs, m0) = stt := by
      apply List.ext_getElem?
      intro k
      by_cases c : k = a
      · subst c
        rw [List.getElem?_set_self (List.getElem?_eq_some_iff.mp hc).1, hc]
      · rw [List.getElem?_set_ne (Ne.symm c)]
    rw [e2]
    exact h.2.2.2.2
theorem ps_hd (hJ : ps_J cI a stt LL hS0 sp xs j f2 i2 L2 Lg) (hj : j < LL.length) : (LL.map Int32.toInt).take j ++ [(L2.headD 0).toInt] = (LL.map Int32.toInt).take (j + 1) ∧ (L2.headD 0).toInt ∈ LL.map Int32.toInt ∧ L2.tail.map Int32.toInt = (LL.map Int32.toInt).drop (j + 1) ++ fm_d sp false xs ((LL.map Int32.toInt).take j) := by
  have hq : j < (LL.map Int32.toInt).length := by rw [List.length_map]; exact hj
  have e := hJ.2.2.1
  rw [List.drop_eq_getElem_cons hq, List.cons_append] at e
  cases L2 with
  | nil => simp at e
  | cons x L2 =>
    rw [List.map_cons] at e
    have e1 := (List.cons.inj e).1
    have e2 := (List.cons.inj e).2
    refine ⟨?_, ?_, e2⟩
    · show _ ++ [x.toInt] = _
      rw [e1, List.take_succ_eq_append_getElem hq]
    · show x.toInt ∈ _
      rw [e1]
      exact List.getElem_mem hq
theorem ps_cond (h : ps_I cI fr a sts stt ff ii L LL Lc) (ha : a < sts.length) (hs : sts[a]? = some (hS0, sp, xs, m0)) (hu : ch_un sts fr) (hf : ch_fit sts fr (L.map Int32.toInt)) (hJ : ps_J cI a stt LL hS0 sp xs j f2 i2 L2 Lg) (hj : j < LL.length) :
    (LL.map Int32.toInt).take j ++ [(L2.headD 0).toInt] = (LL.map Int32.toInt).take (j + 1) ∧ fm_in (L2.headD 0).toInt ∧ (xs ++ (LL.map Int32.toInt).take j).length = xs.length + j ∧ (xs ++ (LL.map Int32.toInt).take j).length < 100000 ∧ fm_m sp false (xs.length + j) + 1 < 300000
    ∧ L2.tail.length + (fm_m sp false ((xs ++ (LL.map Int32.toInt).take j).length + 1) - fm_m sp false (xs.length + j)) ≤ 366
    ∧ fm_m sp false ((xs ++ (LL.map Int32.toInt).take j ++ [(L2.headD 0).toInt]).length - 1) ≤ fm_m sp false (xs.length + j)
    ∧ fm_m sp false (xs.length + j) + (fm_m sp false ((xs ++ (LL.map Int32.toInt).take j).length + 1) - fm_m sp false (xs.length + j)) ≤ fm_m sp true (xs ++ (LL.map Int32.toInt).take j ++ [(L2.headD 0).toInt]).length
    ∧ fm_m sp false (xs.length + j) + (fm_m sp false ((xs ++ (LL.map Int32.toInt).take j).length + 1) - fm_m sp false (xs.length + j)) < 299000 := by
  obtain ⟨e1, e2, e3⟩ := ps_hd hJ hj
  obtain ⟨k1, k2, k3⟩ := ps_fit h hf
  have hc := ps_cur h hs
  have hx : xs.length < 50000 := k3 _ (List.mem_of_getElem? hc)
  obtain ⟨g, hg, hsg⟩ := ch_get h.2.2.2.2 hc
  have hok : fm_ok sp := (sg_facts hsg).1
  have hlen : (xs ++ (LL.map Int32.toInt).take j).length = xs.length + j := by simp; omega
  have hlen2 : (xs ++ (LL.map Int32.toInt).take j ++ [(L2.headD 0).toInt]).length = xs.length + j + 1 := by rw [List.length_append, hlen]; rfl
  have b1 := fm_m_bd hok (fl := false) (n := xs.length + j)
  have b2 := fm_m_bd hok (fl := false) (n := xs.length + j + 1)
  have b3 := fm_m_le hok false (show xs.length + j ≤ xs.length + j + 1 by omega)
  have b4 := fm_m_le hok true (Nat.le_refl (xs.length + j + 1))
  have hfn := (hf (a + 1 - fr) (by have := h.1; omega)).1
  rw [ps_nx h hs, fm_d_length, List.length_map] at hfn
  have hfn : fm_m sp false (xs.length + LL.length) - fm_m sp false xs.length ≤ 366 := hfn
  have ht : L2.tail.length = (LL.length - (j + 1)) + (fm_m sp false (xs.length + j) - fm_m sp false xs.length) := by
    have := congrArg List.length e3
    rw [List.length_map, List.length_append, List.length_drop, List.length_map, fm_d_length, List.length_take, List.length_map, Nat.min_eq_left (by omega)] at this
    exact this
  have b5 := fm_m_le hok false (show xs.length ≤ xs.length + j by omega)
  have hcp := ch_cap hok (n := xs.length) (c := LL.length) (j := j + 1) (by omega)
  rw [hlen, hlen2]
  refine ⟨e1, k2 _ e2, rfl, by omega, by omega, ?_, Nat.le_refl _, by omega, by omega⟩
  rw [ht]
  rw [← Nat.add_assoc] at hcp
  omega
theorem ps_step (h : ps_I cI fr a sts stt ff ii L LL Lc) (ha : a < sts.length) (hs : sts[a]? = some (hS0, sp, xs, m0)) (hu : ch_un sts fr) (hJ : ps_J cI a stt LL hS0 sp xs j f2 i2 L2 Lg) (hj : j < LL.length) (hxj : (LL.map Int32.toInt).take j ++ [(L2.headD 0).toInt] = (LL.map Int32.toInt).take (j + 1)) (hlen : (xs ++ (LL.map Int32.toInt).take j).length = xs.length + j)
    (hr : rw_ok 366 f3 i3 L3) (hL3 : L3.map Int32.toInt = L2.tail.map Int32.toInt ++ (List.range (fm_m sp false ((xs ++ (LL.map Int32.toInt).take j).length + 1) - fm_m sp false (xs.length + j))).map (fun z => fm_y sp (xs ++ (LL.map Int32.toInt).take j ++ [(L2.headD 0).toInt]) (fm_m sp false (xs.length + j) + z)))
    (hsg : sg_ok cI hS0 sp (xs ++ (LL.map Int32.toInt).take j ++ [(L2.headD 0).toInt]) (fm_m sp false (xs.length + j) + (fm_m sp false ((xs ++ (LL.map Int32.toInt).take j).length + 1) - fm_m sp false (xs.length + j))) g3) (hg1 : Lg[a]? = some g1) :
    ps_J cI a stt LL hS0 sp xs (j + 1) f3 i3 L3 (Lg.set a g3) := by
  obtain ⟨e1, e2, e3⟩ := ps_hd hJ hj
  have hok : fm_ok sp := (sg_facts hsg).1
  have b3 := fm_m_le hok false (show xs.length + j ≤ xs.length + j + 1 by omega)
  have hlq : ((LL.map Int32.toInt).take j).length = j := by simp; omega
  refine ⟨hj, hr, ?_, ?_⟩
  · have hsn := fm_d_snoc hok (xs := xs) (ys := (LL.map Int32.toInt).take j) (x := (L2.headD 0).toInt)
    rw [hlq, hxj] at hsn
    rw [hL3, e3, hlen, List.append_assoc, hsn]
  · have hu2 := ch_upd (k := a) (s := (hS0, sp, xs ++ (LL.map Int32.toInt).take (j + 1), fm_m sp false (xs.length + (j + 1)))) hJ.2.2.2 (g := g3) (by
      show sg_ok cI hS0 sp (xs ++ (LL.map Int32.toInt).take (j + 1)) (fm_m sp false (xs.length + (j + 1))) g3
      rw [hlen, Nat.add_sub_cancel' b3] at hsg
      rw [← hxj, ← List.append_assoc, ← Nat.add_assoc]
      exact hsg)
    rw [List.set_set] at hu2
    exact hu2
theorem ps_next (h : ps_I cI fr a sts stt ff ii L LL Lc) (ha : a < sts.length) (hs : sts[a]? = some (hS0, sp, xs, m0)) (hJ : ps_J cI a stt LL hS0 sp xs j f2 i2 L2 Lg) (hj : j = LL.length) : ps_I cI fr (a + 1) sts (stt.set a (hS0, sp, xs ++ LL.map Int32.toInt, fm_m sp false (xs.length + LL.length))) f2 i2 L L2 Lg := by
  subst hj
  have h1 := h.1
  have et : (LL.map Int32.toInt).take LL.length = LL.map Int32.toInt := List.take_of_length_le (by simp)
  have ed : (LL.map Int32.toInt).drop LL.length = [] := List.drop_of_length_le (by simp)
  have e := hJ.2.2.1
  have c := hJ.2.2.2
  rw [et] at e c
  rw [ed, List.nil_append] at e
  refine ⟨by omega, ha, hJ.2.1, ?_, c⟩
  rw [ps_nx h hs, e]
theorem ps_cap (h : ps_I cI fr a sts stt ff ii L LL Lc) (ha : a = sts.length) {Lo : List Int32} {nO : Nat} (hc : Lo.length + (ch_it sts fr (L.map Int32.toInt) (sts.length - fr)).2.length ≤ nO) : Lo.length + LL.length ≤ nO := by
  subst ha
  rw [← h.2.2.2.1] at hc
  simpa using hc
theorem ps_cap0 (hn : sts = []) (hfr : fr ≤ sts.length) {Lo : List Int32} {nO : Nat} (hc : Lo.length + (ch_it sts fr (L.map Int32.toInt) (sts.length - fr)).2.length ≤ nO) : Lo.length + L.length ≤ nO := by
  subst hn
  simpa [ch_it] using hc
def ps_O (ff : Nat → Int32) (LL : List Int32) (nO io : Nat) (Lo : List Int32) (j i3 : Nat) (L4 : List Int32) (fo2 : Nat → Int32) (Lo2 : List Int32) : Prop := j ≤ LL.length ∧ rw_ok 366 ff i3 L4 ∧ L4 = LL.drop j ∧ rw_ok nO fo2 io Lo2 ∧ Lo2 = Lo ++ LL.take j
theorem ps_out {nO io i4 : Nat} {Lo L4 Lo2 : List Int32} {fo2 fo3 : Nat → Int32} (h : ps_O ff LL nO io Lo j i3 L4 fo2 Lo2) (hj : j < LL.length) (h1 : rw_ok 366 ff i4 L4.tail) (h2 : rw_ok nO fo3 io (rw_put nO Lo2 (L4.headD 0))) (hc : Lo.length + LL.length ≤ nO) : ps_O ff LL nO io Lo (j + 1) i4 L4.tail fo3 (rw_put nO Lo2 (L4.headD 0)) := by
  obtain ⟨a1, a2, a3, a4, a5⟩ := h
  have hl : Lo2.length = Lo.length + j := by rw [a5, List.length_append, List.length_take, Nat.min_eq_left a1]
  refine ⟨hj, h1, ?_, h2, ?_⟩
  · rw [a3, List.tail_drop]
  · rw [rw_put_lt (by omega), a5, a3, List.take_succ_eq_append_getElem hj, List.append_assoc]
    congr 2
    rw [List.drop_eq_getElem_cons hj]
    rfl
theorem ps_end {h hL hR aR : Nat} {rs : Int32} {nO io hO aO : Nat} {Lo L4 Lo2 : List Int32} {fo2 : Nat → Int32} {wl : va_W} (hI : ps_I cI fr a sts stt ff ii L LL Lc) (ha : a = sts.length) (hO2 : ps_O ff LL nO io Lo j i3 L4 fo2 Lo2) (hj : j = LL.length) :
    ∃ (f2 : Nat → Int32) (i2 : Nat) (fo3 : Nat → Int32) (Lo3 : List Int32) (Ls2 : List va_W), ([(h, .inr (6, [.ref hL, .ref hR, .int rs])), (hR, .inr (0, [.ref aR, .int (nI i3), .int (nI L4.length)])), (aR, .inl (cI, 366, .inl ff)), (hO, .inr (0, [.ref aO, .int (nI io), .int (nI Lo2.length)])), (aO, .inl (cI, nO, .inl fo2))] ++ (wl :: Lc).flatten : va_W) = [(h, .inr (6, [.ref hL, .ref hR, .int rs])), (hR, .inr (0, [.ref aR, .int (nI i2), .int (nI ([] : List Int32).length)])), (aR, .inl (cI, 366, .inl f2)), (hO, .inr (0, [.ref aO, .int (nI io), .int (nI Lo3.length)])), (aO, .inl (cI, nO, .inl fo3))] ++ (wl :: Ls2).flatten ∧ rw_ok 366 f2 i2 [] ∧ rw_ok nO fo3 io Lo3 ∧ Lo3.map Int32.toInt = Lo.map Int32.toInt ++ (ch_it sts fr (L.map Int32.toInt) (sts.length - fr)).2 ∧ ch_ok cI Ls2 (ch_it sts fr (L.map Int32.toInt) (sts.length - fr)).1 := by
  subst hj
  subst ha
  obtain ⟨a1, a2, a3, a4, a5⟩ := hO2
  rw [List.drop_length] at a3
  subst a3
  rw [List.take_length] at a5
  refine ⟨ff, i3, fo2, Lo2, Lc, rfl, a2, a4, ?_, ?_⟩
  · rw [← hI.2.2.2.1, a5, List.map_append]
  · rw [← hI.2.2.2.1]; exact hI.2.2.2.2
theorem ps_end0 {h hL hR aR : Nat} {rs : Int32} {nO io hO aO : Nat} {Lo L4 Lo2 : List Int32} {fo2 : Nat → Int32} {wl : va_W} (hn : sts = []) (hfr : fr ≤ sts.length) (hch : ch_ok cI Lc sts) (hO2 : ps_O ff L nO io Lo j i3 L4 fo2 Lo2) (hj : j = L.length) :
    ∃ (f2 : Nat → Int32) (i2 : Nat) (fo3 : Nat → Int32) (Lo3 : List Int32) (Ls2 : List va_W), ([(h, .inr (6, [.ref hL, .ref hR, .int rs])), (hR, .inr (0, [.ref aR, .int (nI i3), .int (nI L4.length)])), (aR, .inl (cI, 366, .inl ff)), (hO, .inr (0, [.ref aO, .int (nI io), .int (nI Lo2.length)])), (aO, .inl (cI, nO, .inl fo2))] ++ (wl :: Lc).flatten : va_W) = [(h, .inr (6, [.ref hL, .ref hR, .int rs])), (hR, .inr (0, [.ref aR, .int (nI i2), .int (nI ([] : List Int32).length)])), (aR, .inl (cI, 366, .inl f2)), (hO, .inr (0, [.ref aO, .int (nI io), .int (nI Lo3.length)])), (aO, .inl (cI, nO, .inl fo3))] ++ (wl :: Ls2).flatten ∧ rw_ok 366 f2 i2 [] ∧ rw_ok nO fo3 io Lo3 ∧ Lo3.map Int32.toInt = Lo.map Int32.toInt ++ (ch_it sts fr (L.map Int32.toInt) (sts.length - fr)).2 ∧ ch_ok cI Ls2 (ch_it sts fr (L.map Int32.toInt) (sts.length - fr)).1 := by
  subst hj
  obtain ⟨a1, a2, a3, a4, a5⟩ := hO2
  rw [List.drop_length] at a3
  subst a3
  rw [List.take_length] at a5
  subst hn
  have e : ([] : List ch_T).length - fr = 0 := by simp
  refine ⟨ff, i3, fo2, Lo2, Lc, rfl, a2, a4, ?_, ?_⟩
  · rw [e, a5, List.map_append]; rfl
  · rw [e]; exact hch
end PS
/-- every stage is one -/
theorem sg_cast {p : Program} {l : Launch} {e : Env} {R : Room} {s : State} {mt : MethodId} {args : Array Value} {below : List Frame} {meth : Method} {cd : Code} {H : Heap} {locs : List Loc} {cells slots : Nat} {Q : State → Prop} {cc : ByteArray} {nL pc : Nat} {ls : Array Slot} {rest : List Value} {D : va_G} {cI cO : ClassId} {g : va_W} {own : String} {index : Nat} (K : fq_Ctx p mt cd cc nL s args own) (hK : fq_K D cI cO s) {h : Nat} {sp : fm_S} {xs : List Int} {m : Nat} (hsg : sg_ok cI h sp xs m g) (hP : va_P D fq_cl g H) (hlink : (Cond.classLink own index cn_Stage).before args s = true) (hdg : decode cc pc = .ok (.checkcast index, 3))
    (k : W p l e R s mt args below meth cd H locs cells slots Q (F0 mt (pc + 3) ls (.ref h :: rest))) : W p l e R s mt args below meth cd H locs cells slots Q (F0 mt pc ls (.ref h :: rest)) := by
  rcases hsg with ⟨_, _, _, _, _, _, _, _, _, _, rfl, -⟩ | ⟨_, _, rfl, -⟩ | ⟨_, _, _, _, _, _, _, rfl, -⟩ | ⟨_, _, _, _, _, rfl, -⟩
  · exact va_castY K.1 K.2.1 K.2.2.2.1 hlink (hK.2.1 _ wn_1003 rfl) (va_recv (q0 := 0) hK.1 hP rfl rfl) hdg k
  · exact va_castY K.1 K.2.1 K.2.2.2.1 hlink (hK.2.1 _ wn_1001 rfl) (va_recv (q0 := 0) hK.1 hP rfl rfl) hdg k
  · exact va_castY K.1 K.2.1 K.2.2.2.1 hlink (hK.2.1 _ wn_1004 rfl) (va_recv (q0 := 0) hK.1 hP rfl rfl) hdg k
  · exact va_castY K.1 K.2.1 K.2.2.2.1 hlink (hK.2.1 _ wn_1002 rfl) (va_recv (q0 := 0) hK.1 hP rfl rfl) hdg k

theorem dc_Chain_passThrough_0 : decode cb_Chain_passThrough 0 = .ok (.iload_n 1, 1) := by decide +kernel
theorem dc_Chain_passThrough_1 : decode cb_Chain_passThrough 1 = .ok (.istore_n 3, 1) := by decide +kernel
theorem dc_Chain_passThrough_2 : decode cb_Chain_passThrough 2 = .ok (.iload_n 3, 1) := by decide +kernel
theorem dc_Chain_passThrough_3 : decode cb_Chain_passThrough 3 = .ok (.aload_n 0, 1) := by decide +kernel
theorem dc_Chain_passThrough_4 : decode cb_Chain_passThrough 4 = .ok (.getfield 12, 3) := by decide +kernel
theorem dc_Chain_passThrough_7 : decode cb_Chain_passThrough 7 = .ok (.invokevirtual 27, 3) := by decide +kernel
theorem dc_Chain_passThrough_10 : decode cb_Chain_passThrough 10 = .ok (.if_icmp .ge 65, 3) := by decide +kernel
theorem dc_Chain_passThrough_13 : decode cb_Chain_passThrough 13 = .ok (.aload_n 0, 1) := by decide +kernel
theorem dc_Chain_passThrough_14 : decode cb_Chain_passThrough 14 = .ok (.getfield 12, 3) := by decide +kernel
theorem dc_Chain_passThrough_17 : decode cb_Chain_passThrough 17 = .ok (.iload_n 3, 1) := by decide +kernel
theorem dc_Chain_passThrough_18 : decode cb_Chain_passThrough 18 = .ok (.invokevirtual 31, 3) := by decide +kernel
theorem dc_Chain_passThrough_21 : decode cb_Chain_passThrough 21 = .ok (.checkcast 35, 3) := by decide +kernel
theorem dc_Chain_passThrough_24 : decode cb_Chain_passThrough 24 = .ok (.astore 4, 2) := by decide +kernel
theorem dc_Chain_passThrough_26 : decode cb_Chain_passThrough 26 = .ok (.aload_n 0, 1) := by decide +kernel
theorem dc_Chain_passThrough_27 : decode cb_Chain_passThrough 27 = .ok (.getfield 23, 3) := by decide +kernel
theorem dc_Chain_passThrough_30 : decode cb_Chain_passThrough 30 = .ok (.invokevirtual 61, 3) := by decide +kernel
theorem dc_Chain_passThrough_33 : decode cb_Chain_passThrough 33 = .ok (.istore 5, 2) := by decide +kernel
theorem dc_Chain_passThrough_35 : decode cb_Chain_passThrough 35 = .ok (.iconst 0, 1) := by decide +kernel
theorem dc_Chain_passThrough_36 : decode cb_Chain_passThrough 36 = .ok (.istore 6, 2) := by decide +kernel
theorem dc_Chain_passThrough_38 : decode cb_Chain_passThrough 38 = .ok (.iload 6, 2) := by decide +kernel
theorem dc_Chain_passThrough_40 : decode cb_Chain_passThrough 40 = .ok (.iload 5, 2) := by decide +kernel
theorem dc_Chain_passThrough_42 : decode cb_Chain_passThrough 42 = .ok (.if_icmp .ge 27, 3) := by decide +kernel
theorem dc_Chain_passThrough_45 : decode cb_Chain_passThrough 45 = .ok (.aload_n 0, 1) := by decide +kernel
theorem dc_Chain_passThrough_46 : decode cb_Chain_passThrough 46 = .ok (.aload 4, 2) := by decide +kernel
theorem dc_Chain_passThrough_48 : decode cb_Chain_passThrough 48 = .ok (.aload 4, 2) := by decide +kernel
theorem dc_Chain_passThrough_50 : decode cb_Chain_passThrough 50 = .ok (.aload_n 0, 1) := by decide +kernel
theorem dc_Chain_passThrough_51 : decode cb_Chain_passThrough 51 = .ok (.getfield 23, 3) := by decide +kernel
theorem dc_Chain_passThrough_54 : decode cb_Chain_passThrough 54 = .ok (.invokevirtual 62, 3) := by decide +kernel
theorem dc_Chain_passThrough_57 : decode cb_Chain_passThrough 57 = .ok (.invokevirtual 65, 3) := by decide +kernel
theorem dc_Chain_passThrough_60 : decode cb_Chain_passThrough 60 = .ok (.invokevirtual 57, 3) := by decide +kernel
theorem dc_Chain_passThrough_63 : decode cb_Chain_passThrough 63 = .ok (.iinc 6 1, 3) := by decide +kernel
theorem dc_Chain_passThrough_66 : decode cb_Chain_passThrough 66 = .ok (.goto (-28), 3) := by decide +kernel
theorem dc_Chain_passThrough_69 : decode cb_Chain_passThrough 69 = .ok (.iinc 3 1, 3) := by decide +kernel
theorem dc_Chain_passThrough_72 : decode cb_Chain_passThrough 72 = .ok (.goto (-70), 3) := by decide +kernel
theorem dc_Chain_passThrough_75 : decode cb_Chain_passThrough 75 = .ok (.aload_n 0, 1) := by decide +kernel
theorem dc_Chain_passThrough_76 : decode cb_Chain_passThrough 76 = .ok (.getfield 23, 3) := by decide +kernel
theorem dc_Chain_passThrough_79 : decode cb_Chain_passThrough 79 = .ok (.invokevirtual 61, 3) := by decide +kernel
theorem dc_Chain_passThrough_82 : decode cb_Chain_passThrough 82 = .ok (.istore_n 3, 1) := by decide +kernel
theorem dc_Chain_passThrough_83 : decode cb_Chain_passThrough 83 = .ok (.iconst 0, 1) := by decide +kernel
theorem dc_Chain_passThrough_84 : decode cb_Chain_passThrough 84 = .ok (.istore 4, 2) := by decide +kernel
theorem dc_Chain_passThrough_86 : decode cb_Chain_passThrough 86 = .ok (.iload 4, 2) := by decide +kernel
theorem dc_Chain_passThrough_88 : decode cb_Chain_passThrough 88 = .ok (.iload_n 3, 1) := by decide +kernel
theorem dc_Chain_passThrough_89 : decode cb_Chain_passThrough 89 = .ok (.if_icmp .ge 20, 3) := by decide +kernel
theorem dc_Chain_passThrough_92 : decode cb_Chain_passThrough 92 = .ok (.aload_n 2, 1) := by decide +kernel
theorem dc_Chain_passThrough_93 : decode cb_Chain_passThrough 93 = .ok (.aload_n 0, 1) := by decide +kernel
theorem dc_Chain_passThrough_94 : decode cb_Chain_passThrough 94 = .ok (.getfield 23, 3) := by decide +kernel
theorem dc_Chain_passThrough_97 : decode cb_Chain_passThrough 97 = .ok (.invokevirtual 62, 3) := by decide +kernel
theorem dc_Chain_passThrough_100 : decode cb_Chain_passThrough 100 = .ok (.invokevirtual 48, 3) := by decide +kernel
theorem dc_Chain_passThrough_103 : decode cb_Chain_passThrough 103 = .ok (.iinc 4 1, 3) := by decide +kernel
theorem dc_Chain_passThrough_106 : decode cb_Chain_passThrough 106 = .ok (.goto (-20), 3) := by decide +kernel
theorem dc_Chain_passThrough_109 : decode cb_Chain_passThrough 109 = .ok (.return_, 1) := by decide +kernel
theorem yk_Chain_passThrough : fq_Y my_Chain_passThrough cb_Chain_passThrough 7 none 2 := ⟨wd_610, wd_27, by decide +kernel⟩
set_option maxHeartbeats 4000000 in
set_option maxRecDepth 100000 in
theorem ct_Chain_passThrough (l : Launch) (D : va_G) (cI cO : ClassId) (tE : Nat) (h hL hR aR : Nat) (rs : Int32) (f : Nat → Int32) (i : Nat) (L : List Int32) (hO aO nO : Nat) (fo : Nat → Int32) (io : Nat) (Lo : List Int32) (fr : Nat) (sts : List ch_T) (wl : va_W) (Ls : List va_W) (hrow : rw_ok 366 f i L) (hrowO : rw_ok nO fo io Lo) (hal : al_W tE cO hL sts wl) (hch : ch_ok cI Ls sts) (hfr : fr ≤ sts.length) (hun : ch_un sts fr) (hfit : ch_fit sts fr (L.map Int32.toInt)) (hcapO : Lo.length + (ch_it sts fr (L.map Int32.toInt) (sts.length - fr)).2.length ≤ nO) (sz : Nat) : Met l my_Chain_passThrough (fq_w my_Chain_passThrough cb_Chain_passThrough 7 none) ({ frames := 4, cells := 0, slots := 0, locals := 86 }) (va_Pc ([.ref h, .int (nI fr), .ref hO]) (fq_Pre D cI cO tE sz ([(h, .inr (6, [.ref hL, .ref hR, .int rs])), (hR, .inr (0, [.ref aR, .int (nI i), .int (nI L.length)])), (aR, .inl (cI, 366, .inl f)), (hO, .inr (0, [.ref aO, .int (nI io), .int (nI Lo.length)])), (aO, .inl (cI, nO, .inl fo))] ++ (wl :: Ls).flatten))) (va_Qv (S := va_W) (fun w => ∃ (f2 : Nat → Int32) (i2 : Nat) (fo2 : Nat → Int32) (Lo2 : List Int32) (Ls2 : List va_W), w = [(h, .inr (6, [.ref hL, .ref hR, .int rs])), (hR, .inr (0, [.ref aR, .int (nI i2), .int (nI ([] : List Int32).length)])), (aR, .inl (cI, 366, .inl f2)), (hO, .inr (0, [.ref aO, .int (nI io), .int (nI Lo2.length)])), (aO, .inl (cI, nO, .inl fo2))] ++ (wl :: Ls2).flatten ∧ rw_ok 366 f2 i2 [] ∧ rw_ok nO fo2 io Lo2 ∧ Lo2.map Int32.toInt = Lo.map Int32.toInt ++ (ch_it sts fr (L.map Int32.toInt) (sts.length - fr)).2 ∧ ch_ok cI Ls2 (ch_it sts fr (L.map Int32.toInt) (sts.length - fr)).1) (fq_Bw D (va_A ([(h, .inr (6, [.ref hL, .ref hR, .int rs])), (hR, .inr (0, [.ref aR, .int (nI i), .int (nI L.length)])), (aR, .inl (cI, 366, .inl f)), (hO, .inr (0, [.ref aO, .int (nI io), .int (nI Lo.length)])), (aO, .inl (cI, nO, .inl fo))] ++ (wl :: Ls).flatten) sz)) (va_A ([(h, .inr (6, [.ref hL, .ref hR, .int rs])), (hR, .inr (0, [.ref aR, .int (nI i), .int (nI L.length)])), (aR, .inl (cI, 366, .inl f)), (hO, .inr (0, [.ref aO, .int (nI io), .int (nI Lo.length)])), (aO, .inl (cI, nO, .inl fo))] ++ (wl :: Ls).flatten) sz)) (0) (0) (va_A ([(h, .inr (6, [.ref hL, .ref hR, .int rs])), (hR, .inr (0, [.ref aR, .int (nI i), .int (nI L.length)])), (aR, .inl (cI, 366, .inl f)), (hO, .inr (0, [.ref aO, .int (nI io), .int (nI Lo.length)])), (aO, .inl (cI, nO, .inl fo))] ++ (wl :: Ls).flatten) sz) := by
  refine fq_open (by decide +kernel) (Nat.le_of_ble_eq_true rfl) ?_
  intro pg ev s mt below meth cd ls K hret hlk hin hK hZ hP hD hA hS hl
  generalize va_A ([(h, .inr (6, [.ref hL, .ref hR, .int rs])), (hR, .inr (0, [.ref aR, .int (nI i), .int (nI L.length)])), (aR, .inl (cI, 366, .inl f)), (hO, .inr (0, [.ref aO, .int (nI io), .int (nI Lo.length)])), (aO, .inl (cI, nO, .inl fo))] ++ (wl :: Ls).flatten) sz = A at hZ hD hA hS ⊢
  have K : fq_Ctx pg mt cd cb_Chain_passThrough 7 s _ cn_Chain := K
  have hl : lv_has ls 7 [(0, .ref h), (1, .int (nI fr)), (2, .ref hO)] := hl
  have hLl := hrow.2.2.2.1
  rcases hal with ⟨hnil, mo, rfl⟩ | ⟨eE, mo, fE, rfl, hle, hfE⟩
  · skip
    have hf0 : fr = 0 := by rw [hnil] at hfr; exact Nat.le_zero.mp hfr
    have hP : va_P D fq_cl ([(h, .inr (6, [.ref hL, .ref hR, .int rs])), (hR, .inr (0, [.ref aR, .int (nI i), .int (nI L.length)])), (aR, .inl (cI, 366, .inl f)), (hO, .inr (0, [.ref aO, .int (nI io), .int (nI Lo.length)])), (aO, .inl (cI, nO, .inl fo)), (hL, .inr (11, [.ref tE, .int (nI 0), .int mo]))] ++ Ls.flatten) _ := hP
    have hD : va_D A ([(h, .inr (6, [.ref hL, .ref hR, .int rs])), (hR, .inr (0, [.ref aR, .int (nI i), .int (nI L.length)])), (aR, .inl (cI, 366, .inl f)), (hO, .inr (0, [.ref aO, .int (nI io), .int (nI Lo.length)])), (aO, .inl (cI, nO, .inl fo)), (hL, .inr (11, [.ref tE, .int (nI 0), .int mo]))] ++ Ls.flatten) := hD
    refine lv_iload_n K.1 K.2.1 dc_Chain_passThrough_0 rfl (lv_at hl 1 rfl) ?_
    refine lv_istore_n K.1 K.2.1 dc_Chain_passThrough_1 rfl hl (by decide) rfl (fun ls hl => ?_)
    have hl : lv_has ls 7 [(3, .int (nI fr)), (0, .ref h), (1, .int (nI fr)), (2, .ref hO)] := hl
    refine lv_iload_n K.1 K.2.1 dc_Chain_passThrough_2 rfl (lv_at hl 0 rfl) ?_
    refine lv_aload_n K.1 K.2.1 dc_Chain_passThrough_3 rfl (lv_at hl 1 rfl) ?_
    refine fq_get K hK cl_Chain hP 0 0 rfl (by decide) wd_105 rfl dc_Chain_passThrough_4 ?_
    have hc := fq_cutT (X := [(h, .inr (6, [.ref hL, .ref hR, .int rs])), (hR, .inr (0, [.ref aR, .int (nI i), .int (nI L.length)])), (aR, .inl (cI, 366, .inl f)), (hO, .inr (0, [.ref aO, .int (nI io), .int (nI Lo.length)])), (aO, .inl (cI, nO, .inl fo)), (hL, .inr (11, [.ref tE, .int (nI 0), .int mo]))]) (T := Ls.flatten) (cx := [(hL, .inr (11, [.ref tE, .int (nI 0), .int mo]))]) hP hD hS hA [5] (by decide) rfl
    refine fq_ciT (wr := [(h, .inr (6, [.ref hL, .ref hR, .int rs])), (hR, .inr (0, [.ref aR, .int (nI i), .int (nI L.length)])), (aR, .inl (cI, 366, .inl f)), (hO, .inr (0, [.ref aO, .int (nI io), .int (nI Lo.length)])), (aO, .inl (cI, nO, .inl fo))]) (fq_rV K hK hZ hS hc (ct_AL_size l D cI cO tE hL tE (nI 0) mo _) yk_AL_size wd_229 wd_230 wd_228 0 rfl rfl rfl ⟨⟨rfl, rfl⟩, ⟨Nat.le_of_ble_eq_true rfl, Nat.le_of_ble_eq_true rfl⟩, ⟨Nat.le_of_ble_eq_true rfl, Nat.le_of_ble_eq_true rfl⟩⟩ hl.1 rfl (Nat.le_of_ble_eq_true rfl) dc_Chain_passThrough_7) hP hD hS hc [5] [0, 1, 2, 3, 4] rfl rfl (by decide) (by decide) (fun r1 w H locs hw1 hP hD hS => ?_)
    obtain ⟨rfl, rfl⟩ := hw1
    have hP : va_P D fq_cl ([(h, .inr (6, [.ref hL, .ref hR, .int rs])), (hR, .inr (0, [.ref aR, .int (nI i), .int (nI L.length)])), (aR, .inl (cI, 366, .inl f)), (hO, .inr (0, [.ref aO, .int (nI io), .int (nI Lo.length)])), (aO, .inl (cI, nO, .inl fo)), (hL, .inr (11, [.ref tE, .int (nI 0), .int mo]))] ++ Ls.flatten) _ := hP
    have hD : va_D A ([(h, .inr (6, [.ref hL, .ref hR, .int rs])), (hR, .inr (0, [.ref aR, .int (nI i), .int (nI L.length)])), (aR, .inl (cI, 366, .inl f)), (hO, .inr (0, [.ref aO, .int (nI io), .int (nI Lo.length)])), (aO, .inl (cI, nO, .inl fo)), (hL, .inr (11, [.ref tE, .int (nI 0), .int mo]))] ++ Ls.flatten) := hD
    refine lv_icmp_ge (tgt := 75) K.1 K.2.1 dc_Chain_passThrough_10 rfl (fun b10 => ?_) (fun b10 => absurd (nI_leI (by omega) (by omega) |>.mpr (Nat.zero_le _)) b10)
    refine lv_aload_n K.1 K.2.1 dc_Chain_passThrough_75 rfl (lv_at hl 1 rfl) ?_
    refine fq_get K hK cl_Chain hP 0 1 rfl (by decide) wd_106 rfl dc_Chain_passThrough_76 ?_
    have hc := fq_cutT (X := [(h, .inr (6, [.ref hL, .ref hR, .int rs])), (hR, .inr (0, [.ref aR, .int (nI i), .int (nI L.length)])), (aR, .inl (cI, 366, .inl f)), (hO, .inr (0, [.ref aO, .int (nI io), .int (nI Lo.length)])), (aO, .inl (cI, nO, .inl fo)), (hL, .inr (11, [.ref tE, .int (nI 0), .int mo]))]) (T := Ls.flatten) (cx := [(hR, .inr (0, [.ref aR, .int (nI i), .int (nI L.length)])), (aR, .inl (cI, 366, .inl f))]) hP hD hS hA [1, 2] (by decide) rfl
    refine fq_ciT (wr := [(h, .inr (6, [.ref hL, .ref hR, .int rs])), (hO, .inr (0, [.ref aO, .int (nI io), .int (nI Lo.length)])), (aO, .inl (cI, nO, .inl fo)), (hL, .inr (11, [.ref tE, .int (nI 0), .int mo]))]) (fq_rV K hK hZ hS hc (ct_Row_size l D cI cO tE hR aR 366 f i L hrow _) yk_Row_size wd_574 wd_575 wd_611 0 rfl rfl rfl ⟨⟨rfl, rfl⟩, ⟨Nat.le_of_ble_eq_true rfl, Nat.le_of_ble_eq_true rfl⟩, ⟨Nat.le_of_ble_eq_true rfl, Nat.le_of_ble_eq_true rfl⟩⟩ hl.1 rfl (Nat.le_of_ble_eq_true rfl) dc_Chain_passThrough_79) hP hD hS hc [1, 2] [0, 3, 4, 5] rfl rfl (by decide) (by decide) (fun r2 w H locs hw2 hP hD hS => ?_)
    obtain ⟨rfl, rfl⟩ := hw2
    have hP : va_P D fq_cl ([(h, .inr (6, [.ref hL, .ref hR, .int rs])), (hO, .inr (0, [.ref aO, .int (nI io), .int (nI Lo.length)])), (aO, .inl (cI, nO, .inl fo)), (hL, .inr (11, [.ref tE, .int (nI 0), .int mo])), (hR, .inr (0, [.ref aR, .int (nI i), .int (nI L.length)])), (aR, .inl (cI, 366, .inl f))] ++ Ls.flatten) _ := hP
    have hD : va_D A ([(h, .inr (6, [.ref hL, .ref hR, .int rs])), (hO, .inr (0, [.ref aO, .int (nI io), .int (nI Lo.length)])), (aO, .inl (cI, nO, .inl fo)), (hL, .inr (11, [.ref tE, .int (nI 0), .int mo])), (hR, .inr (0, [.ref aR, .int (nI i), .int (nI L.length)])), (aR, .inl (cI, 366, .inl f))] ++ Ls.flatten) := hD
    refine lv_istore_n K.1 K.2.1 dc_Chain_passThrough_82 rfl hl (by decide) rfl (fun ls hl => ?_)
    have hl : lv_has ls 7 [(3, .int (nI L.length)), (0, .ref h), (1, .int (nI fr)), (2, .ref hO)] := hl
    refine lv_iconst (v := 0) K.1 K.2.1 dc_Chain_passThrough_83 (by decide) ?_
    refine lv_istore K.1 K.2.1 dc_Chain_passThrough_84 hl (by decide) rfl (fun ls hl => ?_)
    have hl : lv_has ls 7 [(4, .int 0), (3, .int (nI L.length)), (0, .ref h), (1, .int (nI fr)), (2, .ref hO)] := hl
    have hP := va_P.part (X := [(h, .inr (6, [.ref hL, .ref hR, .int rs])), (hO, .inr (0, [.ref aO, .int (nI io), .int (nI Lo.length)])), (aO, .inl (cI, nO, .inl fo)), (hL, .inr (11, [.ref tE, .int (nI 0), .int mo])), (hR, .inr (0, [.ref aR, .int (nI i), .int (nI L.length)])), (aR, .inl (cI, 366, .inl f))]) (cx := [(h, .inr (6, [.ref hL, .ref hR, .int rs])), (hR, .inr (0, [.ref aR, .int (nI i), .int (nI L.length)])), (aR, .inl (cI, 366, .inl f)), (hO, .inr (0, [.ref aO, .int (nI io), .int (nI Lo.length)])), (aO, .inl (cI, nO, .inl fo)), (hL, .inr (11, [.ref tE, .int (nI 0), .int mo]))]) hP [0, 4, 5, 1, 2, 3] rfl
    have hD := va_D.part (X := [(h, .inr (6, [.ref hL, .ref hR, .int rs])), (hO, .inr (0, [.ref aO, .int (nI io), .int (nI Lo.length)])), (aO, .inl (cI, nO, .inl fo)), (hL, .inr (11, [.ref tE, .int (nI 0), .int mo])), (hR, .inr (0, [.ref aR, .int (nI i), .int (nI L.length)])), (aR, .inl (cI, 366, .inl f))]) (cx := [(h, .inr (6, [.ref hL, .ref hR, .int rs])), (hR, .inr (0, [.ref aR, .int (nI i), .int (nI L.length)])), (aR, .inl (cI, 366, .inl f)), (hO, .inr (0, [.ref aO, .int (nI io), .int (nI Lo.length)])), (aO, .inl (cI, nO, .inl fo)), (hL, .inr (11, [.ref tE, .int (nI 0), .int mo]))]) hD [0, 4, 5, 1, 2, 3] (by decide) rfl
    refine fq_lp (σ := Nat × Nat × List Int32 × (Nat → Int32) × List Int32) (fun x => L.length - x.1) (fun x H locs ls => (x.1 ≤ L.length ∧ rw_ok 366 f x.2.1 x.2.2.1 ∧ x.2.2.1 = L.drop x.1 ∧ rw_ok nO x.2.2.2.1 io x.2.2.2.2 ∧ x.2.2.2.2 = Lo ++ L.take x.1) ∧ lv_has ls 7 [(0, .ref h), (2, .ref hO), (3, .int (nI L.length)), (4, .int (nI x.1))] ∧ va_P D fq_cl ([(h, .inr (6, [.ref hL, .ref hR, .int rs])), (hR, .inr (0, [.ref aR, .int (nI x.2.1), .int (nI x.2.2.1.length)])), (aR, .inl (cI, 366, .inl f)), (hO, .inr (0, [.ref aO, .int (nI io), .int (nI x.2.2.2.2.length)])), (aO, .inl (cI, nO, .inl x.2.2.2.1)), (hL, .inr (11, [.ref tE, .int (nI 0), .int mo]))] ++ Ls.flatten) H ∧ va_D A ([(h, .inr (6, [.ref hL, .ref hR, .int rs])), (hR, .inr (0, [.ref aR, .int (nI x.2.1), .int (nI x.2.2.1.length)])), (aR, .inl (cI, 366, .inl f)), (hO, .inr (0, [.ref aO, .int (nI io), .int (nI x.2.2.2.2.length)])), (aO, .inl (cI, nO, .inl x.2.2.2.1)), (hL, .inr (11, [.ref tE, .int (nI 0), .int mo]))] ++ Ls.flatten) ∧ va_S A s.heap H locs) ?_ (0, i, L, fo, Lo) _ _ _ ⟨⟨Nat.zero_le _, hrow, rfl, hrowO, (List.append_nil _).symm⟩, lv_sub hl [2, 4, 1, 0] rfl, hP, hD, hS⟩
    rintro ⟨j, i3, L4, fo2, Lo2⟩ H locs ls ⟨hI86, hl, hP, hD, hS⟩ ih86
    have hI86 : j ≤ L.length ∧ rw_ok 366 f i3 L4 ∧ L4 = L.drop j ∧ rw_ok nO fo2 io Lo2 ∧ Lo2 = Lo ++ L.take j := hI86
    have hl : lv_has ls 7 [(0, .ref h), (2, .ref hO), (3, .int (nI L.length)), (4, .int (nI j))] := hl
    have hP : va_P D fq_cl ([(h, .inr (6, [.ref hL, .ref hR, .int rs])), (hR, .inr (0, [.ref aR, .int (nI i3), .int (nI L4.length)])), (aR, .inl (cI, 366, .inl f)), (hO, .inr (0, [.ref aO, .int (nI io), .int (nI Lo2.length)])), (aO, .inl (cI, nO, .inl fo2)), (hL, .inr (11, [.ref tE, .int (nI 0), .int mo]))] ++ Ls.flatten) _ := hP
    have hD : va_D A ([(h, .inr (6, [.ref hL, .ref hR, .int rs])), (hR, .inr (0, [.ref aR, .int (nI i3), .int (nI L4.length)])), (aR, .inl (cI, 366, .inl f)), (hO, .inr (0, [.ref aO, .int (nI io), .int (nI Lo2.length)])), (aO, .inl (cI, nO, .inl fo2)), (hL, .inr (11, [.ref tE, .int (nI 0), .int mo]))] ++ Ls.flatten) := hD
    refine lv_iload K.1 K.2.1 dc_Chain_passThrough_86 (lv_at hl 3 rfl) ?_
    refine lv_iload_n K.1 K.2.1 dc_Chain_passThrough_88 rfl (lv_at hl 2 rfl) ?_
    refine lv_icmp_ge (tgt := 109) K.1 K.2.1 dc_Chain_passThrough_89 rfl (fun b89 => ?_) (fun b89 => ?_)
    · skip
      have hj : j = L.length := by rw [nI_leI (by omega) (by omega)] at b89; omega
      have hP : va_P D fq_cl ([(h, .inr (6, [.ref hL, .ref hR, .int rs])), (hR, .inr (0, [.ref aR, .int (nI i3), .int (nI L4.length)])), (aR, .inl (cI, 366, .inl f)), (hO, .inr (0, [.ref aO, .int (nI io), .int (nI Lo2.length)])), (aO, .inl (cI, nO, .inl fo2))] ++ ([(hL, .inr (11, [.ref tE, .int (nI 0), .int mo]))] :: Ls).flatten) _ := hP
      have hD : va_D A ([(h, .inr (6, [.ref hL, .ref hR, .int rs])), (hR, .inr (0, [.ref aR, .int (nI i3), .int (nI L4.length)])), (aR, .inl (cI, 366, .inl f)), (hO, .inr (0, [.ref aO, .int (nI io), .int (nI Lo2.length)])), (aO, .inl (cI, nO, .inl fo2))] ++ ([(hL, .inr (11, [.ref tE, .int (nI 0), .int mo]))] :: Ls).flatten) := hD
      exact fq_retv K hret hlk hS hP hD (ps_end0 hnil hfr hch hI86 hj) dc_Chain_passThrough_109 (Nat.le_of_ble_eq_true rfl) (Nat.le_of_ble_eq_true rfl)
    · skip
      have hj : j < L.length := by rw [nI_leI (by omega) (by omega)] at b89; omega
      refine lv_aload_n K.1 K.2.1 dc_Chain_passThrough_92 rfl (lv_at hl 1 rfl) ?_
      refine lv_aload_n K.1 K.2.1 dc_Chain_passThrough_93 rfl (lv_at hl 0 rfl) ?_
      refine fq_get K hK cl_Chain hP 0 1 rfl (by decide) wd_106 rfl dc_Chain_passThrough_94 ?_
      have hc := fq_cutT (X := [(h, .inr (6, [.ref hL, .ref hR, .int rs])), (hR, .inr (0, [.ref aR, .int (nI i3), .int (nI L4.length)])), (aR, .inl (cI, 366, .inl f)), (hO, .inr (0, [.ref aO, .int (nI io), .int (nI Lo2.length)])), (aO, .inl (cI, nO, .inl fo2)), (hL, .inr (11, [.ref tE, .int (nI 0), .int mo]))]) (T := Ls.flatten) (cx := [(hR, .inr (0, [.ref aR, .int (nI i3), .int (nI L4.length)])), (aR, .inl (cI, 366, .inl f))]) hP hD hS hA [1, 2] (by decide) rfl
      refine fq_ciT (wr := [(h, .inr (6, [.ref hL, .ref hR, .int rs])), (hO, .inr (0, [.ref aO, .int (nI io), .int (nI Lo2.length)])), (aO, .inl (cI, nO, .inl fo2)), (hL, .inr (11, [.ref tE, .int (nI 0), .int mo]))]) (fq_rV K hK hZ hS hc (ct_Row_takeOldest l D cI cO tE hR aR 366 f i3 L4 hI86.2.1 _) yk_Row_takeOldest wd_583 wd_584 wd_612 0 rfl rfl rfl ⟨⟨rfl, rfl⟩, ⟨Nat.le_of_ble_eq_true rfl, Nat.le_of_ble_eq_true rfl⟩, ⟨Nat.le_of_ble_eq_true rfl, Nat.le_of_ble_eq_true rfl⟩⟩ hl.1 rfl (Nat.le_of_ble_eq_true rfl) dc_Chain_passThrough_97) hP hD hS hc [1, 2] [0, 3, 4, 5] rfl rfl (by decide) (by decide) (fun r3 w H locs hw3 hP hD hS => ?_)
      obtain ⟨j1, rfl, rfl, hrow1⟩ := hw3
      have hP : va_P D fq_cl ([(h, .inr (6, [.ref hL, .ref hR, .int rs])), (hO, .inr (0, [.ref aO, .int (nI io), .int (nI Lo2.length)])), (aO, .inl (cI, nO, .inl fo2)), (hL, .inr (11, [.ref tE, .int (nI 0), .int mo])), (hR, .inr (0, [.ref aR, .int (nI j1), .int (nI L4.tail.length)])), (aR, .inl (cI, 366, .inl f))] ++ Ls.flatten) _ := hP
      have hD : va_D A ([(h, .inr (6, [.ref hL, .ref hR, .int rs])), (hO, .inr (0, [.ref aO, .int (nI io), .int (nI Lo2.length)])), (aO, .inl (cI, nO, .inl fo2)), (hL, .inr (11, [.ref tE, .int (nI 0), .int mo])), (hR, .inr (0, [.ref aR, .int (nI j1), .int (nI L4.tail.length)])), (aR, .inl (cI, 366, .inl f))] ++ Ls.flatten) := hD
      have hc := fq_cutT (X := [(h, .inr (6, [.ref hL, .ref hR, .int rs])), (hO, .inr (0, [.ref aO, .int (nI io), .int (nI Lo2.length)])), (aO, .inl (cI, nO, .inl fo2)), (hL, .inr (11, [.ref tE, .int (nI 0), .int mo])), (hR, .inr (0, [.ref aR, .int (nI j1), .int (nI L4.tail.length)])), (aR, .inl (cI, 366, .inl f))]) (T := Ls.flatten) (cx := [(hO, .inr (0, [.ref aO, .int (nI io), .int (nI Lo2.length)])), (aO, .inl (cI, nO, .inl fo2))]) hP hD hS hA [1, 2] (by decide) rfl
      refine fq_cvT (wr := [(h, .inr (6, [.ref hL, .ref hR, .int rs])), (hL, .inr (11, [.ref tE, .int (nI 0), .int mo])), (hR, .inr (0, [.ref aR, .int (nI j1), .int (nI L4.tail.length)])), (aR, .inl (cI, 366, .inl f))]) (fq_rV K hK hZ hS hc (ct_Row_add l D cI cO tE hO aO nO fo2 io Lo2 (L4.headD 0) hI86.2.2.2.1 _) yk_Row_add wd_554 wd_555 wd_606 0 rfl rfl rfl ⟨⟨rfl, rfl⟩, ⟨Nat.le_of_ble_eq_true rfl, Nat.le_of_ble_eq_true rfl⟩, ⟨Nat.le_of_ble_eq_true rfl, Nat.le_of_ble_eq_true rfl⟩⟩ hl.1 rfl (Nat.le_of_ble_eq_true rfl) dc_Chain_passThrough_100) hP hD hS hc [1, 2] [0, 3, 4, 5] rfl rfl (by decide) (by decide) (fun  w H locs hw4 hP hD hS => ?_)
      obtain ⟨g1, rfl, hrow2⟩ := hw4
      have hP : va_P D fq_cl ([(h, .inr (6, [.ref hL, .ref hR, .int rs])), (hL, .inr (11, [.ref tE, .int (nI 0), .int mo])), (hR, .inr (0, [.ref aR, .int (nI j1), .int (nI L4.tail.length)])), (aR, .inl (cI, 366, .inl f)), (hO, .inr (0, [.ref aO, .int (nI io), .int (nI (rw_put nO Lo2 (L4.headD 0)).length)])), (aO, .inl (cI, nO, .inl g1))] ++ Ls.flatten) _ := hP
      have hD : va_D A ([(h, .inr (6, [.ref hL, .ref hR, .int rs])), (hL, .inr (11, [.ref tE, .int (nI 0), .int mo])), (hR, .inr (0, [.ref aR, .int (nI j1), .int (nI L4.tail.length)])), (aR, .inl (cI, 366, .inl f)), (hO, .inr (0, [.ref aO, .int (nI io), .int (nI (rw_put nO Lo2 (L4.headD 0)).length)])), (aO, .inl (cI, nO, .inl g1))] ++ Ls.flatten) := hD
      refine lv_iinc (v := nI (j + 1)) K.1 K.2.1 dc_Chain_passThrough_103 hl (k := 3) rfl (nI_1 j) (by decide) rfl (fun ls hl => ?_)
      have hl : lv_has ls 7 [(4, .int (nI (j + 1))), (0, .ref h), (2, .ref hO), (3, .int (nI L.length))] := hl
      refine lv_goto (tgt := 86) K.1 K.2.1 dc_Chain_passThrough_106 rfl ?_
      have hP := va_P.part (X := [(h, .inr (6, [.ref hL, .ref hR, .int rs])), (hL, .inr (11, [.ref tE, .int (nI 0), .int mo])), (hR, .inr (0, [.ref aR, .int (nI j1), .int (nI L4.tail.length)])), (aR, .inl (cI, 366, .inl f)), (hO, .inr (0, [.ref aO, .int (nI io), .int (nI (rw_put nO Lo2 (L4.headD 0)).length)])), (aO, .inl (cI, nO, .inl g1))]) (cx := [(h, .inr (6, [.ref hL, .ref hR, .int rs])), (hR, .inr (0, [.ref aR, .int (nI j1), .int (nI L4.tail.length)])), (aR, .inl (cI, 366, .inl f)), (hO, .inr (0, [.ref aO, .int (nI io), .int (nI (rw_put nO Lo2 (L4.headD 0)).length)])), (aO, .inl (cI, nO, .inl g1)), (hL, .inr (11, [.ref tE, .int (nI 0), .int mo]))]) hP [0, 2, 3, 4, 5, 1] rfl
      have hD := va_D.part (X := [(h, .inr (6, [.ref hL, .ref hR, .int rs])), (hL, .inr (11, [.ref tE, .int (nI 0), .int mo])), (hR, .inr (0, [.ref aR, .int (nI j1), .int (nI L4.tail.length)])), (aR, .inl (cI, 366, .inl f)), (hO, .inr (0, [.ref aO, .int (nI io), .int (nI (rw_put nO Lo2 (L4.headD 0)).length)])), (aO, .inl (cI, nO, .inl g1))]) (cx := [(h, .inr (6, [.ref hL, .ref hR, .int rs])), (hR, .inr (0, [.ref aR, .int (nI j1), .int (nI L4.tail.length)])), (aR, .inl (cI, 366, .inl f)), (hO, .inr (0, [.ref aO, .int (nI io), .int (nI (rw_put nO Lo2 (L4.headD 0)).length)])), (aO, .inl (cI, nO, .inl g1)), (hL, .inr (11, [.ref tE, .int (nI 0), .int mo]))]) hD [0, 2, 3, 4, 5, 1] (by decide) rfl
      exact ih86 (j + 1, j1, L4.tail, g1, rw_put nO Lo2 (L4.headD 0)) _ _ _ (by show L.length - (j + 1) < L.length - j; omega) ⟨ps_out hI86 hj hrow1 hrow2 (ps_cap0 hnil hfr hcapO), lv_sub hl [1, 2, 3, 0] rfl, hP, hD, hS⟩
  · skip
    have hfl : fr ≤ 5 := by omega
    have hP : va_P D fq_cl ([(h, .inr (6, [.ref hL, .ref hR, .int rs])), (hR, .inr (0, [.ref aR, .int (nI i), .int (nI L.length)])), (aR, .inl (cI, 366, .inl f)), (hO, .inr (0, [.ref aO, .int (nI io), .int (nI Lo.length)])), (aO, .inl (cI, nO, .inl fo)), (hL, .inr (11, [.ref eE, .int (nI sts.length), .int mo])), (eE, .inl (cO, 10, .inr (.inr (.inr (.inr fE)))))] ++ Ls.flatten) _ := hP
    have hD : va_D A ([(h, .inr (6, [.ref hL, .ref hR, .int rs])), (hR, .inr (0, [.ref aR, .int (nI i), .int (nI L.length)])), (aR, .inl (cI, 366, .inl f)), (hO, .inr (0, [.ref aO, .int (nI io), .int (nI Lo.length)])), (aO, .inl (cI, nO, .inl fo)), (hL, .inr (11, [.ref eE, .int (nI sts.length), .int mo])), (eE, .inl (cO, 10, .inr (.inr (.inr (.inr fE)))))] ++ Ls.flatten) := hD
    refine lv_iload_n K.1 K.2.1 dc_Chain_passThrough_0 rfl (lv_at hl 1 rfl) ?_
    refine lv_istore_n K.1 K.2.1 dc_Chain_passThrough_1 rfl hl (by decide) rfl (fun ls hl => ?_)
    have hl : lv_has ls 7 [(3, .int (nI fr)), (0, .ref h), (1, .int (nI fr)), (2, .ref hO)] := hl
    refine fq_lp (σ := Nat × (Nat → Int32) × Nat × List Int32 × List va_W × List ch_T) (fun x => sts.length - x.1) (fun x H locs ls => (fr ≤ x.1 ∧ x.1 ≤ sts.length ∧ rw_ok 366 x.2.1 x.2.2.1 x.2.2.2.1 ∧ (x.2.2.2.2.2, x.2.2.2.1.map Int32.toInt) = ch_it sts fr (L.map Int32.toInt) (x.1 - fr) ∧ ch_ok cI x.2.2.2.2.1 x.2.2.2.2.2) ∧ lv_has ls 7 [(0, .ref h), (1, .int (nI fr)), (2, .ref hO), (3, .int (nI x.1))] ∧ va_P D fq_cl ([(h, .inr (6, [.ref hL, .ref hR, .int rs])), (hR, .inr (0, [.ref aR, .int (nI x.2.2.1), .int (nI x.2.2.2.1.length)])), (aR, .inl (cI, 366, .inl x.2.1)), (hO, .inr (0, [.ref aO, .int (nI io), .int (nI Lo.length)])), (aO, .inl (cI, nO, .inl fo)), (hL, .inr (11, [.ref eE, .int (nI sts.length), .int mo])), (eE, .inl (cO, 10, .inr (.inr (.inr (.inr fE)))))] ++ x.2.2.2.2.1.flatten) H ∧ va_D A ([(h, .inr (6, [.ref hL, .ref hR, .int rs])), (hR, .inr (0, [.ref aR, .int (nI x.2.2.1), .int (nI x.2.2.2.1.length)])), (aR, .inl (cI, 366, .inl x.2.1)), (hO, .inr (0, [.ref aO, .int (nI io), .int (nI Lo.length)])), (aO, .inl (cI, nO, .inl fo)), (hL, .inr (11, [.ref eE, .int (nI sts.length), .int mo])), (eE, .inl (cO, 10, .inr (.inr (.inr (.inr fE)))))] ++ x.2.2.2.2.1.flatten) ∧ va_S A s.heap H locs) ?_ (fr, f, i, L, Ls, sts) _ _ _ ⟨⟨Nat.le_refl _, hfr, hrow, by rw [Nat.sub_self]; rfl, hch⟩, lv_sub hl [1, 2, 3, 0] rfl, hP, hD, hS⟩
    rintro ⟨a, ff, ii, LL, Lc, stt⟩ H locs ls ⟨hI2, hl, hP, hD, hS⟩ ih2
    have hI2 : fr ≤ a ∧ a ≤ sts.length ∧ rw_ok 366 ff ii LL ∧ (stt, LL.map Int32.toInt) = ch_it sts fr (L.map Int32.toInt) (a - fr) ∧ ch_ok cI Lc stt := hI2
    have hl : lv_has ls 7 [(0, .ref h), (1, .int (nI fr)), (2, .ref hO), (3, .int (nI a))] := hl
    have hP : va_P D fq_cl ([(h, .inr (6, [.ref hL, .ref hR, .int rs])), (hR, .inr (0, [.ref aR, .int (nI ii), .int (nI LL.length)])), (aR, .inl (cI, 366, .inl ff)), (hO, .inr (0, [.ref aO, .int (nI io), .int (nI Lo.length)])), (aO, .inl (cI, nO, .inl fo)), (hL, .inr (11, [.ref eE, .int (nI sts.length), .int mo])), (eE, .inl (cO, 10, .inr (.inr (.inr (.inr fE)))))] ++ Lc.flatten) _ := hP
    have hD : va_D A ([(h, .inr (6, [.ref hL, .ref hR, .int rs])), (hR, .inr (0, [.ref aR, .int (nI ii), .int (nI LL.length)])), (aR, .inl (cI, 366, .inl ff)), (hO, .inr (0, [.ref aO, .int (nI io), .int (nI Lo.length)])), (aO, .inl (cI, nO, .inl fo)), (hL, .inr (11, [.ref eE, .int (nI sts.length), .int mo])), (eE, .inl (cO, 10, .inr (.inr (.inr (.inr fE)))))] ++ Lc.flatten) := hD
    refine lv_iload_n K.1 K.2.1 dc_Chain_passThrough_2 rfl (lv_at hl 3 rfl) ?_
    refine lv_aload_n K.1 K.2.1 dc_Chain_passThrough_3 rfl (lv_at hl 0 rfl) ?_
    refine fq_get K hK cl_Chain hP 0 0 rfl (by decide) wd_105 rfl dc_Chain_passThrough_4 ?_
    have hc := fq_cutT (X := [(h, .inr (6, [.ref hL, .ref hR, .int rs])), (hR, .inr (0, [.ref aR, .int (nI ii), .int (nI LL.length)])), (aR, .inl (cI, 366, .inl ff)), (hO, .inr (0, [.ref aO, .int (nI io), .int (nI Lo.length)])), (aO, .inl (cI, nO, .inl fo)), (hL, .inr (11, [.ref eE, .int (nI sts.length), .int mo])), (eE, .inl (cO, 10, .inr (.inr (.inr (.inr fE)))))]) (T := Lc.flatten) (cx := [(hL, .inr (11, [.ref eE, .int (nI sts.length), .int mo]))]) hP hD hS hA [5] (by decide) rfl
    refine fq_ciT (wr := [(h, .inr (6, [.ref hL, .ref hR, .int rs])), (hR, .inr (0, [.ref aR, .int (nI ii), .int (nI LL.length)])), (aR, .inl (cI, 366, .inl ff)), (hO, .inr (0, [.ref aO, .int (nI io), .int (nI Lo.length)])), (aO, .inl (cI, nO, .inl fo)), (eE, .inl (cO, 10, .inr (.inr (.inr (.inr fE)))))]) (fq_rV K hK hZ hS hc (ct_AL_size l D cI cO tE hL eE (nI sts.length) mo _) yk_AL_size wd_229 wd_230 wd_228 0 rfl rfl rfl ⟨⟨rfl, rfl⟩, ⟨Nat.le_of_ble_eq_true rfl, Nat.le_of_ble_eq_true rfl⟩, ⟨Nat.le_of_ble_eq_true rfl, Nat.le_of_ble_eq_true rfl⟩⟩ hl.1 rfl (Nat.le_of_ble_eq_true rfl) dc_Chain_passThrough_7) hP hD hS hc [5] [0, 1, 2, 3, 4, 6] rfl rfl (by decide) (by decide) (fun r4 w H locs hw5 hP hD hS => ?_)
    obtain ⟨rfl, rfl⟩ := hw5
    have hP : va_P D fq_cl ([(h, .inr (6, [.ref hL, .ref hR, .int rs])), (hR, .inr (0, [.ref aR, .int (nI ii), .int (nI LL.length)])), (aR, .inl (cI, 366, .inl ff)), (hO, .inr (0, [.ref aO, .int (nI io), .int (nI Lo.length)])), (aO, .inl (cI, nO, .inl fo)), (eE, .inl (cO, 10, .inr (.inr (.inr (.inr fE))))), (hL, .inr (11, [.ref eE, .int (nI sts.length), .int mo]))] ++ Lc.flatten) _ := hP
    have hD : va_D A ([(h, .inr (6, [.ref hL, .ref hR, .int rs])), (hR, .inr (0, [.ref aR, .int (nI ii), .int (nI LL.length)])), (aR, .inl (cI, 366, .inl ff)), (hO, .inr (0, [.ref aO, .int (nI io), .int (nI Lo.length)])), (aO, .inl (cI, nO, .inl fo)), (eE, .inl (cO, 10, .inr (.inr (.inr (.inr fE))))), (hL, .inr (11, [.ref eE, .int (nI sts.length), .int mo]))] ++ Lc.flatten) := hD
    refine lv_icmp_ge (tgt := 75) K.1 K.2.1 dc_Chain_passThrough_10 rfl (fun b10 => ?_) (fun b10 => ?_)
    · skip
      have ha : a = sts.length := by rw [nI_leI (by omega) (by omega)] at b10; omega
      have hLL := (ps_fit hI2 hfit).1
      refine lv_aload_n K.1 K.2.1 dc_Chain_passThrough_75 rfl (lv_at hl 0 rfl) ?_
      refine fq_get K hK cl_Chain hP 0 1 rfl (by decide) wd_106 rfl dc_Chain_passThrough_76 ?_
      have hc := fq_cutT (X := [(h, .inr (6, [.ref hL, .ref hR, .int rs])), (hR, .inr (0, [.ref aR, .int (nI ii), .int (nI LL.length)])), (aR, .inl (cI, 366, .inl ff)), (hO, .inr (0, [.ref aO, .int (nI io), .int (nI Lo.length)])), (aO, .inl (cI, nO, .inl fo)), (eE, .inl (cO, 10, .inr (.inr (.inr (.inr fE))))), (hL, .inr (11, [.ref eE, .int (nI sts.length), .int mo]))]) (T := Lc.flatten) (cx := [(hR, .inr (0, [.ref aR, .int (nI ii), .int (nI LL.length)])), (aR, .inl (cI, 366, .inl ff))]) hP hD hS hA [1, 2] (by decide) rfl
      refine fq_ciT (wr := [(h, .inr (6, [.ref hL, .ref hR, .int rs])), (hO, .inr (0, [.ref aO, .int (nI io), .int (nI Lo.length)])), (aO, .inl (cI, nO, .inl fo)), (eE, .inl (cO, 10, .inr (.inr (.inr (.inr fE))))), (hL, .inr (11, [.ref eE, .int (nI sts.length), .int mo]))]) (fq_rV K hK hZ hS hc (ct_Row_size l D cI cO tE hR aR 366 ff ii LL hI2.2.2.1 _) yk_Row_size wd_574 wd_575 wd_611 0 rfl rfl rfl ⟨⟨rfl, rfl⟩, ⟨Nat.le_of_ble_eq_true rfl, Nat.le_of_ble_eq_true rfl⟩, ⟨Nat.le_of_ble_eq_true rfl, Nat.le_of_ble_eq_true rfl⟩⟩ hl.1 rfl (Nat.le_of_ble_eq_true rfl) dc_Chain_passThrough_79) hP hD hS hc [1, 2] [0, 3, 4, 5, 6] rfl rfl (by decide) (by decide) (fun r5 w H locs hw6 hP hD hS => ?_)
      obtain ⟨rfl, rfl⟩ := hw6
      have hP : va_P D fq_cl ([(h, .inr (6, [.ref hL, .ref hR, .int rs])), (hO, .inr (0, [.ref aO, .int (nI io), .int (nI Lo.length)])), (aO, .inl (cI, nO, .inl fo)), (eE, .inl (cO, 10, .inr (.inr (.inr (.inr fE))))), (hL, .inr (11, [.ref eE, .int (nI sts.length), .int mo])), (hR, .inr (0, [.ref aR, .int (nI ii), .int (nI LL.length)])), (aR, .inl (cI, 366, .inl ff))] ++ Lc.flatten) _ := hP
      have hD : va_D A ([(h, .inr (6, [.ref hL, .ref hR, .int rs])), (hO, .inr (0, [.ref aO, .int (nI io), .int (nI Lo.length)])), (aO, .inl (cI, nO, .inl fo)), (eE, .inl (cO, 10, .inr (.inr (.inr (.inr fE))))), (hL, .inr (11, [.ref eE, .int (nI sts.length), .int mo])), (hR, .inr (0, [.ref aR, .int (nI ii), .int (nI LL.length)])), (aR, .inl (cI, 366, .inl ff))] ++ Lc.flatten) := hD
      refine lv_istore_n K.1 K.2.1 dc_Chain_passThrough_82 rfl hl (by decide) rfl (fun ls hl => ?_)
      have hl : lv_has ls 7 [(3, .int (nI LL.length)), (0, .ref h), (1, .int (nI fr)), (2, .ref hO)] := hl
      refine lv_iconst (v := 0) K.1 K.2.1 dc_Chain_passThrough_83 (by decide) ?_
      refine lv_istore K.1 K.2.1 dc_Chain_passThrough_84 hl (by decide) rfl (fun ls hl => ?_)
      have hl : lv_has ls 7 [(4, .int 0), (3, .int (nI LL.length)), (0, .ref h), (1, .int (nI fr)), (2, .ref hO)] := hl
      have hP := va_P.part (X := [(h, .inr (6, [.ref hL, .ref hR, .int rs])), (hO, .inr (0, [.ref aO, .int (nI io), .int (nI Lo.length)])), (aO, .inl (cI, nO, .inl fo)), (eE, .inl (cO, 10, .inr (.inr (.inr (.inr fE))))), (hL, .inr (11, [.ref eE, .int (nI sts.length), .int mo])), (hR, .inr (0, [.ref aR, .int (nI ii), .int (nI LL.length)])), (aR, .inl (cI, 366, .inl ff))]) (cx := [(h, .inr (6, [.ref hL, .ref hR, .int rs])), (hR, .inr (0, [.ref aR, .int (nI ii), .int (nI LL.length)])), (aR, .inl (cI, 366, .inl ff)), (hO, .inr (0, [.ref aO, .int (nI io), .int (nI Lo.length)])), (aO, .inl (cI, nO, .inl fo)), (hL, .inr (11, [.ref eE, .int (nI sts.length), .int mo])), (eE, .inl (cO, 10, .inr (.inr (.inr (.inr fE)))))]) hP [0, 5, 6, 1, 2, 4, 3] rfl
      have hD := va_D.part (X := [(h, .inr (6, [.ref hL, .ref hR, .int rs])), (hO, .inr (0, [.ref aO, .int (nI io), .int (nI Lo.length)])), (aO, .inl (cI, nO, .inl fo)), (eE, .inl (cO, 10, .inr (.inr (.inr (.inr fE))))), (hL, .inr (11, [.ref eE, .int (nI sts.length), .int mo])), (hR, .inr (0, [.ref aR, .int (nI ii), .int (nI LL.length)])), (aR, .inl (cI, 366, .inl ff))]) (cx := [(h, .inr (6, [.ref hL, .ref hR, .int rs])), (hR, .inr (0, [.ref aR, .int (nI ii), .int (nI LL.length)])), (aR, .inl (cI, 366, .inl ff)), (hO, .inr (0, [.ref aO, .int (nI io), .int (nI Lo.length)])), (aO, .inl (cI, nO, .inl fo)), (hL, .inr (11, [.ref eE, .int (nI sts.length), .int mo])), (eE, .inl (cO, 10, .inr (.inr (.inr (.inr fE)))))]) hD [0, 5, 6, 1, 2, 4, 3] (by decide) rfl
      refine fq_lp (σ := Nat × Nat × List Int32 × (Nat → Int32) × List Int32) (fun x => LL.length - x.1) (fun x H locs ls => (x.1 ≤ LL.length ∧ rw_ok 366 ff x.2.1 x.2.2.1 ∧ x.2.2.1 = LL.drop x.1 ∧ rw_ok nO x.2.2.2.1 io x.2.2.2.2 ∧ x.2.2.2.2 = Lo ++ LL.take x.1) ∧ lv_has ls 7 [(0, .ref h), (2, .ref hO), (3, .int (nI LL.length)), (4, .int (nI x.1))] ∧ va_P D fq_cl ([(h, .inr (6, [.ref hL, .ref hR, .int rs])), (hR, .inr (0, [.ref aR, .int (nI x.2.1), .int (nI x.2.2.1.length)])), (aR, .inl (cI, 366, .inl ff)), (hO, .inr (0, [.ref aO, .int (nI io), .int (nI x.2.2.2.2.length)])), (aO, .inl (cI, nO, .inl x.2.2.2.1)), (hL, .inr (11, [.ref eE, .int (nI sts.length), .int mo])), (eE, .inl (cO, 10, .inr (.inr (.inr (.inr fE)))))] ++ Lc.flatten) H ∧ va_D A ([(h, .inr (6, [.ref hL, .ref hR, .int rs])), (hR, .inr (0, [.ref aR, .int (nI x.2.1), .int (nI x.2.2.1.length)])), (aR, .inl (cI, 366, .inl ff)), (hO, .inr (0, [.ref aO, .int (nI io), .int (nI x.2.2.2.2.length)])), (aO, .inl (cI, nO, .inl x.2.2.2.1)), (hL, .inr (11, [.ref eE, .int (nI sts.length), .int mo])), (eE, .inl (cO, 10, .inr (.inr (.inr (.inr fE)))))] ++ Lc.flatten) ∧ va_S A s.heap H locs) ?_ (0, ii, LL, fo, Lo) _ _ _ ⟨⟨Nat.zero_le _, hI2.2.2.1, rfl, hrowO, (List.append_nil _).symm⟩, lv_sub hl [2, 4, 1, 0] rfl, hP, hD, hS⟩
      rintro ⟨j, i3, L4, fo2, Lo2⟩ H locs ls ⟨hI86, hl, hP, hD, hS⟩ ih86
      have hI86 : j ≤ LL.length ∧ rw_ok 366 ff i3 L4 ∧ L4 = LL.drop j ∧ rw_ok nO fo2 io Lo2 ∧ Lo2 = Lo ++ LL.take j := hI86
      have hl : lv_has ls 7 [(0, .ref h), (2, .ref hO), (3, .int (nI LL.length)), (4, .int (nI j))] := hl
      have hP : va_P D fq_cl ([(h, .inr (6, [.ref hL, .ref hR, .int rs])), (hR, .inr (0, [.ref aR, .int (nI i3), .int (nI L4.length)])), (aR, .inl (cI, 366, .inl ff)), (hO, .inr (0, [.ref aO, .int (nI io), .int (nI Lo2.length)])), (aO, .inl (cI, nO, .inl fo2)), (hL, .inr (11, [.ref eE, .int (nI sts.length), .int mo])), (eE, .inl (cO, 10, .inr (.inr (.inr (.inr fE)))))] ++ Lc.flatten) _ := hP
      have hD : va_D A ([(h, .inr (6, [.ref hL, .ref hR, .int rs])), (hR, .inr (0, [.ref aR, .int (nI i3), .int (nI L4.length)])), (aR, .inl (cI, 366, .inl ff)), (hO, .inr (0, [.ref aO, .int (nI io), .int (nI Lo2.length)])), (aO, .inl (cI, nO, .inl fo2)), (hL, .inr (11, [.ref eE, .int (nI sts.length), .int mo])), (eE, .inl (cO, 10, .inr (.inr (.inr (.inr fE)))))] ++ Lc.flatten) := hD
      refine lv_iload K.1 K.2.1 dc_Chain_passThrough_86 (lv_at hl 3 rfl) ?_
      refine lv_iload_n K.1 K.2.1 dc_Chain_passThrough_88 rfl (lv_at hl 2 rfl) ?_
      refine lv_icmp_ge (tgt := 109) K.1 K.2.1 dc_Chain_passThrough_89 rfl (fun b89 => ?_) (fun b89 => ?_)
      · skip
        have hj : j = LL.length := by rw [nI_leI (by omega) (by omega)] at b89; omega
        have hP : va_P D fq_cl ([(h, .inr (6, [.ref hL, .ref hR, .int rs])), (hR, .inr (0, [.ref aR, .int (nI i3), .int (nI L4.length)])), (aR, .inl (cI, 366, .inl ff)), (hO, .inr (0, [.ref aO, .int (nI io), .int (nI Lo2.length)])), (aO, .inl (cI, nO, .inl fo2))] ++ ([(hL, .inr (11, [.ref eE, .int (nI sts.length), .int mo])), (eE, .inl (cO, 10, .inr (.inr (.inr (.inr fE)))))] :: Lc).flatten) _ := hP
        have hD : va_D A ([(h, .inr (6, [.ref hL, .ref hR, .int rs])), (hR, .inr (0, [.ref aR, .int (nI i3), .int (nI L4.length)])), (aR, .inl (cI, 366, .inl ff)), (hO, .inr (0, [.ref aO, .int (nI io), .int (nI Lo2.length)])), (aO, .inl (cI, nO, .inl fo2))] ++ ([(hL, .inr (11, [.ref eE, .int (nI sts.length), .int mo])), (eE, .inl (cO, 10, .inr (.inr (.inr (.inr fE)))))] :: Lc).flatten) := hD
        exact fq_retv K hret hlk hS hP hD (ps_end hI2 ha hI86 hj) dc_Chain_passThrough_109 (Nat.le_of_ble_eq_true rfl) (Nat.le_of_ble_eq_true rfl)
      · skip
        have hj : j < LL.length := by rw [nI_leI (by omega) (by omega)] at b89; omega
        refine lv_aload_n K.1 K.2.1 dc_Chain_passThrough_92 rfl (lv_at hl 1 rfl) ?_
        refine lv_aload_n K.1 K.2.1 dc_Chain_passThrough_93 rfl (lv_at hl 0 rfl) ?_
        refine fq_get K hK cl_Chain hP 0 1 rfl (by decide) wd_106 rfl dc_Chain_passThrough_94 ?_
        have hc := fq_cutT (X := [(h, .inr (6, [.ref hL, .ref hR, .int rs])), (hR, .inr (0, [.ref aR, .int (nI i3), .int (nI L4.length)])), (aR, .inl (cI, 366, .inl ff)), (hO, .inr (0, [.ref aO, .int (nI io), .int (nI Lo2.length)])), (aO, .inl (cI, nO, .inl fo2)), (hL, .inr (11, [.ref eE, .int (nI sts.length), .int mo])), (eE, .inl (cO, 10, .inr (.inr (.inr (.inr fE)))))]) (T := Lc.flatten) (cx := [(hR, .inr (0, [.ref aR, .int (nI i3), .int (nI L4.length)])), (aR, .inl (cI, 366, .inl ff))]) hP hD hS hA [1, 2] (by decide) rfl
        refine fq_ciT (wr := [(h, .inr (6, [.ref hL, .ref hR, .int rs])), (hO, .inr (0, [.ref aO, .int (nI io), .int (nI Lo2.length)])), (aO, .inl (cI, nO, .inl fo2)), (hL, .inr (11, [.ref eE, .int (nI sts.length), .int mo])), (eE, .inl (cO, 10, .inr (.inr (.inr (.inr fE)))))]) (fq_rV K hK hZ hS hc (ct_Row_takeOldest l D cI cO tE hR aR 366 ff i3 L4 hI86.2.1 _) yk_Row_takeOldest wd_583 wd_584 wd_612 0 rfl rfl rfl ⟨⟨rfl, rfl⟩, ⟨Nat.le_of_ble_eq_true rfl, Nat.le_of_ble_eq_true rfl⟩, ⟨Nat.le_of_ble_eq_true rfl, Nat.le_of_ble_eq_true rfl⟩⟩ hl.1 rfl (Nat.le_of_ble_eq_true rfl) dc_Chain_passThrough_97) hP hD hS hc [1, 2] [0, 3, 4, 5, 6] rfl rfl (by decide) (by decide) (fun r6 w H locs hw7 hP hD hS => ?_)
        obtain ⟨j2, rfl, rfl, hrow3⟩ := hw7
        have hP : va_P D fq_cl ([(h, .inr (6, [.ref hL, .ref hR, .int rs])), (hO, .inr (0, [.ref aO, .int (nI io), .int (nI Lo2.length)])), (aO, .inl (cI, nO, .inl fo2)), (hL, .inr (11, [.ref eE, .int (nI sts.length), .int mo])), (eE, .inl (cO, 10, .inr (.inr (.inr (.inr fE))))), (hR, .inr (0, [.ref aR, .int (nI j2), .int (nI L4.tail.length)])), (aR, .inl (cI, 366, .inl ff))] ++ Lc.flatten) _ := hP
        have hD : va_D A ([(h, .inr (6, [.ref hL, .ref hR, .int rs])), (hO, .inr (0, [.ref aO, .int (nI io), .int (nI Lo2.length)])), (aO, .inl (cI, nO, .inl fo2)), (hL, .inr (11, [.ref eE, .int (nI sts.length), .int mo])), (eE, .inl (cO, 10, .inr (.inr (.inr (.inr fE))))), (hR, .inr (0, [.ref aR, .int (nI j2), .int (nI L4.tail.length)])), (aR, .inl (cI, 366, .inl ff))] ++ Lc.flatten) := hD
        have hc := fq_cutT (X := [(h, .inr (6, [.ref hL, .ref hR, .int rs])), (hO, .inr (0, [.ref aO, .int (nI io), .int (nI Lo2.length)])), (aO, .inl (cI, nO, .inl fo2)), (hL, .inr (11, [.ref eE, .int (nI sts.length), .int mo])), (eE, .inl (cO, 10, .inr (.inr (.inr (.inr fE))))), (hR, .inr (0, [.ref aR, .int (nI j2), .int (nI L4.tail.length)])), (aR, .inl (cI, 366, .inl ff))]) (T := Lc.flatten) (cx := [(hO, .inr (0, [.ref aO, .int (nI io), .int (nI Lo2.length)])), (aO, .inl (cI, nO, .inl fo2))]) hP hD hS hA [1, 2] (by decide) rfl
        refine fq_cvT (wr := [(h, .inr (6, [.ref hL, .ref hR, .int rs])), (hL, .inr (11, [.ref eE, .int (nI sts.length), .int mo])), (eE, .inl (cO, 10, .inr (.inr (.inr (.inr fE))))), (hR, .inr (0, [.ref aR, .int (nI j2), .int (nI L4.tail.length)])), (aR, .inl (cI, 366, .inl ff))]) (fq_rV K hK hZ hS hc (ct_Row_add l D cI cO tE hO aO nO fo2 io Lo2 (L4.headD 0) hI86.2.2.2.1 _) yk_Row_add wd_554 wd_555 wd_606 0 rfl rfl rfl ⟨⟨rfl, rfl⟩, ⟨Nat.le_of_ble_eq_true rfl, Nat.le_of_ble_eq_true rfl⟩, ⟨Nat.le_of_ble_eq_true rfl, Nat.le_of_ble_eq_true rfl⟩⟩ hl.1 rfl (Nat.le_of_ble_eq_true rfl) dc_Chain_passThrough_100) hP hD hS hc [1, 2] [0, 3, 4, 5, 6] rfl rfl (by decide) (by decide) (fun  w H locs hw8 hP hD hS => ?_)
        obtain ⟨g2, rfl, hrow4⟩ := hw8
        have hP : va_P D fq_cl ([(h, .inr (6, [.ref hL, .ref hR, .int rs])), (hL, .inr (11, [.ref eE, .int (nI sts.length), .int mo])), (eE, .inl (cO, 10, .inr (.inr (.inr (.inr fE))))), (hR, .inr (0, [.ref aR, .int (nI j2), .int (nI L4.tail.length)])), (aR, .inl (cI, 366, .inl ff)), (hO, .inr (0, [.ref aO, .int (nI io), .int (nI (rw_put nO Lo2 (L4.headD 0)).length)])), (aO, .inl (cI, nO, .inl g2))] ++ Lc.flatten) _ := hP
        have hD : va_D A ([(h, .inr (6, [.ref hL, .ref hR, .int rs])), (hL, .inr (11, [.ref eE, .int (nI sts.length), .int mo])), (eE, .inl (cO, 10, .inr (.inr (.inr (.inr fE))))), (hR, .inr (0, [.ref aR, .int (nI j2), .int (nI L4.tail.length)])), (aR, .inl (cI, 366, .inl ff)), (hO, .inr (0, [.ref aO, .int (nI io), .int (nI (rw_put nO Lo2 (L4.headD 0)).length)])), (aO, .inl (cI, nO, .inl g2))] ++ Lc.flatten) := hD
        refine lv_iinc (v := nI (j + 1)) K.1 K.2.1 dc_Chain_passThrough_103 hl (k := 3) rfl (nI_1 j) (by decide) rfl (fun ls hl => ?_)
        have hl : lv_has ls 7 [(4, .int (nI (j + 1))), (0, .ref h), (2, .ref hO), (3, .int (nI LL.length))] := hl
        refine lv_goto (tgt := 86) K.1 K.2.1 dc_Chain_passThrough_106 rfl ?_
        have hP := va_P.part (X := [(h, .inr (6, [.ref hL, .ref hR, .int rs])), (hL, .inr (11, [.ref eE, .int (nI sts.length), .int mo])), (eE, .inl (cO, 10, .inr (.inr (.inr (.inr fE))))), (hR, .inr (0, [.ref aR, .int (nI j2), .int (nI L4.tail.length)])), (aR, .inl (cI, 366, .inl ff)), (hO, .inr (0, [.ref aO, .int (nI io), .int (nI (rw_put nO Lo2 (L4.headD 0)).length)])), (aO, .inl (cI, nO, .inl g2))]) (cx := [(h, .inr (6, [.ref hL, .ref hR, .int rs])), (hR, .inr (0, [.ref aR, .int (nI j2), .int (nI L4.tail.length)])), (aR, .inl (cI, 366, .inl ff)), (hO, .inr (0, [.ref aO, .int (nI io), .int (nI (rw_put nO Lo2 (L4.headD 0)).length)])), (aO, .inl (cI, nO, .inl g2)), (hL, .inr (11, [.ref eE, .int (nI sts.length), .int mo])), (eE, .inl (cO, 10, .inr (.inr (.inr (.inr fE)))))]) hP [0, 3, 4, 5, 6, 1, 2] rfl
        have hD := va_D.part (X := [(h, .inr (6, [.ref hL, .ref hR, .int rs])), (hL, .inr (11, [.ref eE, .int (nI sts.length), .int mo])), (eE, .inl (cO, 10, .inr (.inr (.inr (.inr fE))))), (hR, .inr (0, [.ref aR, .int (nI j2), .int (nI L4.tail.length)])), (aR, .inl (cI, 366, .inl ff)), (hO, .inr (0, [.ref aO, .int (nI io), .int (nI (rw_put nO Lo2 (L4.headD 0)).length)])), (aO, .inl (cI, nO, .inl g2))]) (cx := [(h, .inr (6, [.ref hL, .ref hR, .int rs])), (hR, .inr (0, [.ref aR, .int (nI j2), .int (nI L4.tail.length)])), (aR, .inl (cI, 366, .inl ff)), (hO, .inr (0, [.ref aO, .int (nI io), .int (nI (rw_put nO Lo2 (L4.headD 0)).length)])), (aO, .inl (cI, nO, .inl g2)), (hL, .inr (11, [.ref eE, .int (nI sts.length), .int mo])), (eE, .inl (cO, 10, .inr (.inr (.inr (.inr fE)))))]) hD [0, 3, 4, 5, 6, 1, 2] (by decide) rfl
        exact ih86 (j + 1, j2, L4.tail, g2, rw_put nO Lo2 (L4.headD 0)) _ _ _ (by show LL.length - (j + 1) < LL.length - j; omega) ⟨ps_out hI86 hj hrow3 hrow4 (ps_cap hI2 ha hcapO), lv_sub hl [1, 2, 3, 0] rfl, hP, hD, hS⟩
    · skip
      have ha : a < sts.length := by rw [nI_leI (by omega) (by omega)] at b10; omega
      obtain ⟨⟨hS0, sp, xs, m0⟩, hset0⟩ := ps_some ha
      obtain ⟨gc, hgc, hsgc⟩ := ch_get hI2.2.2.2.2 (ps_cur hI2 hset0)
      have hLL := (ps_fit hI2 hfit).1
      refine lv_aload_n K.1 K.2.1 dc_Chain_passThrough_13 rfl (lv_at hl 0 rfl) ?_
      refine fq_get K hK cl_Chain hP 0 0 rfl (by decide) wd_105 rfl dc_Chain_passThrough_14 ?_
      refine lv_iload_n K.1 K.2.1 dc_Chain_passThrough_17 rfl (lv_at hl 3 rfl) ?_
      have hc := fq_cutT (X := [(h, .inr (6, [.ref hL, .ref hR, .int rs])), (hR, .inr (0, [.ref aR, .int (nI ii), .int (nI LL.length)])), (aR, .inl (cI, 366, .inl ff)), (hO, .inr (0, [.ref aO, .int (nI io), .int (nI Lo.length)])), (aO, .inl (cI, nO, .inl fo)), (eE, .inl (cO, 10, .inr (.inr (.inr (.inr fE))))), (hL, .inr (11, [.ref eE, .int (nI sts.length), .int mo]))]) (T := Lc.flatten) (cx := [(hL, .inr (11, [.ref eE, .int (nI sts.length), .int mo])), (eE, .inl (cO, 10, .inr (.inr (.inr (.inr fE)))))]) hP hD hS hA [6, 5] (by decide) rfl
      refine fq_cqT (wr := [(h, .inr (6, [.ref hL, .ref hR, .int rs])), (hR, .inr (0, [.ref aR, .int (nI ii), .int (nI LL.length)])), (aR, .inl (cI, 366, .inl ff)), (hO, .inr (0, [.ref aO, .int (nI io), .int (nI Lo.length)])), (aO, .inl (cI, nO, .inl fo))]) (fq_rV K hK hZ hS hc (ct_AL_get l D cI cO tE hL eE sts.length mo fE a hS0 ha (by omega) (hfE a _ hset0) _) yk_AL_get wd_467 wd_468 wd_466 0 rfl rfl rfl ⟨⟨rfl, rfl⟩, ⟨Nat.le_of_ble_eq_true rfl, Nat.le_of_ble_eq_true rfl⟩, ⟨Nat.le_of_ble_eq_true rfl, Nat.le_of_ble_eq_true rfl⟩⟩ hl.1 rfl (Nat.le_of_ble_eq_true rfl) dc_Chain_passThrough_18) hP hD hS hc [6, 5] [0, 1, 2, 3, 4] rfl rfl (by decide) (by decide) (fun r7 w H locs hw9 hP hD hS => ?_)
      obtain ⟨rfl, rfl⟩ := hw9
      have hP : va_P D fq_cl ([(h, .inr (6, [.ref hL, .ref hR, .int rs])), (hR, .inr (0, [.ref aR, .int (nI ii), .int (nI LL.length)])), (aR, .inl (cI, 366, .inl ff)), (hO, .inr (0, [.ref aO, .int (nI io), .int (nI Lo.length)])), (aO, .inl (cI, nO, .inl fo)), (hL, .inr (11, [.ref eE, .int (nI sts.length), .int mo])), (eE, .inl (cO, 10, .inr (.inr (.inr (.inr fE)))))] ++ Lc.flatten) _ := hP
      have hD : va_D A ([(h, .inr (6, [.ref hL, .ref hR, .int rs])), (hR, .inr (0, [.ref aR, .int (nI ii), .int (nI LL.length)])), (aR, .inl (cI, 366, .inl ff)), (hO, .inr (0, [.ref aO, .int (nI io), .int (nI Lo.length)])), (aO, .inl (cI, nO, .inl fo)), (hL, .inr (11, [.ref eE, .int (nI sts.length), .int mo])), (eE, .inl (cO, 10, .inr (.inr (.inr (.inr fE)))))] ++ Lc.flatten) := hD
      refine W.eq (g2 := F0 mt 21 ls [.ref hS0]) rfl ?_
      refine sg_cast K hK hsgc (fq_Pl (fq_permP (fq_gone hgc) hP)) (K.2.2.2.2 _ wd_480) dc_Chain_passThrough_21 ?_
      refine lv_astore K.1 K.2.1 dc_Chain_passThrough_24 hl (by decide) rfl (fun ls hl => ?_)
      have hl : lv_has ls 7 [(4, .ref hS0), (0, .ref h), (1, .int (nI fr)), (2, .ref hO), (3, .int (nI a))] := hl
      refine lv_aload_n K.1 K.2.1 dc_Chain_passThrough_26 rfl (lv_at hl 1 rfl) ?_
      refine fq_get K hK cl_Chain hP 0 1 rfl (by decide) wd_106 rfl dc_Chain_passThrough_27 ?_
      have hc := fq_cutT (X := [(h, .inr (6, [.ref hL, .ref hR, .int rs])), (hR, .inr (0, [.ref aR, .int (nI ii), .int (nI LL.length)])), (aR, .inl (cI, 366, .inl ff)), (hO, .inr (0, [.ref aO, .int (nI io), .int (nI Lo.length)])), (aO, .inl (cI, nO, .inl fo)), (hL, .inr (11, [.ref eE, .int (nI sts.length), .int mo])), (eE, .inl (cO, 10, .inr (.inr (.inr (.inr fE)))))]) (T := Lc.flatten) (cx := [(hR, .inr (0, [.ref aR, .int (nI ii), .int (nI LL.length)])), (aR, .inl (cI, 366, .inl ff))]) hP hD hS hA [1, 2] (by decide) rfl
      refine fq_ciT (wr := [(h, .inr (6, [.ref hL, .ref hR, .int rs])), (hO, .inr (0, [.ref aO, .int (nI io), .int (nI Lo.length)])), (aO, .inl (cI, nO, .inl fo)), (hL, .inr (11, [.ref eE, .int (nI sts.length), .int mo])), (eE, .inl (cO, 10, .inr (.inr (.inr (.inr fE)))))]) (fq_rV K hK hZ hS hc (ct_Row_size l D cI cO tE hR aR 366 ff ii LL hI2.2.2.1 _) yk_Row_size wd_574 wd_575 wd_611 0 rfl rfl rfl ⟨⟨rfl, rfl⟩, ⟨Nat.le_of_ble_eq_true rfl, Nat.le_of_ble_eq_true rfl⟩, ⟨Nat.le_of_ble_eq_true rfl, Nat.le_of_ble_eq_true rfl⟩⟩ hl.1 rfl (Nat.le_of_ble_eq_true rfl) dc_Chain_passThrough_30) hP hD hS hc [1, 2] [0, 3, 4, 5, 6] rfl rfl (by decide) (by decide) (fun r8 w H locs hw10 hP hD hS => ?_)
      obtain ⟨rfl, rfl⟩ := hw10
      have hP : va_P D fq_cl ([(h, .inr (6, [.ref hL, .ref hR, .int rs])), (hO, .inr (0, [.ref aO, .int (nI io), .int (nI Lo.length)])), (aO, .inl (cI, nO, .inl fo)), (hL, .inr (11, [.ref eE, .int (nI sts.length), .int mo])), (eE, .inl (cO, 10, .inr (.inr (.inr (.inr fE))))), (hR, .inr (0, [.ref aR, .int (nI ii), .int (nI LL.length)])), (aR, .inl (cI, 366, .inl ff))] ++ Lc.flatten) _ := hP
      have hD : va_D A ([(h, .inr (6, [.ref hL, .ref hR, .int rs])), (hO, .inr (0, [.ref aO, .int (nI io), .int (nI Lo.length)])), (aO, .inl (cI, nO, .inl fo)), (hL, .inr (11, [.ref eE, .int (nI sts.length), .int mo])), (eE, .inl (cO, 10, .inr (.inr (.inr (.inr fE))))), (hR, .inr (0, [.ref aR, .int (nI ii), .int (nI LL.length)])), (aR, .inl (cI, 366, .inl ff))] ++ Lc.flatten) := hD
      refine lv_istore K.1 K.2.1 dc_Chain_passThrough_33 hl (by decide) rfl (fun ls hl => ?_)
      have hl : lv_has ls 7 [(5, .int (nI LL.length)), (4, .ref hS0), (0, .ref h), (1, .int (nI fr)), (2, .ref hO), (3, .int (nI a))] := hl
      refine lv_iconst (v := 0) K.1 K.2.1 dc_Chain_passThrough_35 (by decide) ?_
      refine lv_istore K.1 K.2.1 dc_Chain_passThrough_36 hl (by decide) rfl (fun ls hl => ?_)
      have hl : lv_has ls 7 [(6, .int 0), (5, .int (nI LL.length)), (4, .ref hS0), (0, .ref h), (1, .int (nI fr)), (2, .ref hO), (3, .int (nI a))] := hl
      have hP := va_P.part (X := [(h, .inr (6, [.ref hL, .ref hR, .int rs])), (hO, .inr (0, [.ref aO, .int (nI io), .int (nI Lo.length)])), (aO, .inl (cI, nO, .inl fo)), (hL, .inr (11, [.ref eE, .int (nI sts.length), .int mo])), (eE, .inl (cO, 10, .inr (.inr (.inr (.inr fE))))), (hR, .inr (0, [.ref aR, .int (nI ii), .int (nI LL.length)])), (aR, .inl (cI, 366, .inl ff))]) (cx := [(h, .inr (6, [.ref hL, .ref hR, .int rs])), (hR, .inr (0, [.ref aR, .int (nI ii), .int (nI LL.length)])), (aR, .inl (cI, 366, .inl ff)), (hO, .inr (0, [.ref aO, .int (nI io), .int (nI Lo.length)])), (aO, .inl (cI, nO, .inl fo)), (hL, .inr (11, [.ref eE, .int (nI sts.length), .int mo])), (eE, .inl (cO, 10, .inr (.inr (.inr (.inr fE)))))]) hP [0, 5, 6, 1, 2, 3, 4] rfl
      have hD := va_D.part (X := [(h, .inr (6, [.ref hL, .ref hR, .int rs])), (hO, .inr (0, [.ref aO, .int (nI io), .int (nI Lo.length)])), (aO, .inl (cI, nO, .inl fo)), (hL, .inr (11, [.ref eE, .int (nI sts.length), .int mo])), (eE, .inl (cO, 10, .inr (.inr (.inr (.inr fE))))), (hR, .inr (0, [.ref aR, .int (nI ii), .int (nI LL.length)])), (aR, .inl (cI, 366, .inl ff))]) (cx := [(h, .inr (6, [.ref hL, .ref hR, .int rs])), (hR, .inr (0, [.ref aR, .int (nI ii), .int (nI LL.length)])), (aR, .inl (cI, 366, .inl ff)), (hO, .inr (0, [.ref aO, .int (nI io), .int (nI Lo.length)])), (aO, .inl (cI, nO, .inl fo)), (hL, .inr (11, [.ref eE, .int (nI sts.length), .int mo])), (eE, .inl (cO, 10, .inr (.inr (.inr (.inr fE)))))]) hD [0, 5, 6, 1, 2, 3, 4] (by decide) rfl
      refine fq_lp (σ := Nat × (Nat → Int32) × Nat × List Int32 × List va_W) (fun x => LL.length - x.1) (fun x H locs ls => (x.1 ≤ LL.length ∧ rw_ok 366 x.2.1 x.2.2.1 x.2.2.2.1 ∧ x.2.2.2.1.map Int32.toInt = (LL.map Int32.toInt).drop x.1 ++ fm_d sp false xs ((LL.map Int32.toInt).take x.1) ∧ ch_ok cI x.2.2.2.2 (stt.set a (hS0, sp, xs ++ (LL.map Int32.toInt).take x.1, fm_m sp false (xs.length + x.1)))) ∧ lv_has ls 7 [(0, .ref h), (1, .int (nI fr)), (2, .ref hO), (3, .int (nI a)), (4, .ref hS0), (5, .int (nI LL.length)), (6, .int (nI x.1))] ∧ va_P D fq_cl ([(h, .inr (6, [.ref hL, .ref hR, .int rs])), (hR, .inr (0, [.ref aR, .int (nI x.2.2.1), .int (nI x.2.2.2.1.length)])), (aR, .inl (cI, 366, .inl x.2.1)), (hO, .inr (0, [.ref aO, .int (nI io), .int (nI Lo.length)])), (aO, .inl (cI, nO, .inl fo)), (hL, .inr (11, [.ref eE, .int (nI sts.length), .int mo])), (eE, .inl (cO, 10, .inr (.inr (.inr (.inr fE)))))] ++ x.2.2.2.2.flatten) H ∧ va_D A ([(h, .inr (6, [.ref hL, .ref hR, .int rs])), (hR, .inr (0, [.ref aR, .int (nI x.2.2.1), .int (nI x.2.2.2.1.length)])), (aR, .inl (cI, 366, .inl x.2.1)), (hO, .inr (0, [.ref aO, .int (nI io), .int (nI Lo.length)])), (aO, .inl (cI, nO, .inl fo)), (hL, .inr (11, [.ref eE, .int (nI sts.length), .int mo])), (eE, .inl (cO, 10, .inr (.inr (.inr (.inr fE)))))] ++ x.2.2.2.2.flatten) ∧ va_S A s.heap H locs) ?_ (0, ff, ii, LL, Lc) _ _ _ ⟨ps_init hI2 ha hset0 hun, lv_sub hl [3, 4, 5, 6, 2, 1, 0] rfl, hP, hD, hS⟩
      rintro ⟨j, f2, i2, L2, Lg⟩ H locs ls ⟨hI38, hl, hP, hD, hS⟩ ih38
      have hI38 : j ≤ LL.length ∧ rw_ok 366 f2 i2 L2 ∧ L2.map Int32.toInt = (LL.map Int32.toInt).drop j ++ fm_d sp false xs ((LL.map Int32.toInt).take j) ∧ ch_ok cI Lg (stt.set a (hS0, sp, xs ++ (LL.map Int32.toInt).take j, fm_m sp false (xs.length + j))) := hI38
      have hl : lv_has ls 7 [(0, .ref h), (1, .int (nI fr)), (2, .ref hO), (3, .int (nI a)), (4, .ref hS0), (5, .int (nI LL.length)), (6, .int (nI j))] := hl
      have hP : va_P D fq_cl ([(h, .inr (6, [.ref hL, .ref hR, .int rs])), (hR, .inr (0, [.ref aR, .int (nI i2), .int (nI L2.length)])), (aR, .inl (cI, 366, .inl f2)), (hO, .inr (0, [.ref aO, .int (nI io), .int (nI Lo.length)])), (aO, .inl (cI, nO, .inl fo)), (hL, .inr (11, [.ref eE, .int (nI sts.length), .int mo])), (eE, .inl (cO, 10, .inr (.inr (.inr (.inr fE)))))] ++ Lg.flatten) _ := hP
      have hD : va_D A ([(h, .inr (6, [.ref hL, .ref hR, .int rs])), (hR, .inr (0, [.ref aR, .int (nI i2), .int (nI L2.length)])), (aR, .inl (cI, 366, .inl f2)), (hO, .inr (0, [.ref aO, .int (nI io), .int (nI Lo.length)])), (aO, .inl (cI, nO, .inl fo)), (hL, .inr (11, [.ref eE, .int (nI sts.length), .int mo])), (eE, .inl (cO, 10, .inr (.inr (.inr (.inr fE)))))] ++ Lg.flatten) := hD
      have hset := ps_set hI2 ha hset0 (xs ++ (LL.map Int32.toInt).take j) (fm_m sp false (xs.length + j))
      refine lv_iload K.1 K.2.1 dc_Chain_passThrough_38 (lv_at hl 6 rfl) ?_
      refine lv_iload K.1 K.2.1 dc_Chain_passThrough_40 (lv_at hl 5 rfl) ?_
      refine lv_icmp_ge (tgt := 69) K.1 K.2.1 dc_Chain_passThrough_42 rfl (fun b42 => ?_) (fun b42 => ?_)
      · skip
        have hj : j = LL.length := by rw [nI_leI (by omega) (by omega)] at b42; omega
        refine lv_iinc (v := nI (a + 1)) K.1 K.2.1 dc_Chain_passThrough_69 hl (k := 3) rfl (nI_1 a) (by decide) rfl (fun ls hl => ?_)
        have hl : lv_has ls 7 [(3, .int (nI (a + 1))), (0, .ref h), (1, .int (nI fr)), (2, .ref hO), (4, .ref hS0), (5, .int (nI LL.length)), (6, .int (nI j))] := hl
        refine lv_goto (tgt := 2) K.1 K.2.1 dc_Chain_passThrough_72 rfl ?_
        exact ih2 (a + 1, f2, i2, L2, Lg, stt.set a (hS0, sp, xs ++ LL.map Int32.toInt, fm_m sp false (xs.length + LL.length))) _ _ _ (by show sts.length - (a + 1) < sts.length - a; omega) ⟨ps_next hI2 ha hset0 hI38 hj, lv_sub hl [1, 2, 3, 0] rfl, hP, hD, hS⟩
      · skip
        have hj : j < LL.length := by rw [nI_leI (by omega) (by omega)] at b42; omega
        refine lv_aload_n K.1 K.2.1 dc_Chain_passThrough_45 rfl (lv_at hl 0 rfl) ?_
        refine lv_aload K.1 K.2.1 dc_Chain_passThrough_46 (lv_at hl 4 rfl) ?_
        refine lv_aload K.1 K.2.1 dc_Chain_passThrough_48 (lv_at hl 4 rfl) ?_
        refine lv_aload_n K.1 K.2.1 dc_Chain_passThrough_50 rfl (lv_at hl 0 rfl) ?_
        refine fq_get K hK cl_Chain hP 0 1 rfl (by decide) wd_106 rfl dc_Chain_passThrough_51 ?_
        have hc := fq_cutT (X := [(h, .inr (6, [.ref hL, .ref hR, .int rs])), (hR, .inr (0, [.ref aR, .int (nI i2), .int (nI L2.length)])), (aR, .inl (cI, 366, .inl f2)), (hO, .inr (0, [.ref aO, .int (nI io), .int (nI Lo.length)])), (aO, .inl (cI, nO, .inl fo)), (hL, .inr (11, [.ref eE, .int (nI sts.length), .int mo])), (eE, .inl (cO, 10, .inr (.inr (.inr (.inr fE)))))]) (T := Lg.flatten) (cx := [(hR, .inr (0, [.ref aR, .int (nI i2), .int (nI L2.length)])), (aR, .inl (cI, 366, .inl f2))]) hP hD hS hA [1, 2] (by decide) rfl
        refine fq_ciT (wr := [(h, .inr (6, [.ref hL, .ref hR, .int rs])), (hO, .inr (0, [.ref aO, .int (nI io), .int (nI Lo.length)])), (aO, .inl (cI, nO, .inl fo)), (hL, .inr (11, [.ref eE, .int (nI sts.length), .int mo])), (eE, .inl (cO, 10, .inr (.inr (.inr (.inr fE)))))]) (fq_rV K hK hZ hS hc (ct_Row_takeOldest l D cI cO tE hR aR 366 f2 i2 L2 hI38.2.1 _) yk_Row_takeOldest wd_583 wd_584 wd_612 0 rfl rfl rfl ⟨⟨rfl, rfl⟩, ⟨Nat.le_of_ble_eq_true rfl, Nat.le_of_ble_eq_true rfl⟩, ⟨Nat.le_of_ble_eq_true rfl, Nat.le_of_ble_eq_true rfl⟩⟩ hl.1 rfl (Nat.le_of_ble_eq_true rfl) dc_Chain_passThrough_54) hP hD hS hc [1, 2] [0, 3, 4, 5, 6] rfl rfl (by decide) (by decide) (fun r9 w H locs hw11 hP hD hS => ?_)
        obtain ⟨j3, rfl, rfl, hrow5⟩ := hw11
        have hP : va_P D fq_cl ([(h, .inr (6, [.ref hL, .ref hR, .int rs])), (hO, .inr (0, [.ref aO, .int (nI io), .int (nI Lo.length)])), (aO, .inl (cI, nO, .inl fo)), (hL, .inr (11, [.ref eE, .int (nI sts.length), .int mo])), (eE, .inl (cO, 10, .inr (.inr (.inr (.inr fE))))), (hR, .inr (0, [.ref aR, .int (nI j3), .int (nI L2.tail.length)])), (aR, .inl (cI, 366, .inl f2))] ++ Lg.flatten) _ := hP
        have hD : va_D A ([(h, .inr (6, [.ref hL, .ref hR, .int rs])), (hO, .inr (0, [.ref aO, .int (nI io), .int (nI Lo.length)])), (aO, .inl (cI, nO, .inl fo)), (hL, .inr (11, [.ref eE, .int (nI sts.length), .int mo])), (eE, .inl (cO, 10, .inr (.inr (.inr (.inr fE))))), (hR, .inr (0, [.ref aR, .int (nI j3), .int (nI L2.tail.length)])), (aR, .inl (cI, 366, .inl f2))] ++ Lg.flatten) := hD
        have hP := va_P.part (X := [(h, .inr (6, [.ref hL, .ref hR, .int rs])), (hO, .inr (0, [.ref aO, .int (nI io), .int (nI Lo.length)])), (aO, .inl (cI, nO, .inl fo)), (hL, .inr (11, [.ref eE, .int (nI sts.length), .int mo])), (eE, .inl (cO, 10, .inr (.inr (.inr (.inr fE))))), (hR, .inr (0, [.ref aR, .int (nI j3), .int (nI L2.tail.length)])), (aR, .inl (cI, 366, .inl f2))]) (cx := [(h, .inr (6, [.ref hL, .ref hR, .int rs])), (hR, .inr (0, [.ref aR, .int (nI j3), .int (nI L2.tail.length)])), (aR, .inl (cI, 366, .inl f2)), (hO, .inr (0, [.ref aO, .int (nI io), .int (nI Lo.length)])), (aO, .inl (cI, nO, .inl fo)), (hL, .inr (11, [.ref eE, .int (nI sts.length), .int mo])), (eE, .inl (cO, 10, .inr (.inr (.inr (.inr fE)))))]) hP [0, 5, 6, 1, 2, 3, 4] rfl
        have hD := va_D.part (X := [(h, .inr (6, [.ref hL, .ref hR, .int rs])), (hO, .inr (0, [.ref aO, .int (nI io), .int (nI Lo.length)])), (aO, .inl (cI, nO, .inl fo)), (hL, .inr (11, [.ref eE, .int (nI sts.length), .int mo])), (eE, .inl (cO, 10, .inr (.inr (.inr (.inr fE))))), (hR, .inr (0, [.ref aR, .int (nI j3), .int (nI L2.tail.length)])), (aR, .inl (cI, 366, .inl f2))]) (cx := [(h, .inr (6, [.ref hL, .ref hR, .int rs])), (hR, .inr (0, [.ref aR, .int (nI j3), .int (nI L2.tail.length)])), (aR, .inl (cI, 366, .inl f2)), (hO, .inr (0, [.ref aO, .int (nI io), .int (nI Lo.length)])), (aO, .inl (cI, nO, .inl fo)), (hL, .inr (11, [.ref eE, .int (nI sts.length), .int mo])), (eE, .inl (cO, 10, .inr (.inr (.inr (.inr fE)))))]) hD [0, 5, 6, 1, 2, 3, 4] (by decide) rfl
        obtain ⟨hxj, hxin, hlen, hlt, hmb, hcap3, hm1, hm2, hm3⟩ := ps_cond hI2 ha hset0 hun hfit hI38 hj
        obtain ⟨g1, hg1, hsg1⟩ := ch_get hI38.2.2.2 hset
        have hcg := fq_cutR (fq_gone (X := [(h, .inr (6, [.ref hL, .ref hR, .int rs])), (hR, .inr (0, [.ref aR, .int (nI j3), .int (nI L2.tail.length)])), (aR, .inl (cI, 366, .inl f2)), (hO, .inr (0, [.ref aO, .int (nI io), .int (nI Lo.length)])), (aO, .inl (cI, nO, .inl fo)), (hL, .inr (11, [.ref eE, .int (nI sts.length), .int mo])), (eE, .inl (cO, 10, .inr (.inr (.inr (.inr fE)))))]) hg1) hP hD hS hA
        refine fq_ciR (sg_run_take K hK hZ hS hcg hsg1 (L2.headD 0) (congrArg (fm_m sp false) hlen.symm) hxin hlt hmb (Nat.le_of_ble_eq_true rfl) (Nat.le_of_ble_eq_true rfl) (Nat.le_of_ble_eq_true rfl) (Nat.le_of_ble_eq_true rfl) hl.1 (Nat.le_of_ble_eq_true rfl) dc_Chain_passThrough_57) hP hD hS hcg (fq_gone (X := [(h, .inr (6, [.ref hL, .ref hR, .int rs])), (hR, .inr (0, [.ref aR, .int (nI j3), .int (nI L2.tail.length)])), (aR, .inl (cI, 366, .inl f2)), (hO, .inr (0, [.ref aO, .int (nI io), .int (nI Lo.length)])), (aO, .inl (cI, nO, .inl fo)), (hL, .inr (11, [.ref eE, .int (nI sts.length), .int mo])), (eE, .inl (cO, 10, .inr (.inr (.inr (.inr fE)))))]) hg1) (fun r2 g2 H locs hw2 hP hD hS => ?_)
        have hP := fq_permP (fq_gback (X := [(h, .inr (6, [.ref hL, .ref hR, .int rs])), (hR, .inr (0, [.ref aR, .int (nI j3), .int (nI L2.tail.length)])), (aR, .inl (cI, 366, .inl f2)), (hO, .inr (0, [.ref aO, .int (nI io), .int (nI Lo.length)])), (aO, .inl (cI, nO, .inl fo)), (hL, .inr (11, [.ref eE, .int (nI sts.length), .int mo])), (eE, .inl (cO, 10, .inr (.inr (.inr (.inr fE)))))]) hg1) hP
        have hD := fq_permD (fq_gback (X := [(h, .inr (6, [.ref hL, .ref hR, .int rs])), (hR, .inr (0, [.ref aR, .int (nI j3), .int (nI L2.tail.length)])), (aR, .inl (cI, 366, .inl f2)), (hO, .inr (0, [.ref aO, .int (nI io), .int (nI Lo.length)])), (aO, .inl (cI, nO, .inl fo)), (hL, .inr (11, [.ref eE, .int (nI sts.length), .int mo])), (eE, .inl (cO, 10, .inr (.inr (.inr (.inr fE)))))]) hg1) hD
        obtain ⟨rfl, hsg2⟩ := hw2
        have hg2 : (Lg.set a g2)[a]? = some g2 := ch_set hg1
        have hP : va_P D fq_cl ([(h, .inr (6, [.ref hL, .ref hR, .int rs])), (hR, .inr (0, [.ref aR, .int (nI j3), .int (nI L2.tail.length)])), (aR, .inl (cI, 366, .inl f2)), (hO, .inr (0, [.ref aO, .int (nI io), .int (nI Lo.length)])), (aO, .inl (cI, nO, .inl fo)), (hL, .inr (11, [.ref eE, .int (nI sts.length), .int mo])), (eE, .inl (cO, 10, .inr (.inr (.inr (.inr fE)))))] ++ (Lg.set a g2).flatten) _ := hP
        have hD : va_D A ([(h, .inr (6, [.ref hL, .ref hR, .int rs])), (hR, .inr (0, [.ref aR, .int (nI j3), .int (nI L2.tail.length)])), (aR, .inl (cI, 366, .inl f2)), (hO, .inr (0, [.ref aO, .int (nI io), .int (nI Lo.length)])), (aO, .inl (cI, nO, .inl fo)), (hL, .inr (11, [.ref eE, .int (nI sts.length), .int mo])), (eE, .inl (cO, 10, .inr (.inr (.inr (.inr fE)))))] ++ (Lg.set a g2).flatten) := hD
        have hcm := fq_cutR (fq_gx (X := [(h, .inr (6, [.ref hL, .ref hR, .int rs])), (hR, .inr (0, [.ref aR, .int (nI j3), .int (nI L2.tail.length)])), (aR, .inl (cI, 366, .inl f2))]) (Y := [(hO, .inr (0, [.ref aO, .int (nI io), .int (nI Lo.length)])), (aO, .inl (cI, nO, .inl fo)), (hL, .inr (11, [.ref eE, .int (nI sts.length), .int mo])), (eE, .inl (cO, 10, .inr (.inr (.inr (.inr fE)))))]) hg2) hP hD hS hA
        refine fq_cvR (fq_rV K hK hZ hS hcm (ct_Chain_makeSamples l D cI cO tE h hL hR aR rs f2 j3 L2.tail hS0 (fm_m sp false ((xs ++ (LL.map Int32.toInt).take j).length + 1) - (fm_m sp false (xs.length + j))) sp ((xs ++ (LL.map Int32.toInt).take j) ++ [(L2.headD 0).toInt]) (fm_m sp false (xs.length + j)) g2 hrow5 hsg2 hcap3 hm1 hm2 hm3 _) yk_Chain_makeSamples wd_643 wd_10 wd_641 0 rfl rfl rfl ⟨⟨rfl, rfl⟩, ⟨Nat.le_of_ble_eq_true rfl, Nat.le_of_ble_eq_true rfl⟩, ⟨Nat.le_of_ble_eq_true rfl, Nat.le_of_ble_eq_true rfl⟩⟩ hl.1 rfl (Nat.le_of_ble_eq_true rfl) dc_Chain_passThrough_60) hP hD hS hcm (fq_gx (X := [(h, .inr (6, [.ref hL, .ref hR, .int rs])), (hR, .inr (0, [.ref aR, .int (nI j3), .int (nI L2.tail.length)])), (aR, .inl (cI, 366, .inl f2))]) (Y := [(hO, .inr (0, [.ref aO, .int (nI io), .int (nI Lo.length)])), (aO, .inl (cI, nO, .inl fo)), (hL, .inr (11, [.ref eE, .int (nI sts.length), .int mo])), (eE, .inl (cO, 10, .inr (.inr (.inr (.inr fE)))))]) hg2) (fun w H locs hw hP hD hS => ?_)
        obtain ⟨f3, L3, g3, rfl, hr3, hL3, hsg3⟩ := hw
        have hP := fq_permP (fq_gy (X := [(h, .inr (6, [.ref hL, .ref hR, .int rs])), (hR, .inr (0, [.ref aR, .int (nI j3), .int (nI L3.length)])), (aR, .inl (cI, 366, .inl f3))]) (Y := [(hO, .inr (0, [.ref aO, .int (nI io), .int (nI Lo.length)])), (aO, .inl (cI, nO, .inl fo)), (hL, .inr (11, [.ref eE, .int (nI sts.length), .int mo])), (eE, .inl (cO, 10, .inr (.inr (.inr (.inr fE)))))]) hg2) hP
        have hD := fq_permD (fq_gy (X := [(h, .inr (6, [.ref hL, .ref hR, .int rs])), (hR, .inr (0, [.ref aR, .int (nI j3), .int (nI L3.length)])), (aR, .inl (cI, 366, .inl f3))]) (Y := [(hO, .inr (0, [.ref aO, .int (nI io), .int (nI Lo.length)])), (aO, .inl (cI, nO, .inl fo)), (hL, .inr (11, [.ref eE, .int (nI sts.length), .int mo])), (eE, .inl (cO, 10, .inr (.inr (.inr (.inr fE)))))]) hg2) hD
        rw [List.set_set] at hP hD
        have hP : va_P D fq_cl ([(h, .inr (6, [.ref hL, .ref hR, .int rs])), (hR, .inr (0, [.ref aR, .int (nI j3), .int (nI L3.length)])), (aR, .inl (cI, 366, .inl f3)), (hO, .inr (0, [.ref aO, .int (nI io), .int (nI Lo.length)])), (aO, .inl (cI, nO, .inl fo)), (hL, .inr (11, [.ref eE, .int (nI sts.length), .int mo])), (eE, .inl (cO, 10, .inr (.inr (.inr (.inr fE)))))] ++ (Lg.set a g3).flatten) _ := hP
        have hD : va_D A ([(h, .inr (6, [.ref hL, .ref hR, .int rs])), (hR, .inr (0, [.ref aR, .int (nI j3), .int (nI L3.length)])), (aR, .inl (cI, 366, .inl f3)), (hO, .inr (0, [.ref aO, .int (nI io), .int (nI Lo.length)])), (aO, .inl (cI, nO, .inl fo)), (hL, .inr (11, [.ref eE, .int (nI sts.length), .int mo])), (eE, .inl (cO, 10, .inr (.inr (.inr (.inr fE)))))] ++ (Lg.set a g3).flatten) := hD
        refine lv_iinc (v := nI (j + 1)) K.1 K.2.1 dc_Chain_passThrough_63 hl (k := 6) rfl (nI_1 j) (by decide) rfl (fun ls hl => ?_)
        have hl : lv_has ls 7 [(6, .int (nI (j + 1))), (0, .ref h), (1, .int (nI fr)), (2, .ref hO), (3, .int (nI a)), (4, .ref hS0), (5, .int (nI LL.length))] := hl
        refine lv_goto (tgt := 38) K.1 K.2.1 dc_Chain_passThrough_66 rfl ?_
        exact ih38 (j + 1, f3, j3, L3, Lg.set a g3) _ _ _ (by show LL.length - (j + 1) < LL.length - j; omega) ⟨ps_step hI2 ha hset0 hun hI38 hj hxj hlen hr3 hL3 hsg3 hg1, lv_sub hl [1, 2, 3, 4, 5, 6, 0] rfl, hP, hD, hS⟩
