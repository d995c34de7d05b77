theorem wd_59 : Cond.instanceMethod my_Chain_init ∈ fq_TB := fq_in 59 (by decide +kernel) rfl
theorem wd_60 : Cond.code my_Chain_init cb_Chain_init 1 none ∈ fq_TB := fq_in 60 (by decide +kernel) rfl
theorem wd_61 : Cond.methodLink cn_Chain 3 my_Oj_init ∈ fq_TB := fq_in 61 (by decide +kernel) rfl
theorem wd_62 : Cond.classLink cn_Chain 9 cn_AL ∈ fq_TB := fq_in 62 (by decide +kernel) rfl
theorem wd_63 : Cond.instantiable cn_AL 3 ∈ fq_TB := fq_in 63 (by decide +kernel) rfl
theorem wd_64 : Cond.methodLink cn_Chain 11 my_AL_init ∈ fq_TB := fq_in 64 (by decide +kernel) rfl
theorem wd_88 : Cond.classLink cn_Chain 18 cn_Row ∈ fq_TB := fq_in 88 (by decide +kernel) rfl
theorem wd_89 : Cond.instantiable cn_Row 3 ∈ fq_TB := fq_in 89 (by decide +kernel) rfl
theorem wd_90 : Cond.methodLink cn_Chain 20 my_Row_init ∈ fq_TB := fq_in 90 (by decide +kernel) rfl
theorem wd_107 : Cond.fieldLink cn_Chain 37 cn_Chain "resamplers" "I" ∈ fq_TB := fq_in 107 (by decide +kernel) rfl
theorem wd_514 : Cond.instanceMethod my_Chain_forgetSamples ∈ fq_TB := fq_in 514 (by decide +kernel) rfl
theorem wd_515 : Cond.selects cn_Chain my_Chain_forgetSamples my_Chain_forgetSamples ∈ fq_TB := fq_in 515 (by decide +kernel) rfl
theorem wd_516 : Cond.code my_Chain_forgetSamples cb_Chain_forgetSamples 2 none ∈ fq_TB := fq_in 516 (by decide +kernel) rfl
theorem wd_603 : Cond.instanceMethod my_Chain_work ∈ fq_TB := fq_in 603 (by decide +kernel) rfl
theorem wd_604 : Cond.selects cn_Chain my_Chain_work my_Chain_work ∈ fq_TB := fq_in 604 (by decide +kernel) rfl
theorem wd_605 : Cond.code my_Chain_work cb_Chain_work 3 none ∈ fq_TB := fq_in 605 (by decide +kernel) rfl
theorem wd_607 : Cond.methodLink cn_Chain 50 my_Chain_passThrough ∈ fq_TB := fq_in 607 (by decide +kernel) rfl
theorem wd_688 : Cond.instanceMethod my_Chain_flush ∈ fq_TB := fq_in 688 (by decide +kernel) rfl
theorem wd_689 : Cond.selects cn_Chain my_Chain_flush my_Chain_flush ∈ fq_TB := fq_in 689 (by decide +kernel) rfl
theorem wd_690 : Cond.code my_Chain_flush cb_Chain_flush 4 none ∈ fq_TB := fq_in 690 (by decide +kernel) rfl

theorem fq_nil {ws : va_W} : ws.Perm (ws ++ []) := by rw [List.append_nil]
/-- what a stage lets out at its flush -/
def fl_e (sp : fm_S) (xs : List Int) (m : Nat) : List Int := (List.range (fm_m sp true xs.length - m)).map (fun z => fm_y sp xs (m + z))
def fl_one (sts : List ch_T) (a : Nat) : List ch_T × List Int := match sts[a]? with
  | some s => ch_it (sts.set a (s.1, s.2.1, s.2.2.1, s.2.2.2 + (fm_m s.2.1 true s.2.2.1.length - s.2.2.2))) (a + 1) (fl_e s.2.1 s.2.2.1 s.2.2.2) (sts.length - (a + 1))
  | none => (sts, [])
def fl_it (sts : List ch_T) : Nat → List ch_T × List Int
  | 0 => (sts, [])
  | a + 1 => ((fl_one (fl_it sts a).1 a).1, (fl_it sts a).2 ++ (fl_one (fl_it sts a).1 a).2)
def fl_fit (sts : List ch_T) (Lo : List Int32) (nO : Nat) : Prop := ∀ (a : Nat) (s : ch_T), a < sts.length → (fl_it sts a).1[a]? = some s → s.2.2.2 = fm_m s.2.1 false s.2.2.1.length ∧ s.2.2.1.length < 50000 ∧ (fl_e s.2.1 s.2.2.1 s.2.2.2).length ≤ 366
  ∧ ch_un ((fl_it sts a).1.set a (s.1, s.2.1, s.2.2.1, s.2.2.2 + (fm_m s.2.1 true s.2.2.1.length - s.2.2.2))) (a + 1) ∧ ch_fit ((fl_it sts a).1.set a (s.1, s.2.1, s.2.2.1, s.2.2.2 + (fm_m s.2.1 true s.2.2.1.length - s.2.2.2))) (a + 1) (fl_e s.2.1 s.2.2.1 s.2.2.2) ∧ Lo.length + (fl_it sts (a + 1)).2.length ≤ nO
theorem fl_len {sts : List ch_T} : ∀ {a : Nat}, (fl_it sts a).1.length = sts.length
  | 0 => rfl
  | a + 1 => by
    have ih := fl_len (sts := sts) (a := a)
    show (fl_one (fl_it sts a).1 a).1.length = sts.length
    unfold fl_one
    split
    · rw [ch_it_len, List.length_set]; exact ih
    · exact ih
theorem ch_it_ad {sts : List ch_T} {k : Nat} {q : List Int} : ∀ {n j : Nat}, ((ch_it sts k q n).1[j]?).map (·.1) = (sts[j]?).map (·.1)
  | 0, j => rfl
  | n + 1, j => by
    have ih := ch_it_ad (sts := sts) (k := k) (q := q) (n := n) (j := j)
    show ((ch_one (ch_it sts k q n).1 (k + n) (ch_it sts k q n).2).1[j]?).map (·.1) = _
    unfold ch_one
    split
    · rename_i s hs
      by_cases c : k + n = j
      · subst c
        rw [List.getElem?_set_self (List.getElem?_eq_some_iff.mp hs).1, ← ih, hs]; rfl
      · rw [List.getElem?_set_ne c]; exact ih
    · exact ih
theorem fl_ads {sts : List ch_T} : ∀ {a j : Nat}, ((fl_it sts a).1[j]?).map (·.1) = (sts[j]?).map (·.1)
  | 0, j => rfl
  | a + 1, j => by
    have ih := fl_ads (sts := sts) (a := a) (j := j)
    show ((fl_one (fl_it sts a).1 a).1[j]?).map (·.1) = _
    unfold fl_one
    split
    · rename_i s hs
      rw [ch_it_ad]
      by_cases c : a = j
      · subst c
        rw [List.getElem?_set_self (List.getElem?_eq_some_iff.mp hs).1, ← ih, hs]; rfl
      · rw [List.getElem?_set_ne c]; exact ih
    · exact ih
theorem fl_ad {sts : List ch_T} {f : Nat → Option Nat} {a : Nat} {s : ch_T} (hf : ∀ (k : Nat) (s : ch_T), sts[k]? = some s → f k = some s.1) (h : (fl_it sts a).1[a]? = some s) : f a = some s.1 := by
  have e := fl_ads (sts := sts) (a := a) (j := a)
  rw [h] at e
  cases hs : sts[a]? with
  | none => rw [hs] at e; simp at e
  | some t =>
    rw [hs] at e
    have e : some s.1 = some t.1 := e
    rw [hf a t hs, ← e]
theorem fl_cond {sts : List ch_T} {Lo : List Int32} {nO a hS0 : Nat} {sp : fm_S} {xs : List Int} {m0 : Nat} (hff : fl_fit sts Lo nO) (ha : a < sts.length) (hs : (fl_it sts a).1[a]? = some (hS0, sp, xs, m0)) (hok : fm_ok sp) :
    m0 = fm_m sp false xs.length ∧ ([] : List Int32).length + (fm_m sp true xs.length - m0) ≤ 366 ∧ fm_m sp false (xs.length - 1) ≤ m0 ∧ m0 + (fm_m sp true xs.length - m0) ≤ fm_m sp true xs.length ∧ m0 + (fm_m sp true xs.length - m0) < 299000 := by
  obtain ⟨h1, h2, h3, -⟩ := hff a _ ha hs
  have h1 : m0 = fm_m sp false xs.length := h1
  have h2 : xs.length < 50000 := h2
  have h3 : (fl_e sp xs m0).length ≤ 366 := h3
  unfold fl_e at h3
  rw [List.length_map, List.length_range] at h3
  have b1 := fm_m_le hok true (Nat.le_refl xs.length)
  have b2 := fm_m_le hok false (show xs.length - 1 ≤ xs.length by omega)
  have b3 := fm_m_bd hok (fl := true) (n := xs.length)
  refine ⟨h1, ?_, ?_, ?_, ?_⟩
  · rw [List.length_nil]; omega
  · omega
  · omega
  · omega
theorem fl_ch1 {cI : ClassId} {Lc : List va_W} {sts : List ch_T} {a hS0 : Nat} {sp : fm_S} {xs : List Int} {m0 m1 : Nat} {g3 : va_W} (h : ch_ok cI Lc sts) (hs : sts[a]? = some (hS0, sp, xs, m0)) (hsg : sg_ok cI hS0 sp xs m1 g3) : ch_ok cI (Lc.set a g3) (sts.set a (hS0, sp, xs, m1)) := ch_upd (s := (hS0, sp, xs, m1)) h hsg
theorem fl_oneE {sts : List ch_T} {a hS0 : Nat} {sp : fm_S} {xs : List Int} {m0 : Nat} (hs : sts[a]? = some (hS0, sp, xs, m0)) : fl_one sts a = ch_it (sts.set a (hS0, sp, xs, m0 + (fm_m sp true xs.length - m0))) (a + 1) (fl_e sp xs m0) ((sts.set a (hS0, sp, xs, m0 + (fm_m sp true xs.length - m0))).length - (a + 1)) := by
  unfold fl_one
  simp only [hs]
  rw [List.length_set]
theorem fl_pre {sts : List ch_T} {Lo Lo2 : List Int32} {nO a hS0 : Nat} {sp : fm_S} {xs : List Int} {m0 : Nat} (hff : fl_fit sts Lo nO) (ha : a < sts.length) (hs : (fl_it sts a).1[a]? = some (hS0, sp, xs, m0)) (hl : Lo2.map Int32.toInt = Lo.map Int32.toInt ++ (fl_it sts a).2) :
    ch_un ((fl_it sts a).1.set a (hS0, sp, xs, m0 + (fm_m sp true xs.length - m0))) (a + 1) ∧ ch_fit ((fl_it sts a).1.set a (hS0, sp, xs, m0 + (fm_m sp true xs.length - m0))) (a + 1) (fl_e sp xs m0) ∧ Lo2.length + (ch_it ((fl_it sts a).1.set a (hS0, sp, xs, m0 + (fm_m sp true xs.length - m0))) (a + 1) (fl_e sp xs m0) (((fl_it sts a).1.set a (hS0, sp, xs, m0 + (fm_m sp true xs.length - m0))).length - (a + 1))).2.length ≤ nO := by
  obtain ⟨-, -, -, h4, h5, h6⟩ := hff a _ ha hs
  refine ⟨h4, h5, ?_⟩
  have h6 : Lo.length + ((fl_it sts a).2 ++ (fl_one (fl_it sts a).1 a).2).length ≤ nO := h6
  rw [List.length_append, fl_oneE hs] at h6
  have e := congrArg List.length hl
  rw [List.length_map, List.length_append, List.length_map] at e
  omega
theorem fl_out {cI : ClassId} {sts : List ch_T} {ff fo2 : Nat → Int32} {Lo Lo2 Lo5 L3 : List Int32} {nO io ii a hS0 : Nat} {Lc : List va_W} {sp : fm_S} {xs : List Int} {m0 : Nat} (hI : a ≤ sts.length ∧ rw_ok 366 ff ii [] ∧ rw_ok nO fo2 io Lo2 ∧ Lo2.map Int32.toInt = Lo.map Int32.toInt ++ (fl_it sts a).2 ∧ ch_ok cI Lc (fl_it sts a).1) (hs : (fl_it sts a).1[a]? = some (hS0, sp, xs, m0))
    (h5 : Lo5.map Int32.toInt = Lo2.map Int32.toInt ++ (ch_it ((fl_it sts a).1.set a (hS0, sp, xs, m0 + (fm_m sp true xs.length - m0))) (a + 1) (L3.map Int32.toInt) (((fl_it sts a).1.set a (hS0, sp, xs, m0 + (fm_m sp true xs.length - m0))).length - (a + 1))).2) (hL3 : L3.map Int32.toInt = fl_e sp xs m0 := by assumption) : Lo5.map Int32.toInt = Lo.map Int32.toInt ++ (fl_it sts (a + 1)).2 := by
  rw [hL3, ← fl_oneE hs, hI.2.2.2.1, List.append_assoc] at h5
  exact h5
theorem fl_ch {cI : ClassId} {sts : List ch_T} {L3 : List Int32} {a hS0 : Nat} {Ls5 : List va_W} {sp : fm_S} {xs : List Int} {m0 : Nat} (hs : (fl_it sts a).1[a]? = some (hS0, sp, xs, m0)) (h5 : ch_ok cI Ls5 (ch_it ((fl_it sts a).1.set a (hS0, sp, xs, m0 + (fm_m sp true xs.length - m0))) (a + 1) (L3.map Int32.toInt) (((fl_it sts a).1.set a (hS0, sp, xs, m0 + (fm_m sp true xs.length - m0))).length - (a + 1))).1) (hL3 : L3.map Int32.toInt = fl_e sp xs m0 := by assumption) : ch_ok cI Ls5 (fl_it sts (a + 1)).1 := by
  rw [hL3, ← fl_oneE hs] at h5
  exact h5
theorem fl_al {tE : Nat} {cO : ClassId} {hL e : Nat} {mo : Int32} {f : Nat → Option Nat} {sts : List ch_T} {a hS0 : Nat} {sp : fm_S} {xs : List Int} {m0 m1 : Nat} (hle : sts.length ≤ 5) (hf : ∀ (k : Nat) (s : ch_T), sts[k]? = some s → f k = some s.1) (hs : (fl_it sts a).1[a]? = some (hS0, sp, xs, m0)) :
    al_W tE cO hL ((fl_it sts a).1.set a (hS0, sp, xs, m1)) [(hL, .inr (11, [.ref e, .int (nI sts.length), .int mo])), (e, .inl (cO, 10, .inr (.inr (.inr (.inr f)))))] := by
  have hl : ((fl_it sts a).1.set a (hS0, sp, xs, m1)).length = sts.length := by rw [List.length_set, fl_len]
  refine Or.inr ⟨e, mo, f, by rw [hl], by rw [hl]; exact hle, fun k s hk => ?_⟩
  have e1 := fl_ads (sts := sts) (a := a) (j := k)
  have e2 : (((fl_it sts a).1.set a (hS0, sp, xs, m1))[k]?).map (·.1) = (sts[k]?).map (·.1) := by
    by_cases c : a = k
    · subst c
      rw [List.getElem?_set_self (List.getElem?_eq_some_iff.mp hs).1, ← e1, hs]; rfl
    · rw [List.getElem?_set_ne c]; exact e1
  rw [hk] at e2
  cases hs2 : sts[k]? with
  | none => rw [hs2] at e2; simp at e2
  | some t =>
    rw [hs2] at e2
    have e2 : some s.1 = some t.1 := e2
    rw [hf k t hs2, ← e2]
/-- all forgotten, one by one -/
def cr_it (sts : List ch_T) : Nat → List ch_T
  | 0 => sts
  | a + 1 => match sts[a]? with
    | some s => (cr_it sts a).set a (s.1, s.2.1, [], 0)
    | none => cr_it sts a
theorem cr_ge {sts : List ch_T} : ∀ {a j : Nat}, a ≤ j → (cr_it sts a)[j]? = sts[j]?
  | 0, j, _ => rfl
  | a + 1, j, h => by
    have ih := cr_ge (sts := sts) (a := a) (j := j) (by omega)
    show (match sts[a]? with | some s => (cr_it sts a).set a (s.1, s.2.1, [], 0) | none => cr_it sts a)[j]? = _
    split
    · rw [List.getElem?_set_ne (by omega)]; exact ih
    · exact ih
theorem cr_cur {sts : List ch_T} {a hS0 : Nat} {sp : fm_S} {xs : List Int} {m0 : Nat} (h : sts[a]? = some (hS0, sp, xs, m0)) : (cr_it sts a)[a]? = some (hS0, sp, xs, m0) := by rw [cr_ge (Nat.le_refl _), h]
theorem cr_ch {cI : ClassId} {Lc : List va_W} {sts : List ch_T} {a hS0 : Nat} {sp : fm_S} {xs : List Int} {m0 : Nat} {g2 : va_W} (h : ch_ok cI Lc (cr_it sts a)) (hs : sts[a]? = some (hS0, sp, xs, m0)) (hsg : sg_ok cI hS0 sp [] 0 g2) : ch_ok cI (Lc.set a g2) (cr_it sts (a + 1)) := by
  have e : cr_it sts (a + 1) = (cr_it sts a).set a (hS0, sp, [], 0) := by
    show (match sts[a]? with | some s => (cr_it sts a).set a (s.1, s.2.1, [], 0) | none => cr_it sts a) = _
    rw [hs]
  rw [e]
  exact ch_upd (s := (hS0, sp, [], 0)) h hsg

theorem dc_Chain_work_0 : decode cb_Chain_work 0 = .ok (.aload_n 0, 1) := by decide +kernel
theorem dc_Chain_work_1 : decode cb_Chain_work 1 = .ok (.getfield 23, 3) := by decide +kernel
theorem dc_Chain_work_4 : decode cb_Chain_work 4 = .ok (.iload_n 1, 1) := by decide +kernel
theorem dc_Chain_work_5 : decode cb_Chain_work 5 = .ok (.invokevirtual 48, 3) := by decide +kernel
theorem dc_Chain_work_8 : decode cb_Chain_work 8 = .ok (.aload_n 0, 1) := by decide +kernel
theorem dc_Chain_work_9 : decode cb_Chain_work 9 = .ok (.iconst 0, 1) := by decide +kernel
theorem dc_Chain_work_10 : decode cb_Chain_work 10 = .ok (.aload_n 2, 1) := by decide +kernel
theorem dc_Chain_work_11 : decode cb_Chain_work 11 = .ok (.invokevirtual 50, 3) := by decide +kernel
theorem dc_Chain_work_14 : decode cb_Chain_work 14 = .ok (.return_, 1) := by decide +kernel
theorem yk_Chain_work : fq_Y my_Chain_work cb_Chain_work 3 none 2 := ⟨wd_605, wd_27, by decide +kernel⟩
theorem dc_Chain_flush_0 : decode cb_Chain_flush 0 = .ok (.iconst 0, 1) := by decide +kernel
theorem dc_Chain_flush_1 : decode cb_Chain_flush 1 = .ok (.istore_n 2, 1) := by decide +kernel
theorem dc_Chain_flush_2 : decode cb_Chain_flush 2 = .ok (.iload_n 2, 1) := by decide +kernel
theorem dc_Chain_flush_3 : decode cb_Chain_flush 3 = .ok (.aload_n 0, 1) := by decide +kernel
theorem dc_Chain_flush_4 : decode cb_Chain_flush 4 = .ok (.getfield 12, 3) := by decide +kernel
theorem dc_Chain_flush_7 : decode cb_Chain_flush 7 = .ok (.invokevirtual 27, 3) := by decide +kernel
theorem dc_Chain_flush_10 : decode cb_Chain_flush 10 = .ok (.if_icmp .ge 38, 3) := by decide +kernel
theorem dc_Chain_flush_13 : decode cb_Chain_flush 13 = .ok (.aload_n 0, 1) := by decide +kernel
theorem dc_Chain_flush_14 : decode cb_Chain_flush 14 = .ok (.getfield 12, 3) := by decide +kernel
theorem dc_Chain_flush_17 : decode cb_Chain_flush 17 = .ok (.iload_n 2, 1) := by decide +kernel
theorem dc_Chain_flush_18 : decode cb_Chain_flush 18 = .ok (.invokevirtual 31, 3) := by decide +kernel
theorem dc_Chain_flush_21 : decode cb_Chain_flush 21 = .ok (.checkcast 35, 3) := by decide +kernel
theorem dc_Chain_flush_24 : decode cb_Chain_flush 24 = .ok (.astore_n 3, 1) := by decide +kernel
theorem dc_Chain_flush_25 : decode cb_Chain_flush 25 = .ok (.aload_n 0, 1) := by decide +kernel
theorem dc_Chain_flush_26 : decode cb_Chain_flush 26 = .ok (.aload_n 3, 1) := by decide +kernel
theorem dc_Chain_flush_27 : decode cb_Chain_flush 27 = .ok (.aload_n 3, 1) := by decide +kernel
theorem dc_Chain_flush_28 : decode cb_Chain_flush 28 = .ok (.invokevirtual 54, 3) := by decide +kernel
theorem dc_Chain_flush_31 : decode cb_Chain_flush 31 = .ok (.invokevirtual 57, 3) := by decide +kernel
theorem dc_Chain_flush_34 : decode cb_Chain_flush 34 = .ok (.aload_n 0, 1) := by decide +kernel
theorem dc_Chain_flush_35 : decode cb_Chain_flush 35 = .ok (.iload_n 2, 1) := by decide +kernel
theorem dc_Chain_flush_36 : decode cb_Chain_flush 36 = .ok (.iconst 1, 1) := by decide +kernel
theorem dc_Chain_flush_37 : decode cb_Chain_flush 37 = .ok (.iadd, 1) := by decide +kernel
theorem dc_Chain_flush_38 : decode cb_Chain_flush 38 = .ok (.aload_n 1, 1) := by decide +kernel
theorem dc_Chain_flush_39 : decode cb_Chain_flush 39 = .ok (.invokevirtual 50, 3) := by decide +kernel
theorem dc_Chain_flush_42 : decode cb_Chain_flush 42 = .ok (.iinc 2 1, 3) := by decide +kernel
theorem dc_Chain_flush_45 : decode cb_Chain_flush 45 = .ok (.goto (-43), 3) := by decide +kernel
theorem dc_Chain_flush_48 : decode cb_Chain_flush 48 = .ok (.return_, 1) := by decide +kernel
theorem yk_Chain_flush : fq_Y my_Chain_flush cb_Chain_flush 4 none 1 := ⟨wd_690, wd_27, by decide +kernel⟩
theorem dc_Chain_forgetSamples_0 : decode cb_Chain_forgetSamples 0 = .ok (.iconst 0, 1) := by decide +kernel
theorem dc_Chain_forgetSamples_1 : decode cb_Chain_forgetSamples 1 = .ok (.istore_n 1, 1) := by decide +kernel
theorem dc_Chain_forgetSamples_2 : decode cb_Chain_forgetSamples 2 = .ok (.iload_n 1, 1) := by decide +kernel
theorem dc_Chain_forgetSamples_3 : decode cb_Chain_forgetSamples 3 = .ok (.aload_n 0, 1) := by decide +kernel
theorem dc_Chain_forgetSamples_4 : decode cb_Chain_forgetSamples 4 = .ok (.getfield 12, 3) := by decide +kernel
theorem dc_Chain_forgetSamples_7 : decode cb_Chain_forgetSamples 7 = .ok (.invokevirtual 27, 3) := by decide +kernel
theorem dc_Chain_forgetSamples_10 : decode cb_Chain_forgetSamples 10 = .ok (.if_icmp .ge 23, 3) := by decide +kernel
theorem dc_Chain_forgetSamples_13 : decode cb_Chain_forgetSamples 13 = .ok (.aload_n 0, 1) := by decide +kernel
theorem dc_Chain_forgetSamples_14 : decode cb_Chain_forgetSamples 14 = .ok (.getfield 12, 3) := by decide +kernel
theorem dc_Chain_forgetSamples_17 : decode cb_Chain_forgetSamples 17 = .ok (.iload_n 1, 1) := by decide +kernel
theorem dc_Chain_forgetSamples_18 : decode cb_Chain_forgetSamples 18 = .ok (.invokevirtual 31, 3) := by decide +kernel
theorem dc_Chain_forgetSamples_21 : decode cb_Chain_forgetSamples 21 = .ok (.checkcast 35, 3) := by decide +kernel
theorem dc_Chain_forgetSamples_24 : decode cb_Chain_forgetSamples 24 = .ok (.invokevirtual 45, 3) := by decide +kernel
theorem dc_Chain_forgetSamples_27 : decode cb_Chain_forgetSamples 27 = .ok (.iinc 1 1, 3) := by decide +kernel
theorem dc_Chain_forgetSamples_30 : decode cb_Chain_forgetSamples 30 = .ok (.goto (-28), 3) := by decide +kernel
theorem dc_Chain_forgetSamples_33 : decode cb_Chain_forgetSamples 33 = .ok (.return_, 1) := by decide +kernel
theorem yk_Chain_forgetSamples : fq_Y my_Chain_forgetSamples cb_Chain_forgetSamples 2 none 0 := ⟨wd_516, wd_27, by decide +kernel⟩
theorem dc_Chain_init_0 : decode cb_Chain_init 0 = .ok (.aload_n 0, 1) := by decide +kernel
theorem dc_Chain_init_1 : decode cb_Chain_init 1 = .ok (.invokespecial 3, 3) := by decide +kernel
theorem dc_Chain_init_4 : decode cb_Chain_init 4 = .ok (.aload_n 0, 1) := by decide +kernel
theorem dc_Chain_init_5 : decode cb_Chain_init 5 = .ok (.new 9, 3) := by decide +kernel
theorem dc_Chain_init_8 : decode cb_Chain_init 8 = .ok (.dup, 1) := by decide +kernel
theorem dc_Chain_init_9 : decode cb_Chain_init 9 = .ok (.invokespecial 11, 3) := by decide +kernel
theorem dc_Chain_init_12 : decode cb_Chain_init 12 = .ok (.putfield 12, 3) := by decide +kernel
theorem dc_Chain_init_15 : decode cb_Chain_init 15 = .ok (.aload_n 0, 1) := by decide +kernel
theorem dc_Chain_init_16 : decode cb_Chain_init 16 = .ok (.new 18, 3) := by decide +kernel
theorem dc_Chain_init_19 : decode cb_Chain_init 19 = .ok (.dup, 1) := by decide +kernel
theorem dc_Chain_init_20 : decode cb_Chain_init 20 = .ok (.sipush 366, 3) := by decide +kernel
theorem dc_Chain_init_23 : decode cb_Chain_init 23 = .ok (.invokespecial 20, 3) := by decide +kernel
theorem dc_Chain_init_26 : decode cb_Chain_init 26 = .ok (.putfield 23, 3) := by decide +kernel
theorem dc_Chain_init_29 : decode cb_Chain_init 29 = .ok (.return_, 1) := by decide +kernel
theorem yk_Chain_init : fq_Y my_Chain_init cb_Chain_init 1 none 0 := ⟨wd_60, wd_27, by decide +kernel⟩
set_option maxHeartbeats 4000000 in
set_option maxRecDepth 100000 in
theorem ct_Chain_work (l : Launch) (D : va_G) (cI cO : ClassId) (tE : Nat) (h hL hR aR : Nat) (rs : Int32) (f : Nat → Int32) (i : Nat) (x : Int32) (hO aO nO : Nat) (fo : Nat → Int32) (io : Nat) (Lo : List Int32) (sts : List ch_T) (wl : va_W) (Ls : List va_W) (hrow : rw_ok 366 f i []) (hal : al_W tE cO hL sts wl) (hch : ch_ok cI Ls sts) (hrowO : rw_ok nO fo io Lo) (hun : ch_un sts 0) (hfit : ch_fit sts 0 [x.toInt]) (hcapO : Lo.length + (ch_it sts 0 [x.toInt] sts.length).2.length ≤ nO) (sz : Nat) : Met l my_Chain_work (fq_w my_Chain_work cb_Chain_work 3 none) ({ frames := 5, cells := 0, slots := 0, locals := 112 }) (va_Pc ([.ref h, .int x, .ref hO]) (fq_Pre D cI cO tE sz ([(h, .inr (6, [.ref hL, .ref hR, .int rs])), (hR, .inr (0, [.ref aR, .int (nI i), .int (nI ([] : List Int32).length)])), (aR, .inl (cI, 366, .inl f)), (hO, .inr (0, [.ref aO, .int (nI io), .int (nI Lo.length)])), (aO, .inl (cI, nO, .inl fo))] ++ (wl :: Ls).flatten))) (va_Qv (S := va_W) (fun w => ∃ (f2 : Nat → Int32) (i2 : Nat) (fo2 : Nat → Int32) (Lo2 : List Int32) (Ls2 : List va_W), w = [(h, .inr (6, [.ref hL, .ref hR, .int rs])), (hR, .inr (0, [.ref aR, .int (nI i2), .int (nI ([] : List Int32).length)])), (aR, .inl (cI, 366, .inl f2)), (hO, .inr (0, [.ref aO, .int (nI io), .int (nI Lo2.length)])), (aO, .inl (cI, nO, .inl fo2))] ++ (wl :: Ls2).flatten ∧ rw_ok 366 f2 i2 [] ∧ rw_ok nO fo2 io Lo2 ∧ Lo2.map Int32.toInt = Lo.map Int32.toInt ++ (ch_it sts 0 [x.toInt] sts.length).2 ∧ ch_ok cI Ls2 (ch_it sts 0 [x.toInt] sts.length).1) (fq_Bw D (va_A ([(h, .inr (6, [.ref hL, .ref hR, .int rs])), (hR, .inr (0, [.ref aR, .int (nI i), .int (nI ([] : List Int32).length)])), (aR, .inl (cI, 366, .inl f)), (hO, .inr (0, [.ref aO, .int (nI io), .int (nI Lo.length)])), (aO, .inl (cI, nO, .inl fo))] ++ (wl :: Ls).flatten) sz)) (va_A ([(h, .inr (6, [.ref hL, .ref hR, .int rs])), (hR, .inr (0, [.ref aR, .int (nI i), .int (nI ([] : List Int32).length)])), (aR, .inl (cI, 366, .inl f)), (hO, .inr (0, [.ref aO, .int (nI io), .int (nI Lo.length)])), (aO, .inl (cI, nO, .inl fo))] ++ (wl :: Ls).flatten) sz)) (0) (0) (va_A ([(h, .inr (6, [.ref hL, .ref hR, .int rs])), (hR, .inr (0, [.ref aR, .int (nI i), .int (nI ([] : List Int32).length)])), (aR, .inl (cI, 366, .inl f)), (hO, .inr (0, [.ref aO, .int (nI io), .int (nI Lo.length)])), (aO, .inl (cI, nO, .inl fo))] ++ (wl :: Ls).flatten) sz) := by
  refine fq_open (by decide +kernel) (Nat.le_of_ble_eq_true rfl) ?_
  intro pg ev s mt below meth cd ls K hret hlk hin hK hZ hP hD hA hS hl
  generalize va_A ([(h, .inr (6, [.ref hL, .ref hR, .int rs])), (hR, .inr (0, [.ref aR, .int (nI i), .int (nI ([] : List Int32).length)])), (aR, .inl (cI, 366, .inl f)), (hO, .inr (0, [.ref aO, .int (nI io), .int (nI Lo.length)])), (aO, .inl (cI, nO, .inl fo))] ++ (wl :: Ls).flatten) sz = A at hZ hD hA hS ⊢
  have K : fq_Ctx pg mt cd cb_Chain_work 3 s _ cn_Chain := K
  have hl : lv_has ls 3 [(0, .ref h), (1, .int x), (2, .ref hO)] := hl
  refine lv_aload_n K.1 K.2.1 dc_Chain_work_0 rfl (lv_at hl 0 rfl) ?_
  refine fq_get K hK cl_Chain hP 0 1 rfl (by decide) wd_106 rfl dc_Chain_work_1 ?_
  refine lv_iload_n K.1 K.2.1 dc_Chain_work_4 rfl (lv_at hl 1 rfl) ?_
  have hc := fq_cutT (X := [(h, .inr (6, [.ref hL, .ref hR, .int rs])), (hR, .inr (0, [.ref aR, .int (nI i), .int (nI ([] : List Int32).length)])), (aR, .inl (cI, 366, .inl f)), (hO, .inr (0, [.ref aO, .int (nI io), .int (nI Lo.length)])), (aO, .inl (cI, nO, .inl fo))]) (T := (wl :: Ls).flatten) (cx := [(hR, .inr (0, [.ref aR, .int (nI i), .int (nI ([] : List Int32).length)])), (aR, .inl (cI, 366, .inl f))]) hP hD hS hA [1, 2] (by decide) rfl
  refine fq_cvT (wr := [(h, .inr (6, [.ref hL, .ref hR, .int rs])), (hO, .inr (0, [.ref aO, .int (nI io), .int (nI Lo.length)])), (aO, .inl (cI, nO, .inl fo))]) (fq_rV K hK hZ hS hc (ct_Row_add l D cI cO tE hR aR 366 f i ([] : List Int32) x hrow _) yk_Row_add wd_554 wd_555 wd_606 0 rfl rfl rfl ⟨⟨rfl, rfl⟩, ⟨Nat.le_of_ble_eq_true rfl, Nat.le_of_ble_eq_true rfl⟩, ⟨Nat.le_of_ble_eq_true rfl, Nat.le_of_ble_eq_true rfl⟩⟩ hl.1 rfl (Nat.le_of_ble_eq_true rfl) dc_Chain_work_5) hP hD hS hc [1, 2] [0, 3, 4] rfl rfl (by decide) (by decide) (fun  w H locs hw1 hP hD hS => ?_)
  obtain ⟨g1, rfl, hrow1⟩ := hw1
  have hP : va_P D fq_cl ([(h, .inr (6, [.ref hL, .ref hR, .int rs])), (hO, .inr (0, [.ref aO, .int (nI io), .int (nI Lo.length)])), (aO, .inl (cI, nO, .inl fo)), (hR, .inr (0, [.ref aR, .int (nI i), .int (nI (rw_put 366 ([] : List Int32) x).length)])), (aR, .inl (cI, 366, .inl g1))] ++ (wl :: Ls).flatten) _ := hP
  have hD : va_D A ([(h, .inr (6, [.ref hL, .ref hR, .int rs])), (hO, .inr (0, [.ref aO, .int (nI io), .int (nI Lo.length)])), (aO, .inl (cI, nO, .inl fo)), (hR, .inr (0, [.ref aR, .int (nI i), .int (nI (rw_put 366 ([] : List Int32) x).length)])), (aR, .inl (cI, 366, .inl g1))] ++ (wl :: Ls).flatten) := hD
  have hP : va_P D fq_cl ([(h, .inr (6, [.ref hL, .ref hR, .int rs])), (hO, .inr (0, [.ref aO, .int (nI io), .int (nI Lo.length)])), (aO, .inl (cI, nO, .inl fo)), (hR, .inr (0, [.ref aR, .int (nI i), .int (nI ([x] : List Int32).length)])), (aR, .inl (cI, 366, .inl g1))] ++ (wl :: Ls).flatten) _ := hP
  have hD : va_D A ([(h, .inr (6, [.ref hL, .ref hR, .int rs])), (hO, .inr (0, [.ref aO, .int (nI io), .int (nI Lo.length)])), (aO, .inl (cI, nO, .inl fo)), (hR, .inr (0, [.ref aR, .int (nI i), .int (nI ([x] : List Int32).length)])), (aR, .inl (cI, 366, .inl g1))] ++ (wl :: Ls).flatten) := hD
  have hrx : rw_ok 366 g1 i [x] := hrow1
  refine lv_aload_n K.1 K.2.1 dc_Chain_work_8 rfl (lv_at hl 0 rfl) ?_
  refine lv_iconst (v := 0) K.1 K.2.1 dc_Chain_work_9 (by decide) ?_
  refine lv_aload_n K.1 K.2.1 dc_Chain_work_10 rfl (lv_at hl 2 rfl) ?_
  have hP := va_P.part (X := [(h, .inr (6, [.ref hL, .ref hR, .int rs])), (hO, .inr (0, [.ref aO, .int (nI io), .int (nI Lo.length)])), (aO, .inl (cI, nO, .inl fo)), (hR, .inr (0, [.ref aR, .int (nI i), .int (nI ([x] : List Int32).length)])), (aR, .inl (cI, 366, .inl g1))]) (cx := [(h, .inr (6, [.ref hL, .ref hR, .int rs])), (hR, .inr (0, [.ref aR, .int (nI i), .int (nI ([x] : List Int32).length)])), (aR, .inl (cI, 366, .inl g1)), (hO, .inr (0, [.ref aO, .int (nI io), .int (nI Lo.length)])), (aO, .inl (cI, nO, .inl fo))]) hP [0, 3, 4, 1, 2] rfl
  have hD := va_D.part (X := [(h, .inr (6, [.ref hL, .ref hR, .int rs])), (hO, .inr (0, [.ref aO, .int (nI io), .int (nI Lo.length)])), (aO, .inl (cI, nO, .inl fo)), (hR, .inr (0, [.ref aR, .int (nI i), .int (nI ([x] : List Int32).length)])), (aR, .inl (cI, 366, .inl g1))]) (cx := [(h, .inr (6, [.ref hL, .ref hR, .int rs])), (hR, .inr (0, [.ref aR, .int (nI i), .int (nI ([x] : List Int32).length)])), (aR, .inl (cI, 366, .inl g1)), (hO, .inr (0, [.ref aO, .int (nI io), .int (nI Lo.length)])), (aO, .inl (cI, nO, .inl fo))]) hD [0, 3, 4, 1, 2] (by decide) rfl
  have hP : va_P D fq_cl ([(h, .inr (6, [.ref hL, .ref hR, .int rs])), (hR, .inr (0, [.ref aR, .int (nI i), .int (nI ([x] : List Int32).length)])), (aR, .inl (cI, 366, .inl g1)), (hO, .inr (0, [.ref aO, .int (nI io), .int (nI Lo.length)])), (aO, .inl (cI, nO, .inl fo))] ++ (wl :: Ls).flatten) _ := hP
  have hD : va_D A ([(h, .inr (6, [.ref hL, .ref hR, .int rs])), (hR, .inr (0, [.ref aR, .int (nI i), .int (nI ([x] : List Int32).length)])), (aR, .inl (cI, 366, .inl g1)), (hO, .inr (0, [.ref aO, .int (nI io), .int (nI Lo.length)])), (aO, .inl (cI, nO, .inl fo))] ++ (wl :: Ls).flatten) := hD
  have hcp := fq_cutR (wr := []) fq_nil hP hD hS hA
  refine fq_cvR (fq_rV K hK hZ hS hcp (ct_Chain_passThrough l D cI cO tE h hL hR aR rs g1 i ([x]) hO aO nO fo io Lo 0 sts wl Ls hrx hrowO hal hch (Nat.zero_le _) hun hfit hcapO _) yk_Chain_passThrough wd_609 wd_8 wd_607 0 rfl rfl rfl ⟨⟨rfl, rfl⟩, ⟨Nat.le_of_ble_eq_true rfl, Nat.le_of_ble_eq_true rfl⟩, ⟨Nat.le_of_ble_eq_true rfl, Nat.le_of_ble_eq_true rfl⟩⟩ hl.1 rfl (Nat.le_of_ble_eq_true rfl) dc_Chain_work_11) hP hD hS hcp fq_nil (fun w H locs hw hP hD hS => ?_)
  obtain ⟨f5, i5, fo5, Lo5, Ls5, rfl, hr5, hro5, hLo5, hch5⟩ := hw
  rw [List.append_nil] at hP hD
  have hP : va_P D fq_cl ([(h, .inr (6, [.ref hL, .ref hR, .int rs])), (hR, .inr (0, [.ref aR, .int (nI i5), .int (nI ([] : List Int32).length)])), (aR, .inl (cI, 366, .inl f5)), (hO, .inr (0, [.ref aO, .int (nI io), .int (nI Lo5.length)])), (aO, .inl (cI, nO, .inl fo5))] ++ (wl :: Ls5).flatten) _ := hP
  have hD : va_D A ([(h, .inr (6, [.ref hL, .ref hR, .int rs])), (hR, .inr (0, [.ref aR, .int (nI i5), .int (nI ([] : List Int32).length)])), (aR, .inl (cI, 366, .inl f5)), (hO, .inr (0, [.ref aO, .int (nI io), .int (nI Lo5.length)])), (aO, .inl (cI, nO, .inl fo5))] ++ (wl :: Ls5).flatten) := hD
  exact fq_retv K hret hlk hS hP hD ⟨_, _, _, _, _, rfl, hr5, hro5, hLo5, hch5⟩ dc_Chain_work_14 (Nat.le_of_ble_eq_true rfl) (Nat.le_of_ble_eq_true rfl)
set_option maxHeartbeats 4000000 in
set_option maxRecDepth 100000 in
theorem ct_Chain_flush (l : Launch) (D : va_G) (cI cO : ClassId) (tE : Nat) (h hL hR aR : Nat) (rs : Int32) (f : Nat → Int32) (i : Nat) (hO aO nO : Nat) (fo : Nat → Int32) (io : Nat) (Lo : List Int32) (sts : List ch_T) (wl : va_W) (Ls : List va_W) (hrow : rw_ok 366 f i []) (hal : al_W tE cO hL sts wl) (hch : ch_ok cI Ls sts) (hrowO : rw_ok nO fo io Lo) (hff : fl_fit sts Lo nO) (sz : Nat) : Met l my_Chain_flush (fq_w my_Chain_flush cb_Chain_flush 4 none) ({ frames := 5, cells := 0, slots := 0, locals := 112 }) (va_Pc ([.ref h, .ref hO]) (fq_Pre D cI cO tE sz ([(h, .inr (6, [.ref hL, .ref hR, .int rs])), (hR, .inr (0, [.ref aR, .int (nI i), .int (nI ([] : List Int32).length)])), (aR, .inl (cI, 366, .inl f)), (hO, .inr (0, [.ref aO, .int (nI io), .int (nI Lo.length)])), (aO, .inl (cI, nO, .inl fo))] ++ (wl :: Ls).flatten))) (va_Qv (S := va_W) (fun w => ∃ (f2 : Nat → Int32) (i2 : Nat) (fo2 : Nat → Int32) (Lo2 : List Int32) (Ls2 : List va_W), w = [(h, .inr (6, [.ref hL, .ref hR, .int rs])), (hR, .inr (0, [.ref aR, .int (nI i2), .int (nI ([] : List Int32).length)])), (aR, .inl (cI, 366, .inl f2)), (hO, .inr (0, [.ref aO, .int (nI io), .int (nI Lo2.length)])), (aO, .inl (cI, nO, .inl fo2))] ++ (wl :: Ls2).flatten ∧ rw_ok 366 f2 i2 [] ∧ rw_ok nO fo2 io Lo2 ∧ Lo2.map Int32.toInt = Lo.map Int32.toInt ++ (fl_it sts sts.length).2 ∧ ch_ok cI Ls2 (fl_it sts sts.length).1) (fq_Bw D (va_A ([(h, .inr (6, [.ref hL, .ref hR, .int rs])), (hR, .inr (0, [.ref aR, .int (nI i), .int (nI ([] : List Int32).length)])), (aR, .inl (cI, 366, .inl f)), (hO, .inr (0, [.ref aO, .int (nI io), .int (nI Lo.length)])), (aO, .inl (cI, nO, .inl fo))] ++ (wl :: Ls).flatten) sz)) (va_A ([(h, .inr (6, [.ref hL, .ref hR, .int rs])), (hR, .inr (0, [.ref aR, .int (nI i), .int (nI ([] : List Int32).length)])), (aR, .inl (cI, 366, .inl f)), (hO, .inr (0, [.ref aO, .int (nI io), .int (nI Lo.length)])), (aO, .inl (cI, nO, .inl fo))] ++ (wl :: Ls).flatten) sz)) (0) (0) (va_A ([(h, .inr (6, [.ref hL, .ref hR, .int rs])), (hR, .inr (0, [.ref aR, .int (nI i), .int (nI ([] : List Int32).length)])), (aR, .inl (cI, 366, .inl f)), (hO, .inr (0, [.ref aO, .int (nI io), .int (nI Lo.length)])), (aO, .inl (cI, nO, .inl fo))] ++ (wl :: Ls).flatten) sz) := by
  refine fq_open (by decide +kernel) (Nat.le_of_ble_eq_true rfl) ?_
  intro pg ev s mt below meth cd ls K hret hlk hin hK hZ hP hD hA hS hl
  generalize va_A ([(h, .inr (6, [.ref hL, .ref hR, .int rs])), (hR, .inr (0, [.ref aR, .int (nI i), .int (nI ([] : List Int32).length)])), (aR, .inl (cI, 366, .inl f)), (hO, .inr (0, [.ref aO, .int (nI io), .int (nI Lo.length)])), (aO, .inl (cI, nO, .inl fo))] ++ (wl :: Ls).flatten) sz = A at hZ hD hA hS ⊢
  have K : fq_Ctx pg mt cd cb_Chain_flush 4 s _ cn_Chain := K
  have hl : lv_has ls 4 [(0, .ref h), (1, .ref hO)] := hl
  rcases hal with ⟨hnil, mo, rfl⟩ | ⟨eE, mo, fE, rfl, hle, hfE⟩
  · skip
    have hP : va_P D fq_cl ([(h, .inr (6, [.ref hL, .ref hR, .int rs])), (hR, .inr (0, [.ref aR, .int (nI i), .int (nI ([] : List Int32).length)])), (aR, .inl (cI, 366, .inl f)), (hO, .inr (0, [.ref aO, .int (nI io), .int (nI Lo.length)])), (aO, .inl (cI, nO, .inl fo)), (hL, .inr (11, [.ref tE, .int (nI 0), .int mo]))] ++ Ls.flatten) _ := hP
    have hD : va_D A ([(h, .inr (6, [.ref hL, .ref hR, .int rs])), (hR, .inr (0, [.ref aR, .int (nI i), .int (nI ([] : List Int32).length)])), (aR, .inl (cI, 366, .inl f)), (hO, .inr (0, [.ref aO, .int (nI io), .int (nI Lo.length)])), (aO, .inl (cI, nO, .inl fo)), (hL, .inr (11, [.ref tE, .int (nI 0), .int mo]))] ++ Ls.flatten) := hD
    refine lv_iconst (v := 0) K.1 K.2.1 dc_Chain_flush_0 (by decide) ?_
    refine lv_istore_n K.1 K.2.1 dc_Chain_flush_1 rfl hl (by decide) rfl (fun ls hl => ?_)
    have hl : lv_has ls 4 [(2, .int 0), (0, .ref h), (1, .ref hO)] := hl
    refine lv_iload_n K.1 K.2.1 dc_Chain_flush_2 rfl (lv_at hl 0 rfl) ?_
    refine lv_aload_n K.1 K.2.1 dc_Chain_flush_3 rfl (lv_at hl 1 rfl) ?_
    refine fq_get K hK cl_Chain hP 0 0 rfl (by decide) wd_105 rfl dc_Chain_flush_4 ?_
    have hc := fq_cutT (X := [(h, .inr (6, [.ref hL, .ref hR, .int rs])), (hR, .inr (0, [.ref aR, .int (nI i), .int (nI ([] : List Int32).length)])), (aR, .inl (cI, 366, .inl f)), (hO, .inr (0, [.ref aO, .int (nI io), .int (nI Lo.length)])), (aO, .inl (cI, nO, .inl fo)), (hL, .inr (11, [.ref tE, .int (nI 0), .int mo]))]) (T := Ls.flatten) (cx := [(hL, .inr (11, [.ref tE, .int (nI 0), .int mo]))]) hP hD hS hA [5] (by decide) rfl
    refine fq_ciT (wr := [(h, .inr (6, [.ref hL, .ref hR, .int rs])), (hR, .inr (0, [.ref aR, .int (nI i), .int (nI ([] : List Int32).length)])), (aR, .inl (cI, 366, .inl f)), (hO, .inr (0, [.ref aO, .int (nI io), .int (nI Lo.length)])), (aO, .inl (cI, nO, .inl fo))]) (fq_rV K hK hZ hS hc (ct_AL_size l D cI cO tE hL tE (nI 0) mo _) yk_AL_size wd_229 wd_230 wd_228 0 rfl rfl rfl ⟨⟨rfl, rfl⟩, ⟨Nat.le_of_ble_eq_true rfl, Nat.le_of_ble_eq_true rfl⟩, ⟨Nat.le_of_ble_eq_true rfl, Nat.le_of_ble_eq_true rfl⟩⟩ hl.1 rfl (Nat.le_of_ble_eq_true rfl) dc_Chain_flush_7) hP hD hS hc [5] [0, 1, 2, 3, 4] rfl rfl (by decide) (by decide) (fun r1 w H locs hw1 hP hD hS => ?_)
    obtain ⟨rfl, rfl⟩ := hw1
    have hP : va_P D fq_cl ([(h, .inr (6, [.ref hL, .ref hR, .int rs])), (hR, .inr (0, [.ref aR, .int (nI i), .int (nI ([] : List Int32).length)])), (aR, .inl (cI, 366, .inl f)), (hO, .inr (0, [.ref aO, .int (nI io), .int (nI Lo.length)])), (aO, .inl (cI, nO, .inl fo)), (hL, .inr (11, [.ref tE, .int (nI 0), .int mo]))] ++ Ls.flatten) _ := hP
    have hD : va_D A ([(h, .inr (6, [.ref hL, .ref hR, .int rs])), (hR, .inr (0, [.ref aR, .int (nI i), .int (nI ([] : List Int32).length)])), (aR, .inl (cI, 366, .inl f)), (hO, .inr (0, [.ref aO, .int (nI io), .int (nI Lo.length)])), (aO, .inl (cI, nO, .inl fo)), (hL, .inr (11, [.ref tE, .int (nI 0), .int mo]))] ++ Ls.flatten) := hD
    refine lv_icmp_ge (tgt := 48) K.1 K.2.1 dc_Chain_flush_10 rfl (fun b10 => ?_) (fun b10 => absurd (nI_leI (by decide) (by decide) |>.mpr (Nat.zero_le _)) b10)
    have hP : va_P D fq_cl ([(h, .inr (6, [.ref hL, .ref hR, .int rs])), (hR, .inr (0, [.ref aR, .int (nI i), .int (nI ([] : List Int32).length)])), (aR, .inl (cI, 366, .inl f)), (hO, .inr (0, [.ref aO, .int (nI io), .int (nI Lo.length)])), (aO, .inl (cI, nO, .inl fo))] ++ ([(hL, .inr (11, [.ref tE, .int (nI 0), .int mo]))] :: Ls).flatten) _ := hP
    have hD : va_D A ([(h, .inr (6, [.ref hL, .ref hR, .int rs])), (hR, .inr (0, [.ref aR, .int (nI i), .int (nI ([] : List Int32).length)])), (aR, .inl (cI, 366, .inl f)), (hO, .inr (0, [.ref aO, .int (nI io), .int (nI Lo.length)])), (aO, .inl (cI, nO, .inl fo))] ++ ([(hL, .inr (11, [.ref tE, .int (nI 0), .int mo]))] :: Ls).flatten) := hD
    exact fq_retv K hret hlk hS hP hD ⟨_, _, _, _, _, rfl, hrow, hrowO, by rw [hnil]; exact (List.append_nil _).symm, by rw [hnil]; rw [hnil] at hch; exact hch⟩ dc_Chain_flush_48 (Nat.le_of_ble_eq_true rfl) (Nat.le_of_ble_eq_true rfl)
  · skip
    have hP : va_P D fq_cl ([(h, .inr (6, [.ref hL, .ref hR, .int rs])), (hR, .inr (0, [.ref aR, .int (nI i), .int (nI ([] : List Int32).length)])), (aR, .inl (cI, 366, .inl f)), (hO, .inr (0, [.ref aO, .int (nI io), .int (nI Lo.length)])), (aO, .inl (cI, nO, .inl fo)), (hL, .inr (11, [.ref eE, .int (nI sts.length), .int mo])), (eE, .inl (cO, 10, .inr (.inr (.inr (.inr fE)))))] ++ Ls.flatten) _ := hP
    have hD : va_D A ([(h, .inr (6, [.ref hL, .ref hR, .int rs])), (hR, .inr (0, [.ref aR, .int (nI i), .int (nI ([] : List Int32).length)])), (aR, .inl (cI, 366, .inl f)), (hO, .inr (0, [.ref aO, .int (nI io), .int (nI Lo.length)])), (aO, .inl (cI, nO, .inl fo)), (hL, .inr (11, [.ref eE, .int (nI sts.length), .int mo])), (eE, .inl (cO, 10, .inr (.inr (.inr (.inr fE)))))] ++ Ls.flatten) := hD
    refine lv_iconst (v := 0) K.1 K.2.1 dc_Chain_flush_0 (by decide) ?_
    refine lv_istore_n K.1 K.2.1 dc_Chain_flush_1 rfl hl (by decide) rfl (fun ls hl => ?_)
    have hl : lv_has ls 4 [(2, .int 0), (0, .ref h), (1, .ref hO)] := hl
    refine fq_lp (σ := Nat × (Nat → Int32) × Nat × (Nat → Int32) × List Int32 × List va_W) (fun x => sts.length - x.1) (fun x H locs ls => (x.1 ≤ sts.length ∧ rw_ok 366 x.2.1 x.2.2.1 [] ∧ rw_ok nO x.2.2.2.1 io x.2.2.2.2.1 ∧ x.2.2.2.2.1.map Int32.toInt = Lo.map Int32.toInt ++ (fl_it sts x.1).2 ∧ ch_ok cI x.2.2.2.2.2 (fl_it sts x.1).1) ∧ lv_has ls 4 [(0, .ref h), (1, .ref hO), (2, .int (nI x.1))] ∧ va_P D fq_cl ([(h, .inr (6, [.ref hL, .ref hR, .int rs])), (hR, .inr (0, [.ref aR, .int (nI x.2.2.1), .int (nI ([] : List Int32).length)])), (aR, .inl (cI, 366, .inl x.2.1)), (hO, .inr (0, [.ref aO, .int (nI io), .int (nI x.2.2.2.2.1.length)])), (aO, .inl (cI, nO, .inl x.2.2.2.1)), (hL, .inr (11, [.ref eE, .int (nI sts.length), .int mo])), (eE, .inl (cO, 10, .inr (.inr (.inr (.inr fE)))))] ++ x.2.2.2.2.2.flatten) H ∧ va_D A ([(h, .inr (6, [.ref hL, .ref hR, .int rs])), (hR, .inr (0, [.ref aR, .int (nI x.2.2.1), .int (nI ([] : List Int32).length)])), (aR, .inl (cI, 366, .inl x.2.1)), (hO, .inr (0, [.ref aO, .int (nI io), .int (nI x.2.2.2.2.1.length)])), (aO, .inl (cI, nO, .inl x.2.2.2.1)), (hL, .inr (11, [.ref eE, .int (nI sts.length), .int mo])), (eE, .inl (cO, 10, .inr (.inr (.inr (.inr fE)))))] ++ x.2.2.2.2.2.flatten) ∧ va_S A s.heap H locs) ?_ (0, f, i, fo, Lo, Ls) _ _ _ ⟨⟨Nat.zero_le _, hrow, hrowO, (List.append_nil _).symm, hch⟩, lv_sub hl [1, 2, 0] rfl, hP, hD, hS⟩
    rintro ⟨a, ff, ii, fo2, Lo2, Lc⟩ H locs ls ⟨hI2, hl, hP, hD, hS⟩ ih2
    have hI2 : a ≤ sts.length ∧ rw_ok 366 ff ii [] ∧ rw_ok nO fo2 io Lo2 ∧ Lo2.map Int32.toInt = Lo.map Int32.toInt ++ (fl_it sts a).2 ∧ ch_ok cI Lc (fl_it sts a).1 := hI2
    have hl : lv_has ls 4 [(0, .ref h), (1, .ref hO), (2, .int (nI a))] := hl
    have hP : va_P D fq_cl ([(h, .inr (6, [.ref hL, .ref hR, .int rs])), (hR, .inr (0, [.ref aR, .int (nI ii), .int (nI ([] : List Int32).length)])), (aR, .inl (cI, 366, .inl ff)), (hO, .inr (0, [.ref aO, .int (nI io), .int (nI Lo2.length)])), (aO, .inl (cI, nO, .inl fo2)), (hL, .inr (11, [.ref eE, .int (nI sts.length), .int mo])), (eE, .inl (cO, 10, .inr (.inr (.inr (.inr fE)))))] ++ Lc.flatten) _ := hP
    have hD : va_D A ([(h, .inr (6, [.ref hL, .ref hR, .int rs])), (hR, .inr (0, [.ref aR, .int (nI ii), .int (nI ([] : List Int32).length)])), (aR, .inl (cI, 366, .inl ff)), (hO, .inr (0, [.ref aO, .int (nI io), .int (nI Lo2.length)])), (aO, .inl (cI, nO, .inl fo2)), (hL, .inr (11, [.ref eE, .int (nI sts.length), .int mo])), (eE, .inl (cO, 10, .inr (.inr (.inr (.inr fE)))))] ++ Lc.flatten) := hD
    refine lv_iload_n K.1 K.2.1 dc_Chain_flush_2 rfl (lv_at hl 2 rfl) ?_
    refine lv_aload_n K.1 K.2.1 dc_Chain_flush_3 rfl (lv_at hl 0 rfl) ?_
    refine fq_get K hK cl_Chain hP 0 0 rfl (by decide) wd_105 rfl dc_Chain_flush_4 ?_
    have hc := fq_cutT (X := [(h, .inr (6, [.ref hL, .ref hR, .int rs])), (hR, .inr (0, [.ref aR, .int (nI ii), .int (nI ([] : List Int32).length)])), (aR, .inl (cI, 366, .inl ff)), (hO, .inr (0, [.ref aO, .int (nI io), .int (nI Lo2.length)])), (aO, .inl (cI, nO, .inl fo2)), (hL, .inr (11, [.ref eE, .int (nI sts.length), .int mo])), (eE, .inl (cO, 10, .inr (.inr (.inr (.inr fE)))))]) (T := Lc.flatten) (cx := [(hL, .inr (11, [.ref eE, .int (nI sts.length), .int mo]))]) hP hD hS hA [5] (by decide) rfl
    refine fq_ciT (wr := [(h, .inr (6, [.ref hL, .ref hR, .int rs])), (hR, .inr (0, [.ref aR, .int (nI ii), .int (nI ([] : List Int32).length)])), (aR, .inl (cI, 366, .inl ff)), (hO, .inr (0, [.ref aO, .int (nI io), .int (nI Lo2.length)])), (aO, .inl (cI, nO, .inl fo2)), (eE, .inl (cO, 10, .inr (.inr (.inr (.inr fE)))))]) (fq_rV K hK hZ hS hc (ct_AL_size l D cI cO tE hL eE (nI sts.length) mo _) yk_AL_size wd_229 wd_230 wd_228 0 rfl rfl rfl ⟨⟨rfl, rfl⟩, ⟨Nat.le_of_ble_eq_true rfl, Nat.le_of_ble_eq_true rfl⟩, ⟨Nat.le_of_ble_eq_true rfl, Nat.le_of_ble_eq_true rfl⟩⟩ hl.1 rfl (Nat.le_of_ble_eq_true rfl) dc_Chain_flush_7) hP hD hS hc [5] [0, 1, 2, 3, 4, 6] rfl rfl (by decide) (by decide) (fun r2 w H locs hw2 hP hD hS => ?_)
    obtain ⟨rfl, rfl⟩ := hw2
    have hP : va_P D fq_cl ([(h, .inr (6, [.ref hL, .ref hR, .int rs])), (hR, .inr (0, [.ref aR, .int (nI ii), .int (nI ([] : List Int32).length)])), (aR, .inl (cI, 366, .inl ff)), (hO, .inr (0, [.ref aO, .int (nI io), .int (nI Lo2.length)])), (aO, .inl (cI, nO, .inl fo2)), (eE, .inl (cO, 10, .inr (.inr (.inr (.inr fE))))), (hL, .inr (11, [.ref eE, .int (nI sts.length), .int mo]))] ++ Lc.flatten) _ := hP
    have hD : va_D A ([(h, .inr (6, [.ref hL, .ref hR, .int rs])), (hR, .inr (0, [.ref aR, .int (nI ii), .int (nI ([] : List Int32).length)])), (aR, .inl (cI, 366, .inl ff)), (hO, .inr (0, [.ref aO, .int (nI io), .int (nI Lo2.length)])), (aO, .inl (cI, nO, .inl fo2)), (eE, .inl (cO, 10, .inr (.inr (.inr (.inr fE))))), (hL, .inr (11, [.ref eE, .int (nI sts.length), .int mo]))] ++ Lc.flatten) := hD
    refine lv_icmp_ge (tgt := 48) K.1 K.2.1 dc_Chain_flush_10 rfl (fun b10 => ?_) (fun b10 => ?_)
    · skip
      have ha : a = sts.length := by rw [nI_leI (by omega) (by omega)] at b10; omega
      have hP := va_P.part (X := [(h, .inr (6, [.ref hL, .ref hR, .int rs])), (hR, .inr (0, [.ref aR, .int (nI ii), .int (nI ([] : List Int32).length)])), (aR, .inl (cI, 366, .inl ff)), (hO, .inr (0, [.ref aO, .int (nI io), .int (nI Lo2.length)])), (aO, .inl (cI, nO, .inl fo2)), (eE, .inl (cO, 10, .inr (.inr (.inr (.inr fE))))), (hL, .inr (11, [.ref eE, .int (nI sts.length), .int mo]))]) (cx := [(h, .inr (6, [.ref hL, .ref hR, .int rs])), (hR, .inr (0, [.ref aR, .int (nI ii), .int (nI ([] : List Int32).length)])), (aR, .inl (cI, 366, .inl ff)), (hO, .inr (0, [.ref aO, .int (nI io), .int (nI Lo2.length)])), (aO, .inl (cI, nO, .inl fo2)), (hL, .inr (11, [.ref eE, .int (nI sts.length), .int mo])), (eE, .inl (cO, 10, .inr (.inr (.inr (.inr fE)))))]) hP [0, 1, 2, 3, 4, 6, 5] rfl
      have hD := va_D.part (X := [(h, .inr (6, [.ref hL, .ref hR, .int rs])), (hR, .inr (0, [.ref aR, .int (nI ii), .int (nI ([] : List Int32).length)])), (aR, .inl (cI, 366, .inl ff)), (hO, .inr (0, [.ref aO, .int (nI io), .int (nI Lo2.length)])), (aO, .inl (cI, nO, .inl fo2)), (eE, .inl (cO, 10, .inr (.inr (.inr (.inr fE))))), (hL, .inr (11, [.ref eE, .int (nI sts.length), .int mo]))]) (cx := [(h, .inr (6, [.ref hL, .ref hR, .int rs])), (hR, .inr (0, [.ref aR, .int (nI ii), .int (nI ([] : List Int32).length)])), (aR, .inl (cI, 366, .inl ff)), (hO, .inr (0, [.ref aO, .int (nI io), .int (nI Lo2.length)])), (aO, .inl (cI, nO, .inl fo2)), (hL, .inr (11, [.ref eE, .int (nI sts.length), .int mo])), (eE, .inl (cO, 10, .inr (.inr (.inr (.inr fE)))))]) hD [0, 1, 2, 3, 4, 6, 5] (by decide) rfl
      have hP : va_P D fq_cl ([(h, .inr (6, [.ref hL, .ref hR, .int rs])), (hR, .inr (0, [.ref aR, .int (nI ii), .int (nI ([] : List Int32).length)])), (aR, .inl (cI, 366, .inl ff)), (hO, .inr (0, [.ref aO, .int (nI io), .int (nI Lo2.length)])), (aO, .inl (cI, nO, .inl fo2))] ++ ([(hL, .inr (11, [.ref eE, .int (nI sts.length), .int mo])), (eE, .inl (cO, 10, .inr (.inr (.inr (.inr fE)))))] :: Lc).flatten) _ := hP
      have hD : va_D A ([(h, .inr (6, [.ref hL, .ref hR, .int rs])), (hR, .inr (0, [.ref aR, .int (nI ii), .int (nI ([] : List Int32).length)])), (aR, .inl (cI, 366, .inl ff)), (hO, .inr (0, [.ref aO, .int (nI io), .int (nI Lo2.length)])), (aO, .inl (cI, nO, .inl fo2))] ++ ([(hL, .inr (11, [.ref eE, .int (nI sts.length), .int mo])), (eE, .inl (cO, 10, .inr (.inr (.inr (.inr fE)))))] :: Lc).flatten) := hD
      exact fq_retv K hret hlk hS hP hD ⟨_, _, _, _, _, rfl, hI2.2.1, hI2.2.2.1, by rw [← ha]; exact hI2.2.2.2.1, by rw [← ha]; exact hI2.2.2.2.2⟩ dc_Chain_flush_48 (Nat.le_of_ble_eq_true rfl) (Nat.le_of_ble_eq_true rfl)
    · skip
      have ha : a < sts.length := by rw [nI_leI (by omega) (by omega)] at b10; omega
      obtain ⟨⟨hS0, sp, xs, m0⟩, hset0⟩ := ps_some (a := a) (sts := (fl_it sts a).1) (by rw [fl_len]; exact ha)
      obtain ⟨gc, hgc, hsgc⟩ := ch_get hI2.2.2.2.2 hset0
      obtain ⟨hmm, hcd⟩ := fl_cond hff ha hset0 (sg_facts hsgc).1
      refine lv_aload_n K.1 K.2.1 dc_Chain_flush_13 rfl (lv_at hl 0 rfl) ?_
      refine fq_get K hK cl_Chain hP 0 0 rfl (by decide) wd_105 rfl dc_Chain_flush_14 ?_
      refine lv_iload_n K.1 K.2.1 dc_Chain_flush_17 rfl (lv_at hl 2 rfl) ?_
      have hc := fq_cutT (X := [(h, .inr (6, [.ref hL, .ref hR, .int rs])), (hR, .inr (0, [.ref aR, .int (nI ii), .int (nI ([] : List Int32).length)])), (aR, .inl (cI, 366, .inl ff)), (hO, .inr (0, [.ref aO, .int (nI io), .int (nI Lo2.length)])), (aO, .inl (cI, nO, .inl fo2)), (eE, .inl (cO, 10, .inr (.inr (.inr (.inr fE))))), (hL, .inr (11, [.ref eE, .int (nI sts.length), .int mo]))]) (T := Lc.flatten) (cx := [(hL, .inr (11, [.ref eE, .int (nI sts.length), .int mo])), (eE, .inl (cO, 10, .inr (.inr (.inr (.inr fE)))))]) hP hD hS hA [6, 5] (by decide) rfl
      refine fq_cqT (wr := [(h, .inr (6, [.ref hL, .ref hR, .int rs])), (hR, .inr (0, [.ref aR, .int (nI ii), .int (nI ([] : List Int32).length)])), (aR, .inl (cI, 366, .inl ff)), (hO, .inr (0, [.ref aO, .int (nI io), .int (nI Lo2.length)])), (aO, .inl (cI, nO, .inl fo2))]) (fq_rV K hK hZ hS hc (ct_AL_get l D cI cO tE hL eE sts.length mo fE a hS0 ha (by omega) (fl_ad hfE hset0) _) yk_AL_get wd_467 wd_468 wd_466 0 rfl rfl rfl ⟨⟨rfl, rfl⟩, ⟨Nat.le_of_ble_eq_true rfl, Nat.le_of_ble_eq_true rfl⟩, ⟨Nat.le_of_ble_eq_true rfl, Nat.le_of_ble_eq_true rfl⟩⟩ hl.1 rfl (Nat.le_of_ble_eq_true rfl) dc_Chain_flush_18) hP hD hS hc [6, 5] [0, 1, 2, 3, 4] rfl rfl (by decide) (by decide) (fun r3 w H locs hw3 hP hD hS => ?_)
      obtain ⟨rfl, rfl⟩ := hw3
      have hP : va_P D fq_cl ([(h, .inr (6, [.ref hL, .ref hR, .int rs])), (hR, .inr (0, [.ref aR, .int (nI ii), .int (nI ([] : List Int32).length)])), (aR, .inl (cI, 366, .inl ff)), (hO, .inr (0, [.ref aO, .int (nI io), .int (nI Lo2.length)])), (aO, .inl (cI, nO, .inl fo2)), (hL, .inr (11, [.ref eE, .int (nI sts.length), .int mo])), (eE, .inl (cO, 10, .inr (.inr (.inr (.inr fE)))))] ++ Lc.flatten) _ := hP
      have hD : va_D A ([(h, .inr (6, [.ref hL, .ref hR, .int rs])), (hR, .inr (0, [.ref aR, .int (nI ii), .int (nI ([] : List Int32).length)])), (aR, .inl (cI, 366, .inl ff)), (hO, .inr (0, [.ref aO, .int (nI io), .int (nI Lo2.length)])), (aO, .inl (cI, nO, .inl fo2)), (hL, .inr (11, [.ref eE, .int (nI sts.length), .int mo])), (eE, .inl (cO, 10, .inr (.inr (.inr (.inr fE)))))] ++ Lc.flatten) := hD
      refine W.eq (g2 := F0 mt 21 ls [.ref hS0]) rfl ?_
      refine sg_cast K hK hsgc (fq_Pl (fq_permP (fq_gone hgc) hP)) (K.2.2.2.2 _ wd_480) dc_Chain_flush_21 ?_
      refine lv_astore_n K.1 K.2.1 dc_Chain_flush_24 rfl hl (by decide) rfl (fun ls hl => ?_)
      have hl : lv_has ls 4 [(3, .ref hS0), (0, .ref h), (1, .ref hO), (2, .int (nI a))] := hl
      refine lv_aload_n K.1 K.2.1 dc_Chain_flush_25 rfl (lv_at hl 1 rfl) ?_
      refine lv_aload_n K.1 K.2.1 dc_Chain_flush_26 rfl (lv_at hl 0 rfl) ?_
      refine lv_aload_n K.1 K.2.1 dc_Chain_flush_27 rfl (lv_at hl 0 rfl) ?_
      have hcg := fq_cutR (fq_gone (X := [(h, .inr (6, [.ref hL, .ref hR, .int rs])), (hR, .inr (0, [.ref aR, .int (nI ii), .int (nI ([] : List Int32).length)])), (aR, .inl (cI, 366, .inl ff)), (hO, .inr (0, [.ref aO, .int (nI io), .int (nI Lo2.length)])), (aO, .inl (cI, nO, .inl fo2)), (hL, .inr (11, [.ref eE, .int (nI sts.length), .int mo])), (eE, .inl (cO, 10, .inr (.inr (.inr (.inr fE)))))]) hgc) hP hD hS hA
      refine fq_ciR (sg_run_finish K hK hZ hS hcg hsgc hmm (Nat.le_of_ble_eq_true rfl) (Nat.le_of_ble_eq_true rfl) (Nat.le_of_ble_eq_true rfl) (Nat.le_of_ble_eq_true rfl) hl.1 (Nat.le_of_ble_eq_true rfl) dc_Chain_flush_28) hP hD hS hcg (fq_gone (X := [(h, .inr (6, [.ref hL, .ref hR, .int rs])), (hR, .inr (0, [.ref aR, .int (nI ii), .int (nI ([] : List Int32).length)])), (aR, .inl (cI, 366, .inl ff)), (hO, .inr (0, [.ref aO, .int (nI io), .int (nI Lo2.length)])), (aO, .inl (cI, nO, .inl fo2)), (hL, .inr (11, [.ref eE, .int (nI sts.length), .int mo])), (eE, .inl (cO, 10, .inr (.inr (.inr (.inr fE)))))]) hgc) (fun r2 g2 H locs hw2 hP hD hS => ?_)
      have hP := fq_permP (fq_gback (X := [(h, .inr (6, [.ref hL, .ref hR, .int rs])), (hR, .inr (0, [.ref aR, .int (nI ii), .int (nI ([] : List Int32).length)])), (aR, .inl (cI, 366, .inl ff)), (hO, .inr (0, [.ref aO, .int (nI io), .int (nI Lo2.length)])), (aO, .inl (cI, nO, .inl fo2)), (hL, .inr (11, [.ref eE, .int (nI sts.length), .int mo])), (eE, .inl (cO, 10, .inr (.inr (.inr (.inr fE)))))]) hgc) hP
      have hD := fq_permD (fq_gback (X := [(h, .inr (6, [.ref hL, .ref hR, .int rs])), (hR, .inr (0, [.ref aR, .int (nI ii), .int (nI ([] : List Int32).length)])), (aR, .inl (cI, 366, .inl ff)), (hO, .inr (0, [.ref aO, .int (nI io), .int (nI Lo2.length)])), (aO, .inl (cI, nO, .inl fo2)), (hL, .inr (11, [.ref eE, .int (nI sts.length), .int mo])), (eE, .inl (cO, 10, .inr (.inr (.inr (.inr fE)))))]) hgc) hD
      have hP : va_P D fq_cl ([(h, .inr (6, [.ref hL, .ref hR, .int rs])), (hR, .inr (0, [.ref aR, .int (nI ii), .int (nI ([] : List Int32).length)])), (aR, .inl (cI, 366, .inl ff)), (hO, .inr (0, [.ref aO, .int (nI io), .int (nI Lo2.length)])), (aO, .inl (cI, nO, .inl fo2)), (hL, .inr (11, [.ref eE, .int (nI sts.length), .int mo])), (eE, .inl (cO, 10, .inr (.inr (.inr (.inr fE)))))] ++ (Lc.set a g2).flatten) _ := hP
      have hD : va_D A ([(h, .inr (6, [.ref hL, .ref hR, .int rs])), (hR, .inr (0, [.ref aR, .int (nI ii), .int (nI ([] : List Int32).length)])), (aR, .inl (cI, 366, .inl ff)), (hO, .inr (0, [.ref aO, .int (nI io), .int (nI Lo2.length)])), (aO, .inl (cI, nO, .inl fo2)), (hL, .inr (11, [.ref eE, .int (nI sts.length), .int mo])), (eE, .inl (cO, 10, .inr (.inr (.inr (.inr fE)))))] ++ (Lc.set a g2).flatten) := hD
      obtain ⟨rfl, hsg2⟩ := hw2
      have hg2 : (Lc.set a g2)[a]? = some g2 := ch_set hgc
      have hcm := fq_cutR (fq_gx (X := [(h, .inr (6, [.ref hL, .ref hR, .int rs])), (hR, .inr (0, [.ref aR, .int (nI ii), .int (nI ([] : List Int32).length)])), (aR, .inl (cI, 366, .inl ff))]) (Y := [(hO, .inr (0, [.ref aO, .int (nI io), .int (nI Lo2.length)])), (aO, .inl (cI, nO, .inl fo2)), (hL, .inr (11, [.ref eE, .int (nI sts.length), .int mo])), (eE, .inl (cO, 10, .inr (.inr (.inr (.inr fE)))))]) hg2) hP hD hS hA
      refine fq_cvR (fq_rV K hK hZ hS hcm (ct_Chain_makeSamples l D cI cO tE h hL hR aR rs ff ii [] hS0 (fm_m sp true xs.length - m0) sp xs m0 g2 hI2.2.1 hsg2 hcd.1 hcd.2.1 hcd.2.2.1 hcd.2.2.2 _) yk_Chain_makeSamples wd_643 wd_10 wd_641 0 rfl rfl rfl ⟨⟨rfl, rfl⟩, ⟨Nat.le_of_ble_eq_true rfl, Nat.le_of_ble_eq_true rfl⟩, ⟨Nat.le_of_ble_eq_true rfl, Nat.le_of_ble_eq_true rfl⟩⟩ hl.1 rfl (Nat.le_of_ble_eq_true rfl) dc_Chain_flush_31) hP hD hS hcm (fq_gx (X := [(h, .inr (6, [.ref hL, .ref hR, .int rs])), (hR, .inr (0, [.ref aR, .int (nI ii), .int (nI ([] : List Int32).length)])), (aR, .inl (cI, 366, .inl ff))]) (Y := [(hO, .inr (0, [.ref aO, .int (nI io), .int (nI Lo2.length)])), (aO, .inl (cI, nO, .inl fo2)), (hL, .inr (11, [.ref eE, .int (nI sts.length), .int mo])), (eE, .inl (cO, 10, .inr (.inr (.inr (.inr fE)))))]) hg2) (fun w H locs hw hP hD hS => ?_)
      obtain ⟨f3, L3, g3, rfl, hr3, hL3, hsg3⟩ := hw
      have hP := fq_permP (fq_gy (X := [(h, .inr (6, [.ref hL, .ref hR, .int rs])), (hR, .inr (0, [.ref aR, .int (nI ii), .int (nI L3.length)])), (aR, .inl (cI, 366, .inl f3))]) (Y := [(hO, .inr (0, [.ref aO, .int (nI io), .int (nI Lo2.length)])), (aO, .inl (cI, nO, .inl fo2)), (hL, .inr (11, [.ref eE, .int (nI sts.length), .int mo])), (eE, .inl (cO, 10, .inr (.inr (.inr (.inr fE)))))]) hg2) hP
      have hD := fq_permD (fq_gy (X := [(h, .inr (6, [.ref hL, .ref hR, .int rs])), (hR, .inr (0, [.ref aR, .int (nI ii), .int (nI L3.length)])), (aR, .inl (cI, 366, .inl f3))]) (Y := [(hO, .inr (0, [.ref aO, .int (nI io), .int (nI Lo2.length)])), (aO, .inl (cI, nO, .inl fo2)), (hL, .inr (11, [.ref eE, .int (nI sts.length), .int mo])), (eE, .inl (cO, 10, .inr (.inr (.inr (.inr fE)))))]) hg2) hD
      rw [List.set_set] at hP hD
      have hL3 : L3.map Int32.toInt = fl_e sp xs m0 := hL3
      have hch3 := fl_ch1 hI2.2.2.2.2 hset0 hsg3
      obtain ⟨hun3, hfit3, hcap3⟩ := fl_pre hff ha hset0 hI2.2.2.2.1
      rw [← hL3] at hfit3 hcap3
      have hP : va_P D fq_cl ([(h, .inr (6, [.ref hL, .ref hR, .int rs])), (hR, .inr (0, [.ref aR, .int (nI ii), .int (nI L3.length)])), (aR, .inl (cI, 366, .inl f3)), (hO, .inr (0, [.ref aO, .int (nI io), .int (nI Lo2.length)])), (aO, .inl (cI, nO, .inl fo2)), (hL, .inr (11, [.ref eE, .int (nI sts.length), .int mo])), (eE, .inl (cO, 10, .inr (.inr (.inr (.inr fE)))))] ++ (Lc.set a g3).flatten) _ := hP
      have hD : va_D A ([(h, .inr (6, [.ref hL, .ref hR, .int rs])), (hR, .inr (0, [.ref aR, .int (nI ii), .int (nI L3.length)])), (aR, .inl (cI, 366, .inl f3)), (hO, .inr (0, [.ref aO, .int (nI io), .int (nI Lo2.length)])), (aO, .inl (cI, nO, .inl fo2)), (hL, .inr (11, [.ref eE, .int (nI sts.length), .int mo])), (eE, .inl (cO, 10, .inr (.inr (.inr (.inr fE)))))] ++ (Lc.set a g3).flatten) := hD
      refine lv_aload_n K.1 K.2.1 dc_Chain_flush_34 rfl (lv_at hl 1 rfl) ?_
      refine lv_iload_n K.1 K.2.1 dc_Chain_flush_35 rfl (lv_at hl 3 rfl) ?_
      refine lv_iconst (v := 1) K.1 K.2.1 dc_Chain_flush_36 (by decide) ?_
      refine lv_iadd K.1 K.2.1 dc_Chain_flush_37 ?_
      refine fq_asi (y := nI (a + 1)) (nI_1 a) ?_
      refine lv_aload_n K.1 K.2.1 dc_Chain_flush_38 rfl (lv_at hl 2 rfl) ?_
      have hP : va_P D fq_cl ([(h, .inr (6, [.ref hL, .ref hR, .int rs])), (hR, .inr (0, [.ref aR, .int (nI ii), .int (nI L3.length)])), (aR, .inl (cI, 366, .inl f3)), (hO, .inr (0, [.ref aO, .int (nI io), .int (nI Lo2.length)])), (aO, .inl (cI, nO, .inl fo2))] ++ ([(hL, .inr (11, [.ref eE, .int (nI sts.length), .int mo])), (eE, .inl (cO, 10, .inr (.inr (.inr (.inr fE)))))] :: (Lc.set a g3)).flatten) _ := hP
      have hD : va_D A ([(h, .inr (6, [.ref hL, .ref hR, .int rs])), (hR, .inr (0, [.ref aR, .int (nI ii), .int (nI L3.length)])), (aR, .inl (cI, 366, .inl f3)), (hO, .inr (0, [.ref aO, .int (nI io), .int (nI Lo2.length)])), (aO, .inl (cI, nO, .inl fo2))] ++ ([(hL, .inr (11, [.ref eE, .int (nI sts.length), .int mo])), (eE, .inl (cO, 10, .inr (.inr (.inr (.inr fE)))))] :: (Lc.set a g3)).flatten) := hD
      have hcp := fq_cutR (wr := []) fq_nil hP hD hS hA
      refine fq_cvR (fq_rV K hK hZ hS hcp (ct_Chain_passThrough l D cI cO tE h hL hR aR rs f3 ii L3 hO aO nO fo2 io Lo2 (a + 1) ((fl_it sts a).1.set a (hS0, sp, xs, m0 + (fm_m sp true xs.length - m0))) [(hL, .inr (11, [.ref eE, .int (nI sts.length), .int mo])), (eE, .inl (cO, 10, .inr (.inr (.inr (.inr fE)))))] (Lc.set a g3) hr3 hI2.2.2.1 (fl_al hle hfE hset0) hch3 (by rw [List.length_set, fl_len]; omega) hun3 hfit3 hcap3 _) yk_Chain_passThrough wd_609 wd_8 wd_607 0 rfl rfl rfl ⟨⟨rfl, rfl⟩, ⟨Nat.le_of_ble_eq_true rfl, Nat.le_of_ble_eq_true rfl⟩, ⟨Nat.le_of_ble_eq_true rfl, Nat.le_of_ble_eq_true rfl⟩⟩ hl.1 rfl (Nat.le_of_ble_eq_true rfl) dc_Chain_flush_39) hP hD hS hcp fq_nil (fun w H locs hw hP hD hS => ?_)
      obtain ⟨f5, i5, fo5, Lo5, Ls5, rfl, hr5, hro5, hLo5, hch5⟩ := hw
      rw [List.append_nil] at hP hD
      have hP : va_P D fq_cl ([(h, .inr (6, [.ref hL, .ref hR, .int rs])), (hR, .inr (0, [.ref aR, .int (nI i5), .int (nI ([] : List Int32).length)])), (aR, .inl (cI, 366, .inl f5)), (hO, .inr (0, [.ref aO, .int (nI io), .int (nI Lo5.length)])), (aO, .inl (cI, nO, .inl fo5)), (hL, .inr (11, [.ref eE, .int (nI sts.length), .int mo])), (eE, .inl (cO, 10, .inr (.inr (.inr (.inr fE)))))] ++ Ls5.flatten) _ := hP
      have hD : va_D A ([(h, .inr (6, [.ref hL, .ref hR, .int rs])), (hR, .inr (0, [.ref aR, .int (nI i5), .int (nI ([] : List Int32).length)])), (aR, .inl (cI, 366, .inl f5)), (hO, .inr (0, [.ref aO, .int (nI io), .int (nI Lo5.length)])), (aO, .inl (cI, nO, .inl fo5)), (hL, .inr (11, [.ref eE, .int (nI sts.length), .int mo])), (eE, .inl (cO, 10, .inr (.inr (.inr (.inr fE)))))] ++ Ls5.flatten) := hD
      refine lv_iinc (v := nI (a + 1)) K.1 K.2.1 dc_Chain_flush_42 hl (k := 3) rfl (nI_1 a) (by decide) rfl (fun ls hl => ?_)
      have hl : lv_has ls 4 [(2, .int (nI (a + 1))), (3, .ref hS0), (0, .ref h), (1, .ref hO)] := hl
      refine lv_goto (tgt := 2) K.1 K.2.1 dc_Chain_flush_45 rfl ?_
      exact ih2 (a + 1, f5, i5, fo5, Lo5, Ls5) _ _ _ (by show sts.length - (a + 1) < sts.length - a; omega) ⟨⟨ha, hr5, hro5, fl_out hI2 hset0 hLo5, fl_ch hset0 hch5⟩, lv_sub hl [2, 3, 0] rfl, hP, hD, hS⟩
set_option maxHeartbeats 4000000 in
set_option maxRecDepth 100000 in
theorem ct_Chain_forgetSamples (l : Launch) (D : va_G) (cI cO : ClassId) (tE : Nat) (h hL hR aR : Nat) (rs : Int32) (f : Nat → Int32) (i : Nat) (L : List Int32) (sts : List ch_T) (wl : va_W) (Ls : List va_W) (hal : al_W tE cO hL sts wl) (hch : ch_ok cI Ls sts)  (sz : Nat) : Met l my_Chain_forgetSamples (fq_w my_Chain_forgetSamples cb_Chain_forgetSamples 2 none) ({ frames := 3, cells := 0, slots := 0, locals := 64 }) (va_Pc ([.ref h]) (fq_Pre D cI cO tE sz ([(h, .inr (6, [.ref hL, .ref hR, .int rs])), (hR, .inr (0, [.ref aR, .int (nI i), .int (nI L.length)])), (aR, .inl (cI, 366, .inl f))] ++ (wl :: Ls).flatten))) (va_Qv (S := va_W) (fun w => ∃ Ls2 : List va_W, w = [(h, .inr (6, [.ref hL, .ref hR, .int rs])), (hR, .inr (0, [.ref aR, .int (nI i), .int (nI L.length)])), (aR, .inl (cI, 366, .inl f))] ++ (wl :: Ls2).flatten ∧ ch_ok cI Ls2 (cr_it sts sts.length)) (fq_Bw D (va_A ([(h, .inr (6, [.ref hL, .ref hR, .int rs])), (hR, .inr (0, [.ref aR, .int (nI i), .int (nI L.length)])), (aR, .inl (cI, 366, .inl f))] ++ (wl :: Ls).flatten) sz)) (va_A ([(h, .inr (6, [.ref hL, .ref hR, .int rs])), (hR, .inr (0, [.ref aR, .int (nI i), .int (nI L.length)])), (aR, .inl (cI, 366, .inl f))] ++ (wl :: Ls).flatten) sz)) (0) (0) (va_A ([(h, .inr (6, [.ref hL, .ref hR, .int rs])), (hR, .inr (0, [.ref aR, .int (nI i), .int (nI L.length)])), (aR, .inl (cI, 366, .inl f))] ++ (wl :: Ls).flatten) sz) := by
  refine fq_open (by decide +kernel) (Nat.le_of_ble_eq_true rfl) ?_
  intro pg ev s mt below meth cd ls K hret hlk hin hK hZ hP hD hA hS hl
  generalize va_A ([(h, .inr (6, [.ref hL, .ref hR, .int rs])), (hR, .inr (0, [.ref aR, .int (nI i), .int (nI L.length)])), (aR, .inl (cI, 366, .inl f))] ++ (wl :: Ls).flatten) sz = A at hZ hD hA hS ⊢
  have K : fq_Ctx pg mt cd cb_Chain_forgetSamples 2 s _ cn_Chain := K
  have hl : lv_has ls 2 [(0, .ref h)] := hl
  rcases hal with ⟨hnil, mo, rfl⟩ | ⟨eE, mo, fE, rfl, hle, hfE⟩
  · skip
    have hP : va_P D fq_cl ([(h, .inr (6, [.ref hL, .ref hR, .int rs])), (hR, .inr (0, [.ref aR, .int (nI i), .int (nI L.length)])), (aR, .inl (cI, 366, .inl f)), (hL, .inr (11, [.ref tE, .int (nI 0), .int mo]))] ++ Ls.flatten) _ := hP
    have hD : va_D A ([(h, .inr (6, [.ref hL, .ref hR, .int rs])), (hR, .inr (0, [.ref aR, .int (nI i), .int (nI L.length)])), (aR, .inl (cI, 366, .inl f)), (hL, .inr (11, [.ref tE, .int (nI 0), .int mo]))] ++ Ls.flatten) := hD
    refine lv_iconst (v := 0) K.1 K.2.1 dc_Chain_forgetSamples_0 (by decide) ?_
    refine lv_istore_n K.1 K.2.1 dc_Chain_forgetSamples_1 rfl hl (by decide) rfl (fun ls hl => ?_)
    have hl : lv_has ls 2 [(1, .int 0), (0, .ref h)] := hl
    refine lv_iload_n K.1 K.2.1 dc_Chain_forgetSamples_2 rfl (lv_at hl 0 rfl) ?_
    refine lv_aload_n K.1 K.2.1 dc_Chain_forgetSamples_3 rfl (lv_at hl 1 rfl) ?_
    refine fq_get K hK cl_Chain hP 0 0 rfl (by decide) wd_105 rfl dc_Chain_forgetSamples_4 ?_
    have hc := fq_cutT (X := [(h, .inr (6, [.ref hL, .ref hR, .int rs])), (hR, .inr (0, [.ref aR, .int (nI i), .int (nI L.length)])), (aR, .inl (cI, 366, .inl f)), (hL, .inr (11, [.ref tE, .int (nI 0), .int mo]))]) (T := Ls.flatten) (cx := [(hL, .inr (11, [.ref tE, .int (nI 0), .int mo]))]) hP hD hS hA [3] (by decide) rfl
    refine fq_ciT (wr := [(h, .inr (6, [.ref hL, .ref hR, .int rs])), (hR, .inr (0, [.ref aR, .int (nI i), .int (nI L.length)])), (aR, .inl (cI, 366, .inl f))]) (fq_rV K hK hZ hS hc (ct_AL_size l D cI cO tE hL tE (nI 0) mo _) yk_AL_size wd_229 wd_230 wd_228 0 rfl rfl rfl ⟨⟨rfl, rfl⟩, ⟨Nat.le_of_ble_eq_true rfl, Nat.le_of_ble_eq_true rfl⟩, ⟨Nat.le_of_ble_eq_true rfl, Nat.le_of_ble_eq_true rfl⟩⟩ hl.1 rfl (Nat.le_of_ble_eq_true rfl) dc_Chain_forgetSamples_7) hP hD hS hc [3] [0, 1, 2] rfl rfl (by decide) (by decide) (fun r1 w H locs hw1 hP hD hS => ?_)
    obtain ⟨rfl, rfl⟩ := hw1
    have hP : va_P D fq_cl ([(h, .inr (6, [.ref hL, .ref hR, .int rs])), (hR, .inr (0, [.ref aR, .int (nI i), .int (nI L.length)])), (aR, .inl (cI, 366, .inl f)), (hL, .inr (11, [.ref tE, .int (nI 0), .int mo]))] ++ Ls.flatten) _ := hP
    have hD : va_D A ([(h, .inr (6, [.ref hL, .ref hR, .int rs])), (hR, .inr (0, [.ref aR, .int (nI i), .int (nI L.length)])), (aR, .inl (cI, 366, .inl f)), (hL, .inr (11, [.ref tE, .int (nI 0), .int mo]))] ++ Ls.flatten) := hD
    refine lv_icmp_ge (tgt := 33) K.1 K.2.1 dc_Chain_forgetSamples_10 rfl (fun b10 => ?_) (fun b10 => absurd (nI_leI (by decide) (by decide) |>.mpr (Nat.zero_le _)) b10)
    have hP : va_P D fq_cl ([(h, .inr (6, [.ref hL, .ref hR, .int rs])), (hR, .inr (0, [.ref aR, .int (nI i), .int (nI L.length)])), (aR, .inl (cI, 366, .inl f))] ++ ([(hL, .inr (11, [.ref tE, .int (nI 0), .int mo]))] :: Ls).flatten) _ := hP
    have hD : va_D A ([(h, .inr (6, [.ref hL, .ref hR, .int rs])), (hR, .inr (0, [.ref aR, .int (nI i), .int (nI L.length)])), (aR, .inl (cI, 366, .inl f))] ++ ([(hL, .inr (11, [.ref tE, .int (nI 0), .int mo]))] :: Ls).flatten) := hD
    exact fq_retv K hret hlk hS hP hD ⟨_, rfl, by rw [hnil] at hch ⊢; exact hch⟩ dc_Chain_forgetSamples_33 (Nat.le_of_ble_eq_true rfl) (Nat.le_of_ble_eq_true rfl)
  · skip
    have hP : va_P D fq_cl ([(h, .inr (6, [.ref hL, .ref hR, .int rs])), (hR, .inr (0, [.ref aR, .int (nI i), .int (nI L.length)])), (aR, .inl (cI, 366, .inl f)), (hL, .inr (11, [.ref eE, .int (nI sts.length), .int mo])), (eE, .inl (cO, 10, .inr (.inr (.inr (.inr fE)))))] ++ Ls.flatten) _ := hP
    have hD : va_D A ([(h, .inr (6, [.ref hL, .ref hR, .int rs])), (hR, .inr (0, [.ref aR, .int (nI i), .int (nI L.length)])), (aR, .inl (cI, 366, .inl f)), (hL, .inr (11, [.ref eE, .int (nI sts.length), .int mo])), (eE, .inl (cO, 10, .inr (.inr (.inr (.inr fE)))))] ++ Ls.flatten) := hD
    refine lv_iconst (v := 0) K.1 K.2.1 dc_Chain_forgetSamples_0 (by decide) ?_
    refine lv_istore_n K.1 K.2.1 dc_Chain_forgetSamples_1 rfl hl (by decide) rfl (fun ls hl => ?_)
    have hl : lv_has ls 2 [(1, .int 0), (0, .ref h)] := hl
    refine fq_lp (σ := Nat × List va_W) (fun x => sts.length - x.1) (fun x H locs ls => (x.1 ≤ sts.length ∧ ch_ok cI x.2 (cr_it sts x.1)) ∧ lv_has ls 2 [(0, .ref h), (1, .int (nI x.1))] ∧ va_P D fq_cl ([(h, .inr (6, [.ref hL, .ref hR, .int rs])), (hR, .inr (0, [.ref aR, .int (nI i), .int (nI L.length)])), (aR, .inl (cI, 366, .inl f)), (hL, .inr (11, [.ref eE, .int (nI sts.length), .int mo])), (eE, .inl (cO, 10, .inr (.inr (.inr (.inr fE)))))] ++ x.2.flatten) H ∧ va_D A ([(h, .inr (6, [.ref hL, .ref hR, .int rs])), (hR, .inr (0, [.ref aR, .int (nI i), .int (nI L.length)])), (aR, .inl (cI, 366, .inl f)), (hL, .inr (11, [.ref eE, .int (nI sts.length), .int mo])), (eE, .inl (cO, 10, .inr (.inr (.inr (.inr fE)))))] ++ x.2.flatten) ∧ va_S A s.heap H locs) ?_ (0, Ls) _ _ _ ⟨⟨Nat.zero_le _, hch⟩, lv_sub hl [1, 0] rfl, hP, hD, hS⟩
    rintro ⟨a, Lc⟩ H locs ls ⟨hI2, hl, hP, hD, hS⟩ ih2
    have hI2 : a ≤ sts.length ∧ ch_ok cI Lc (cr_it sts a) := hI2
    have hl : lv_has ls 2 [(0, .ref h), (1, .int (nI a))] := hl
    have hP : va_P D fq_cl ([(h, .inr (6, [.ref hL, .ref hR, .int rs])), (hR, .inr (0, [.ref aR, .int (nI i), .int (nI L.length)])), (aR, .inl (cI, 366, .inl f)), (hL, .inr (11, [.ref eE, .int (nI sts.length), .int mo])), (eE, .inl (cO, 10, .inr (.inr (.inr (.inr fE)))))] ++ Lc.flatten) _ := hP
    have hD : va_D A ([(h, .inr (6, [.ref hL, .ref hR, .int rs])), (hR, .inr (0, [.ref aR, .int (nI i), .int (nI L.length)])), (aR, .inl (cI, 366, .inl f)), (hL, .inr (11, [.ref eE, .int (nI sts.length), .int mo])), (eE, .inl (cO, 10, .inr (.inr (.inr (.inr fE)))))] ++ Lc.flatten) := hD
    refine lv_iload_n K.1 K.2.1 dc_Chain_forgetSamples_2 rfl (lv_at hl 1 rfl) ?_
    refine lv_aload_n K.1 K.2.1 dc_Chain_forgetSamples_3 rfl (lv_at hl 0 rfl) ?_
    refine fq_get K hK cl_Chain hP 0 0 rfl (by decide) wd_105 rfl dc_Chain_forgetSamples_4 ?_
    have hc := fq_cutT (X := [(h, .inr (6, [.ref hL, .ref hR, .int rs])), (hR, .inr (0, [.ref aR, .int (nI i), .int (nI L.length)])), (aR, .inl (cI, 366, .inl f)), (hL, .inr (11, [.ref eE, .int (nI sts.length), .int mo])), (eE, .inl (cO, 10, .inr (.inr (.inr (.inr fE)))))]) (T := Lc.flatten) (cx := [(hL, .inr (11, [.ref eE, .int (nI sts.length), .int mo]))]) hP hD hS hA [3] (by decide) rfl
    refine fq_ciT (wr := [(h, .inr (6, [.ref hL, .ref hR, .int rs])), (hR, .inr (0, [.ref aR, .int (nI i), .int (nI L.length)])), (aR, .inl (cI, 366, .inl f)), (eE, .inl (cO, 10, .inr (.inr (.inr (.inr fE)))))]) (fq_rV K hK hZ hS hc (ct_AL_size l D cI cO tE hL eE (nI sts.length) mo _) yk_AL_size wd_229 wd_230 wd_228 0 rfl rfl rfl ⟨⟨rfl, rfl⟩, ⟨Nat.le_of_ble_eq_true rfl, Nat.le_of_ble_eq_true rfl⟩, ⟨Nat.le_of_ble_eq_true rfl, Nat.le_of_ble_eq_true rfl⟩⟩ hl.1 rfl (Nat.le_of_ble_eq_true rfl) dc_Chain_forgetSamples_7) hP hD hS hc [3] [0, 1, 2, 4] rfl rfl (by decide) (by decide) (fun r2 w H locs hw2 hP hD hS => ?_)
    obtain ⟨rfl, rfl⟩ := hw2
    have hP : va_P D fq_cl ([(h, .inr (6, [.ref hL, .ref hR, .int rs])), (hR, .inr (0, [.ref aR, .int (nI i), .int (nI L.length)])), (aR, .inl (cI, 366, .inl f)), (eE, .inl (cO, 10, .inr (.inr (.inr (.inr fE))))), (hL, .inr (11, [.ref eE, .int (nI sts.length), .int mo]))] ++ Lc.flatten) _ := hP
    have hD : va_D A ([(h, .inr (6, [.ref hL, .ref hR, .int rs])), (hR, .inr (0, [.ref aR, .int (nI i), .int (nI L.length)])), (aR, .inl (cI, 366, .inl f)), (eE, .inl (cO, 10, .inr (.inr (.inr (.inr fE))))), (hL, .inr (11, [.ref eE, .int (nI sts.length), .int mo]))] ++ Lc.flatten) := hD
    refine lv_icmp_ge (tgt := 33) K.1 K.2.1 dc_Chain_forgetSamples_10 rfl (fun b10 => ?_) (fun b10 => ?_)
    · skip
      have ha : a = sts.length := by rw [nI_leI (by omega) (by omega)] at b10; omega
      have hP := va_P.part (X := [(h, .inr (6, [.ref hL, .ref hR, .int rs])), (hR, .inr (0, [.ref aR, .int (nI i), .int (nI L.length)])), (aR, .inl (cI, 366, .inl f)), (eE, .inl (cO, 10, .inr (.inr (.inr (.inr fE))))), (hL, .inr (11, [.ref eE, .int (nI sts.length), .int mo]))]) (cx := [(h, .inr (6, [.ref hL, .ref hR, .int rs])), (hR, .inr (0, [.ref aR, .int (nI i), .int (nI L.length)])), (aR, .inl (cI, 366, .inl f)), (hL, .inr (11, [.ref eE, .int (nI sts.length), .int mo])), (eE, .inl (cO, 10, .inr (.inr (.inr (.inr fE)))))]) hP [0, 1, 2, 4, 3] rfl
      have hD := va_D.part (X := [(h, .inr (6, [.ref hL, .ref hR, .int rs])), (hR, .inr (0, [.ref aR, .int (nI i), .int (nI L.length)])), (aR, .inl (cI, 366, .inl f)), (eE, .inl (cO, 10, .inr (.inr (.inr (.inr fE))))), (hL, .inr (11, [.ref eE, .int (nI sts.length), .int mo]))]) (cx := [(h, .inr (6, [.ref hL, .ref hR, .int rs])), (hR, .inr (0, [.ref aR, .int (nI i), .int (nI L.length)])), (aR, .inl (cI, 366, .inl f)), (hL, .inr (11, [.ref eE, .int (nI sts.length), .int mo])), (eE, .inl (cO, 10, .inr (.inr (.inr (.inr fE)))))]) hD [0, 1, 2, 4, 3] (by decide) rfl
      have hP : va_P D fq_cl ([(h, .inr (6, [.ref hL, .ref hR, .int rs])), (hR, .inr (0, [.ref aR, .int (nI i), .int (nI L.length)])), (aR, .inl (cI, 366, .inl f))] ++ ([(hL, .inr (11, [.ref eE, .int (nI sts.length), .int mo])), (eE, .inl (cO, 10, .inr (.inr (.inr (.inr fE)))))] :: Lc).flatten) _ := hP
      have hD : va_D A ([(h, .inr (6, [.ref hL, .ref hR, .int rs])), (hR, .inr (0, [.ref aR, .int (nI i), .int (nI L.length)])), (aR, .inl (cI, 366, .inl f))] ++ ([(hL, .inr (11, [.ref eE, .int (nI sts.length), .int mo])), (eE, .inl (cO, 10, .inr (.inr (.inr (.inr fE)))))] :: Lc).flatten) := hD
      exact fq_retv K hret hlk hS hP hD ⟨_, rfl, by rw [← ha]; exact hI2.2⟩ dc_Chain_forgetSamples_33 (Nat.le_of_ble_eq_true rfl) (Nat.le_of_ble_eq_true rfl)
    · skip
      have ha : a < sts.length := by rw [nI_leI (by omega) (by omega)] at b10; omega
      obtain ⟨⟨hS0, sp, xs, m0⟩, hset0⟩ := ps_some ha
      have hcur := cr_cur hset0
      obtain ⟨gc, hgc, hsgc⟩ := ch_get hI2.2 hcur
      refine lv_aload_n K.1 K.2.1 dc_Chain_forgetSamples_13 rfl (lv_at hl 0 rfl) ?_
      refine fq_get K hK cl_Chain hP 0 0 rfl (by decide) wd_105 rfl dc_Chain_forgetSamples_14 ?_
      refine lv_iload_n K.1 K.2.1 dc_Chain_forgetSamples_17 rfl (lv_at hl 1 rfl) ?_
      have hc := fq_cutT (X := [(h, .inr (6, [.ref hL, .ref hR, .int rs])), (hR, .inr (0, [.ref aR, .int (nI i), .int (nI L.length)])), (aR, .inl (cI, 366, .inl f)), (eE, .inl (cO, 10, .inr (.inr (.inr (.inr fE))))), (hL, .inr (11, [.ref eE, .int (nI sts.length), .int mo]))]) (T := Lc.flatten) (cx := [(hL, .inr (11, [.ref eE, .int (nI sts.length), .int mo])), (eE, .inl (cO, 10, .inr (.inr (.inr (.inr fE)))))]) hP hD hS hA [4, 3] (by decide) rfl
      refine fq_cqT (wr := [(h, .inr (6, [.ref hL, .ref hR, .int rs])), (hR, .inr (0, [.ref aR, .int (nI i), .int (nI L.length)])), (aR, .inl (cI, 366, .inl f))]) (fq_rV K hK hZ hS hc (ct_AL_get l D cI cO tE hL eE sts.length mo fE a hS0 ha (by omega) (hfE a _ hset0) _) yk_AL_get wd_467 wd_468 wd_466 0 rfl rfl rfl ⟨⟨rfl, rfl⟩, ⟨Nat.le_of_ble_eq_true rfl, Nat.le_of_ble_eq_true rfl⟩, ⟨Nat.le_of_ble_eq_true rfl, Nat.le_of_ble_eq_true rfl⟩⟩ hl.1 rfl (Nat.le_of_ble_eq_true rfl) dc_Chain_forgetSamples_18) hP hD hS hc [4, 3] [0, 1, 2] rfl rfl (by decide) (by decide) (fun r3 w H locs hw3 hP hD hS => ?_)
      obtain ⟨rfl, rfl⟩ := hw3
      have hP : va_P D fq_cl ([(h, .inr (6, [.ref hL, .ref hR, .int rs])), (hR, .inr (0, [.ref aR, .int (nI i), .int (nI L.length)])), (aR, .inl (cI, 366, .inl f)), (hL, .inr (11, [.ref eE, .int (nI sts.length), .int mo])), (eE, .inl (cO, 10, .inr (.inr (.inr (.inr fE)))))] ++ Lc.flatten) _ := hP
      have hD : va_D A ([(h, .inr (6, [.ref hL, .ref hR, .int rs])), (hR, .inr (0, [.ref aR, .int (nI i), .int (nI L.length)])), (aR, .inl (cI, 366, .inl f)), (hL, .inr (11, [.ref eE, .int (nI sts.length), .int mo])), (eE, .inl (cO, 10, .inr (.inr (.inr (.inr fE)))))] ++ Lc.flatten) := hD
      refine W.eq (g2 := F0 mt 21 ls [.ref hS0]) rfl ?_
      refine sg_cast K hK hsgc (fq_Pl (fq_permP (fq_gone hgc) hP)) (K.2.2.2.2 _ wd_480) dc_Chain_forgetSamples_21 ?_
      have hcg := fq_cutR (fq_gone (X := [(h, .inr (6, [.ref hL, .ref hR, .int rs])), (hR, .inr (0, [.ref aR, .int (nI i), .int (nI L.length)])), (aR, .inl (cI, 366, .inl f)), (hL, .inr (11, [.ref eE, .int (nI sts.length), .int mo])), (eE, .inl (cO, 10, .inr (.inr (.inr (.inr fE)))))]) hgc) hP hD hS hA
      refine fq_cvR (sg_run_clear K hK hZ hS hcg hsgc (Nat.le_of_ble_eq_true rfl) (Nat.le_of_ble_eq_true rfl) (Nat.le_of_ble_eq_true rfl) (Nat.le_of_ble_eq_true rfl) hl.1 (Nat.le_of_ble_eq_true rfl) dc_Chain_forgetSamples_24) hP hD hS hcg (fq_gone (X := [(h, .inr (6, [.ref hL, .ref hR, .int rs])), (hR, .inr (0, [.ref aR, .int (nI i), .int (nI L.length)])), (aR, .inl (cI, 366, .inl f)), (hL, .inr (11, [.ref eE, .int (nI sts.length), .int mo])), (eE, .inl (cO, 10, .inr (.inr (.inr (.inr fE)))))]) hgc) (fun g2 H locs hw2 hP hD hS => ?_)
      have hP := fq_permP (fq_gback (X := [(h, .inr (6, [.ref hL, .ref hR, .int rs])), (hR, .inr (0, [.ref aR, .int (nI i), .int (nI L.length)])), (aR, .inl (cI, 366, .inl f)), (hL, .inr (11, [.ref eE, .int (nI sts.length), .int mo])), (eE, .inl (cO, 10, .inr (.inr (.inr (.inr fE)))))]) hgc) hP
      have hD := fq_permD (fq_gback (X := [(h, .inr (6, [.ref hL, .ref hR, .int rs])), (hR, .inr (0, [.ref aR, .int (nI i), .int (nI L.length)])), (aR, .inl (cI, 366, .inl f)), (hL, .inr (11, [.ref eE, .int (nI sts.length), .int mo])), (eE, .inl (cO, 10, .inr (.inr (.inr (.inr fE)))))]) hgc) hD
      have hP : va_P D fq_cl ([(h, .inr (6, [.ref hL, .ref hR, .int rs])), (hR, .inr (0, [.ref aR, .int (nI i), .int (nI L.length)])), (aR, .inl (cI, 366, .inl f)), (hL, .inr (11, [.ref eE, .int (nI sts.length), .int mo])), (eE, .inl (cO, 10, .inr (.inr (.inr (.inr fE)))))] ++ (Lc.set a g2).flatten) _ := hP
      have hD : va_D A ([(h, .inr (6, [.ref hL, .ref hR, .int rs])), (hR, .inr (0, [.ref aR, .int (nI i), .int (nI L.length)])), (aR, .inl (cI, 366, .inl f)), (hL, .inr (11, [.ref eE, .int (nI sts.length), .int mo])), (eE, .inl (cO, 10, .inr (.inr (.inr (.inr fE)))))] ++ (Lc.set a g2).flatten) := hD
      refine lv_iinc (v := nI (a + 1)) K.1 K.2.1 dc_Chain_forgetSamples_27 hl (k := 1) rfl (nI_1 a) (by decide) rfl (fun ls hl => ?_)
      have hl : lv_has ls 2 [(1, .int (nI (a + 1))), (0, .ref h)] := hl
      refine lv_goto (tgt := 2) K.1 K.2.1 dc_Chain_forgetSamples_30 rfl ?_
      exact ih2 (a + 1, Lc.set a g2) _ _ _ (by show sts.length - (a + 1) < sts.length - a; omega) ⟨⟨ha, cr_ch hI2.2 hset0 hw2⟩, lv_sub hl [1, 0] rfl, hP, hD, hS⟩
set_option maxHeartbeats 4000000 in
set_option maxRecDepth 100000 in
theorem ct_Chain_hasPlaceForResampler (l : Launch) (D : va_G) (cI cO : ClassId) (tE : Nat) (h hL hR : Nat) (rs : Int32) (sz : Nat) : Met l my_Chain_hasPlaceForResampler (fq_w my_Chain_hasPlaceForResampler cb_Chain_hasPlaceForResampler 1 (some .boolean)) ({ frames := 0, cells := 0, slots := 0, locals := 0 }) (va_Pc ([.ref h]) (fq_Pre D cI cO tE sz ([(h, .inr (6, [.ref hL, .ref hR, .int rs]))]))) (va_Qi (S := va_W) (fun r w => w = [(h, .inr (6, [.ref hL, .ref hR, .int rs]))] ∧ r = if 2 ≤ rs then 0 else 1) (fq_Bw D (va_A ([(h, .inr (6, [.ref hL, .ref hR, .int rs]))]) sz)) (va_A ([(h, .inr (6, [.ref hL, .ref hR, .int rs]))]) sz)) (0) (0) (va_A ([(h, .inr (6, [.ref hL, .ref hR, .int rs]))]) sz) := by
  refine fq_open (by decide +kernel) (Nat.le_of_ble_eq_true rfl) ?_
  intro pg ev s mt below meth cd ls K hret hlk hin hK hZ hP hD hA hS hl
  generalize va_A ([(h, .inr (6, [.ref hL, .ref hR, .int rs]))]) sz = A at hZ hD hA hS ⊢
  have K : fq_Ctx pg mt cd cb_Chain_hasPlaceForResampler 1 s _ cn_Chain := K
  have hl : lv_has ls 1 [(0, .ref h)] := hl
  refine lv_aload_n K.1 K.2.1 dc_Chain_hasPlaceForResampler_0 rfl (lv_at hl 0 rfl) ?_
  refine fq_get K hK cl_Chain hP 0 2 rfl (by decide) wd_107 rfl dc_Chain_hasPlaceForResampler_1 ?_
  refine lv_iconst (v := 2) K.1 K.2.1 dc_Chain_hasPlaceForResampler_4 (by decide) ?_
  refine lv_icmp_ge (tgt := 12) K.1 K.2.1 dc_Chain_hasPlaceForResampler_5 rfl (fun b5 => ?_) (fun b5 => ?_)
  · skip
    refine lv_iconst (v := 0) K.1 K.2.1 dc_Chain_hasPlaceForResampler_12 (by decide) ?_
    exact fq_retz K hret hlk hS hP hD (by first | exact Or.inl rfl | exact Or.inr rfl) ⟨rfl, by first | rw [if_pos b5] | rw [if_neg b5]⟩ dc_Chain_hasPlaceForResampler_13 (Nat.le_of_ble_eq_true rfl) (Nat.le_of_ble_eq_true rfl)
  · skip
    refine lv_iconst (v := 1) K.1 K.2.1 dc_Chain_hasPlaceForResampler_8 (by decide) ?_
    refine lv_goto (tgt := 13) K.1 K.2.1 dc_Chain_hasPlaceForResampler_9 rfl ?_
    exact fq_retz K hret hlk hS hP hD (by first | exact Or.inl rfl | exact Or.inr rfl) ⟨rfl, by first | rw [if_pos b5] | rw [if_neg b5]⟩ dc_Chain_hasPlaceForResampler_13 (Nat.le_of_ble_eq_true rfl) (Nat.le_of_ble_eq_true rfl)
set_option maxHeartbeats 4000000 in
set_option maxRecDepth 100000 in
theorem ct_Chain_init (l : Launch) (D : va_G) (cI cO : ClassId) (tE : Nat) (h : Nat) (sz : Nat) : Met l my_Chain_init (fq_w my_Chain_init cb_Chain_init 1 none) ({ frames := 4, cells := 3, slots := 375, locals := 72 }) (va_Pc ([.ref h]) (fq_Pre D cI cO tE sz ([(h, .inr (6, [.null, .null, .int 0]))]))) (va_Qv (S := va_W) (fun w => ∃ qL qR qA : Nat, w = [(h, .inr (6, [.ref qL, .ref qR, .int 0])), (qL, .inr (11, [.ref tE, .int 0, .int 0])), (qR, .inr (0, [.ref qA, .int 0, .int 0])), (qA, .inl (cI, 366, .inl (fun _ => 0)))]) (fq_Bw D (va_A ([(h, .inr (6, [.null, .null, .int 0]))]) sz)) (va_A ([(h, .inr (6, [.null, .null, .int 0]))]) sz)) (3) (375) (va_A ([(h, .inr (6, [.null, .null, .int 0]))]) sz) := by
  refine fq_open (by decide +kernel) (Nat.le_of_ble_eq_true rfl) ?_
  intro pg ev s mt below meth cd ls K hret hlk hin hK hZ hP hD hA hS hl
  generalize va_A ([(h, .inr (6, [.null, .null, .int 0]))]) sz = A at hZ hD hA hS ⊢
  have K : fq_Ctx pg mt cd cb_Chain_init 1 s _ cn_Chain := K
  have hin : meth.name = "<init>" := hin
  have hl : lv_has ls 1 [(0, .ref h)] := hl
  refine lv_aload_n K.1 K.2.1 dc_Chain_init_0 rfl (lv_at hl 0 rfl) ?_
  refine W.objInit K.1 K.2.1 K.2.2.2.1 (K.2.2.2.2 _ wd_61) (K.2.2.2.2 _ wd_54) (K.2.2.2.2 _ wd_55) rfl (by rw [K.2.2.1]; exact hl.1) rfl dc_Chain_init_1 (Nat.le_of_ble_eq_true rfl) (Nat.le_of_ble_eq_true rfl) ?_
  refine W.eq (g2 := F0 mt 4 ls []) rfl ?_
  refine lv_aload_n K.1 K.2.1 dc_Chain_init_4 rfl (lv_at hl 0 rfl) ?_
  refine fq_new (fs := [.null, .int 0, .int 0]) K hK cl_AL wd_62 wd_63 wd_30 hP hD hS hA (by decide) (Nat.le_of_ble_eq_true rfl) (Nat.le_of_ble_eq_true rfl) dc_Chain_init_5 (fun q1 H hP hD hS => ?_)
  have hP : va_P D fq_cl ([(h, .inr (6, [.null, .null, .int 0])), (q1, .inr (11, [.null, .int 0, .int 0]))]) _ := hP
  have hD : va_D A ([(h, .inr (6, [.null, .null, .int 0])), (q1, .inr (11, [.null, .int 0, .int 0]))]) := hD
  refine lv_dup K.1 K.2.1 dc_Chain_init_8 rfl ?_
  have hc := fq_cut.of (wc := [(q1, .inr (11, [.null, .int 0, .int 0]))]) hP hD hS hA [1] (by decide) rfl
  refine fq_cv (wr := [(h, .inr (6, [.null, .null, .int 0]))]) (fq_rI K hK hZ hS hc (ct_AL_init l D cI cO tE q1 _) yk_AL_init wd_65 rfl wd_64 ⟨⟨rfl, rfl⟩, ⟨Nat.le_of_ble_eq_true rfl, Nat.le_of_ble_eq_true rfl⟩, ⟨Nat.le_of_ble_eq_true rfl, Nat.le_of_ble_eq_true rfl⟩⟩ hl.1 rfl (Nat.le_of_ble_eq_true rfl) dc_Chain_init_9) hP hD hS hc [1] [0] rfl rfl (by decide) (by decide) (fun  w H locs hw1 hP hD hS => ?_)
  subst hw1
  have hP : va_P D fq_cl ([(h, .inr (6, [.null, .null, .int 0])), (q1, .inr (11, [.ref tE, .int 0, .int 0]))]) _ := hP
  have hD : va_D A ([(h, .inr (6, [.null, .null, .int 0])), (q1, .inr (11, [.ref tE, .int 0, .int 0]))]) := hD
  refine fq_putF K hK cl_Chain hP hD hS hin 0 0 rfl (by decide) wd_105 rfl rfl rfl rfl (Nat.le_of_ble_eq_true rfl) dc_Chain_init_12 (fun H locs hP hD hS => ?_)
  have hP : va_P D fq_cl ([(h, .inr (6, [.ref q1, .null, .int 0])), (q1, .inr (11, [.ref tE, .int 0, .int 0]))]) _ := hP
  have hD : va_D A ([(h, .inr (6, [.ref q1, .null, .int 0])), (q1, .inr (11, [.ref tE, .int 0, .int 0]))]) := hD
  refine lv_aload_n K.1 K.2.1 dc_Chain_init_15 rfl (lv_at hl 0 rfl) ?_
  refine fq_new (fs := [.null, .int 0, .int 0]) K hK cl_Row wd_88 wd_89 wd_31 hP hD hS hA (by decide) (Nat.le_of_ble_eq_true rfl) (Nat.le_of_ble_eq_true rfl) dc_Chain_init_16 (fun q2 H hP hD hS => ?_)
  have hP : va_P D fq_cl ([(h, .inr (6, [.ref q1, .null, .int 0])), (q1, .inr (11, [.ref tE, .int 0, .int 0])), (q2, .inr (0, [.null, .int 0, .int 0]))]) _ := hP
  have hD : va_D A ([(h, .inr (6, [.ref q1, .null, .int 0])), (q1, .inr (11, [.ref tE, .int 0, .int 0])), (q2, .inr (0, [.null, .int 0, .int 0]))]) := hD
  refine lv_dup K.1 K.2.1 dc_Chain_init_19 rfl ?_
  refine lv_sipush (v := 366) K.1 K.2.1 dc_Chain_init_20 (by decide) ?_
  refine fq_asi (y := nI 366) (by decide) ?_
  have hc := fq_cut.of (wc := [(q2, .inr (0, [.null, .int 0, .int 0]))]) hP hD hS hA [2] (by decide) rfl
  refine fq_cv (wr := [(h, .inr (6, [.ref q1, .null, .int 0])), (q1, .inr (11, [.ref tE, .int 0, .int 0]))]) (fq_rI K hK hZ hS hc (ct_Row_init l D cI cO tE q2 366 (by decide) _) yk_Row_init wd_91 rfl wd_90 ⟨⟨rfl, rfl⟩, ⟨Nat.le_of_ble_eq_true rfl, Nat.le_of_ble_eq_true rfl⟩, ⟨Nat.le_of_ble_eq_true rfl, Nat.le_of_ble_eq_true rfl⟩⟩ hl.1 rfl (Nat.le_of_ble_eq_true rfl) dc_Chain_init_23) hP hD hS hc [2] [0, 1] rfl rfl (by decide) (by decide) (fun  w H locs hw2 hP hD hS => ?_)
  obtain ⟨q3, rfl⟩ := hw2
  have hP : va_P D fq_cl ([(h, .inr (6, [.ref q1, .null, .int 0])), (q1, .inr (11, [.ref tE, .int 0, .int 0])), (q2, .inr (0, [.ref q3, .int 0, .int 0])), (q3, .inl (cI, 366, .inl (fun _ => 0)))]) _ := hP
  have hD : va_D A ([(h, .inr (6, [.ref q1, .null, .int 0])), (q1, .inr (11, [.ref tE, .int 0, .int 0])), (q2, .inr (0, [.ref q3, .int 0, .int 0])), (q3, .inl (cI, 366, .inl (fun _ => 0)))]) := hD
  refine fq_putF K hK cl_Chain hP hD hS hin 0 1 rfl (by decide) wd_106 rfl rfl rfl rfl (Nat.le_of_ble_eq_true rfl) dc_Chain_init_26 (fun H locs hP hD hS => ?_)
  have hP : va_P D fq_cl ([(h, .inr (6, [.ref q1, .ref q2, .int 0])), (q1, .inr (11, [.ref tE, .int 0, .int 0])), (q2, .inr (0, [.ref q3, .int 0, .int 0])), (q3, .inl (cI, 366, .inl (fun _ => 0)))]) _ := hP
  have hD : va_D A ([(h, .inr (6, [.ref q1, .ref q2, .int 0])), (q1, .inr (11, [.ref tE, .int 0, .int 0])), (q2, .inr (0, [.ref q3, .int 0, .int 0])), (q3, .inl (cI, 366, .inl (fun _ => 0)))]) := hD
  exact fq_retv K hret hlk hS hP hD ⟨_, _, _, rfl⟩ dc_Chain_init_29 (Nat.le_of_ble_eq_true rfl) (Nat.le_of_ble_eq_true rfl)
