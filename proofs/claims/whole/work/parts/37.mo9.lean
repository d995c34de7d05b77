theorem wd_920 : Cond.instanceMethod my_Mo_produce ∈ fq_TB := fq_in 920 (by decide +kernel) rfl
theorem wd_921 : Cond.selects cn_Mo my_Mo_produce my_Mo_produce ∈ fq_TB := fq_in 921 (by decide +kernel) rfl
theorem wd_922 : Cond.code my_Mo_produce cb_Mo_produce 5 (some .int) ∈ fq_TB := fq_in 922 (by decide +kernel) rfl
theorem wd_923 : Cond.methodLink cn_Mo 175 my_Mo_producerStep ∈ fq_TB := fq_in 923 (by decide +kernel) rfl
theorem wd_969 : Cond.instanceMethod my_Mo_consume ∈ fq_TB := fq_in 969 (by decide +kernel) rfl
theorem wd_970 : Cond.selects cn_Mo my_Mo_consume my_Mo_consume ∈ fq_TB := fq_in 970 (by decide +kernel) rfl
theorem wd_971 : Cond.code my_Mo_consume cb_Mo_consume 5 (some .int) ∈ fq_TB := fq_in 971 (by decide +kernel) rfl
theorem wd_972 : Cond.methodLink cn_Mo 178 my_Mo_consumerStep ∈ fq_TB := fq_in 972 (by decide +kernel) rfl
def mo_R (S : fs_A) (us : Nat) (X : List Int) (fK fN fB fS fL : Nat → Int32) : Prop := mo_K fK fN (st_P S) ∧ (∀ k, k < S.Lb.length → fB (us + k) = S.Lb.getD k 0) ∧ (∀ j, j < X.length → (fS j).toInt = X.getD j 0) ∧ mo_L fL (st_Y S X)
def mo_X (cI : ClassId) (h : Nat) (S : fs_A) (ws : va_W) : Prop := ∃ (aK aN aB aS aL aX us md gi su : Nat) (sd : Bool) (fK fN fB fS fL fX : Nat → Int32) (X : List Int), ws = [(h, .inr (12, [.int (nI S.rm), .int (fq_b sd), .int (nI S.sts.length), .ref aK, .ref aN, .int (nI S.iw), .int (nI S.ow), .int (fq_b S.ih), .int (fq_b S.oh), .ref aB, .int (nI S.ca), .int (nI us), .int (fq_b S.cl), .int (fq_b S.fl), .ref aS, .int (nI X.length), .ref aL, .ref aX, .int (nI md), .int (nI gi), .int (nI su), .int (nI S.ps), .int (nI S.cs)])), (aK, .inl (cI, 5, .inl fK)), (aN, .inl (cI, 25, .inl fN)), (aB, .inl (cI, 120, .inl fB)), (aS, .inl (cI, 120, .inl fS)), (aL, .inl (cI, 2300, .inl fL)), (aX, .inl (cI, 2300, .inl fX))] ∧ (sd = false ↔ S.ps = 0) ∧ st_I S us md gi su X ∧ mo_R S us X fK fN fB fS fL

def mo_S (cI : ClassId) (h : Nat) (o : Option fs_A) (S : fs_A) (r : Int32) (w : va_W) : Prop := (∃ T, o = some T ∧ r = 1 ∧ mo_X cI h T w) ∨ (o = none ∧ r = 0 ∧ mo_X cI h S w)
theorem st_fP {S : fs_A} {us md gi su : Nat} {X : List Int} (h : st_I S us md gi su X) (h5 : ¬ S.fl = true) : (fl_it S.sts S.sts.length).1.map (fun s => s.2.1) = st_P S :=
  (pl_fl h.2.2.1.1.1 (h.2.2.2.2.2.2.2.1 (by cases e : S.fl with | false => rfl | true => exact absurd e h5)) _ (Nat.le_refl _)).1.1
theorem st_tP {S : fs_A} {us md gi su : Nat} {X q : List Int} (h : st_I S us md gi su X) (h5 : S.fl = false) : (ch_it S.sts 0 q S.sts.length).1.map (fun s => s.2.1) = st_P S :=
  (pl_it (q := q) h.2.2.1.1.1 (h.2.2.2.2.2.2.2.1 h5) S.sts.length (by omega)).2.1
theorem mo_dr {f : Nat → Int32} {L : List Int32} {us n : Nat} (h : ∀ k, k < L.length → f (us + k) = L.getD k 0) : ∀ k, k < (L.drop n).length → f (us + n + k) = (L.drop n).getD k 0 := fun k hk => by
  rw [List.length_drop] at hk
  rw [Nat.add_assoc, h (n + k) (by omega), List.getD_eq_getElem?_getD, List.getD_eq_getElem?_getD, List.getElem?_drop]
theorem mo_Pl {cI : ClassId} {h aK aN aB aS aL aX us md gi su : Nat} {sd : Bool} {fK fN fB fS fL fX : Nat → Int32} {X : List Int} {S : fs_A} {w : va_W} {r : Int32} (hsd : sd = false ↔ S.ps = 0) (hI : st_I S us md gi su X) (hR : mo_R S us X fK fN fB fS fL)
    (hw : if S.ps = 1 then (if gi < md then (if S.cs = 3 then r = 1 ∧ w = [(h, .inr (12, [.int (nI S.rm), .int (fq_b sd), .int (nI S.sts.length), .ref aK, .ref aN, .int (nI S.iw), .int (nI S.ow), .int (fq_b S.ih), .int (fq_b S.oh), .ref aB, .int (nI S.ca), .int (nI us), .int (fq_b S.cl), .int (fq_b S.fl), .ref aS, .int (nI X.length), .ref aL, .ref aX, .int (nI gi), .int (nI gi), .int (nI su), .int (nI 2), .int (nI S.cs)])), (aK, .inl (cI, 5, .inl fK)), (aN, .inl (cI, 25, .inl fN)), (aB, .inl (cI, 120, .inl fB)), (aS, .inl (cI, 120, .inl fS)), (aL, .inl (cI, 2300, .inl fL)), (aX, .inl (cI, 2300, .inl fX))] else if gi - su = S.rm then r = 0 ∧ w = [(h, .inr (12, [.int (nI S.rm), .int (fq_b sd), .int (nI S.sts.length), .ref aK, .ref aN, .int (nI S.iw), .int (nI S.ow), .int (fq_b S.ih), .int (fq_b S.oh), .ref aB, .int (nI S.ca), .int (nI us), .int (fq_b S.cl), .int (fq_b S.fl), .ref aS, .int (nI X.length), .ref aL, .ref aX, .int (nI md), .int (nI gi), .int (nI su), .int (nI S.ps), .int (nI S.cs)])), (aK, .inl (cI, 5, .inl fK)), (aN, .inl (cI, 25, .inl fN)), (aB, .inl (cI, 120, .inl fB)), (aS, .inl (cI, 120, .inl fS)), (aL, .inl (cI, 2300, .inl fL)), (aX, .inl (cI, 2300, .inl fX))] else r = 1 ∧ w = [(h, .inr (12, [.int (nI S.rm), .int (fq_b sd), .int (nI S.sts.length), .ref aK, .ref aN, .int (nI S.iw), .int (nI S.ow), .int (fq_b S.ih), .int (fq_b S.oh), .ref aB, .int (nI S.ca), .int (nI us), .int (fq_b S.cl), .int (fq_b S.fl), .ref aS, .int (nI X.length), .ref aL, .ref aX, .int (nI md), .int (nI (gi + 1)), .int (nI su), .int (nI S.ps), .int (nI S.cs)])), (aK, .inl (cI, 5, .inl fK)), (aN, .inl (cI, 25, .inl fN)), (aB, .inl (cI, 120, .inl fB)), (aS, .inl (cI, 120, .inl fS)), (aL, .inl (cI, 2300, .inl fL)), (aX, .inl (cI, 2300, .inl fX))]) else if S.ca - us < S.iw then (if S.cl = true then (if S.fl = true then r = 1 ∧ w = [(h, .inr (12, [.int (nI S.rm), .int (fq_b sd), .int (nI S.sts.length), .ref aK, .ref aN, .int (nI S.iw), .int (nI S.ow), .int (fq_b S.ih), .int (fq_b S.oh), .ref aB, .int (nI S.ca), .int (nI us), .int (fq_b S.cl), .int (fq_b S.fl), .ref aS, .int (nI X.length), .ref aL, .ref aX, .int (nI md), .int (nI gi), .int (nI su), .int (nI 2), .int (nI S.cs)])), (aK, .inl (cI, 5, .inl fK)), (aN, .inl (cI, 25, .inl fN)), (aB, .inl (cI, 120, .inl fB)), (aS, .inl (cI, 120, .inl fS)), (aL, .inl (cI, 2300, .inl fL)), (aX, .inl (cI, 2300, .inl fX))] else r = 1 ∧ ∃ gL gX : Nat → Int32, w = [(h, .inr (12, [.int (nI S.rm), .int (fq_b sd), .int (nI S.sts.length), .ref aK, .ref aN, .int (nI S.iw), .int (nI S.ow), .int (fq_b S.ih), .int (fq_b S.oh), .ref aB, .int (nI S.ca), .int (nI S.ca), .int (fq_b S.cl), .int (fq_b true), .ref aS, .int (nI X.length), .ref aL, .ref aX, .int (nI ((fm_O (st_P S) true X).length)), .int (nI gi), .int (nI su), .int (nI S.ps), .int (nI S.cs)])), (aK, .inl (cI, 5, .inl fK)), (aN, .inl (cI, 25, .inl fN)), (aB, .inl (cI, 120, .inl fB)), (aS, .inl (cI, 120, .inl fS)), (aL, .inl (cI, 2300, .inl gL)), (aX, .inl (cI, 2300, .inl gX))] ∧ mo_L gL (fm_O (st_P S) true X)) else r = 0 ∧ w = [(h, .inr (12, [.int (nI S.rm), .int (fq_b sd), .int (nI S.sts.length), .ref aK, .ref aN, .int (nI S.iw), .int (nI S.ow), .int (fq_b S.ih), .int (fq_b S.oh), .ref aB, .int (nI S.ca), .int (nI us), .int (fq_b S.cl), .int (fq_b S.fl), .ref aS, .int (nI X.length), .ref aL, .ref aX, .int (nI md), .int (nI gi), .int (nI su), .int (nI S.ps), .int (nI S.cs)])), (aK, .inl (cI, 5, .inl fK)), (aN, .inl (cI, 25, .inl fN)), (aB, .inl (cI, 120, .inl fB)), (aS, .inl (cI, 120, .inl fS)), (aL, .inl (cI, 2300, .inl fL)), (aX, .inl (cI, 2300, .inl fX))]) else r = 1 ∧ ∃ (v : Int32) (gL gX : Nat → Int32), v.toInt = ns_s S.iw (ns_v S.iw S.ih S.Lb S.iw) ∧ w = [(h, .inr (12, [.int (nI S.rm), .int (fq_b sd), .int (nI S.sts.length), .ref aK, .ref aN, .int (nI S.iw), .int (nI S.ow), .int (fq_b S.ih), .int (fq_b S.oh), .ref aB, .int (nI S.ca), .int (nI (us + S.iw)), .int (fq_b S.cl), .int (fq_b S.fl), .ref aS, .int (nI (X.length + 1)), .ref aL, .ref aX, .int (nI ((fm_O (st_P S) S.fl (X ++ [ns_s S.iw (ns_v S.iw S.ih S.Lb S.iw)])).length)), .int (nI gi), .int (nI su), .int (nI S.ps), .int (nI S.cs)])), (aK, .inl (cI, 5, .inl fK)), (aN, .inl (cI, 25, .inl fN)), (aB, .inl (cI, 120, .inl fB)), (aS, .inl (cI, 120, .inl (upd fS X.length v))), (aL, .inl (cI, 2300, .inl gL)), (aX, .inl (cI, 2300, .inl gX))] ∧ mo_L gL (fm_O (st_P S) S.fl (X ++ [ns_s S.iw (ns_v S.iw S.ih S.Lb S.iw)]))) else r = 0 ∧ w = [(h, .inr (12, [.int (nI S.rm), .int (fq_b sd), .int (nI S.sts.length), .ref aK, .ref aN, .int (nI S.iw), .int (nI S.ow), .int (fq_b S.ih), .int (fq_b S.oh), .ref aB, .int (nI S.ca), .int (nI us), .int (fq_b S.cl), .int (fq_b S.fl), .ref aS, .int (nI X.length), .ref aL, .ref aX, .int (nI md), .int (nI gi), .int (nI su), .int (nI S.ps), .int (nI S.cs)])), (aK, .inl (cI, 5, .inl fK)), (aN, .inl (cI, 25, .inl fN)), (aB, .inl (cI, 120, .inl fB)), (aS, .inl (cI, 120, .inl fS)), (aL, .inl (cI, 2300, .inl fL)), (aX, .inl (cI, 2300, .inl fX))]) : mo_S cI h (fs_P S) S r w := by
  have hk := st_kl hI
  have hg := hI.2.2.2.2.2.1
  have hb := hI.2.2.2.1
  unfold fs_P
  by_cases c1 : S.ps = 1
  · rw [if_pos c1] at hw ⊢
    by_cases c2 : gi < md
    · rw [if_pos c2] at hw
      have c2' : ¬ S.Lh = [] := fun z => by rw [z, List.length_nil] at hk; omega
      rw [if_neg c2']
      by_cases c3 : S.cs = 3
      · rw [if_pos c3] at hw ⊢
        exact Or.inl ⟨_, rfl, hw.1, ⟨aK, aN, aB, aS, aL, aX, us, gi, gi, su, sd, fK, fN, fB, fS, fL, fX, X, hw.2, ⟨fun z => absurd (hsd.mp z) (by omega), fun z => absurd z (show ¬ (2 : Nat) = 0 by decide)⟩, st_drop hI, hR⟩⟩
      · rw [if_neg c3] at hw ⊢
        by_cases c4 : gi - su = S.rm
        · rw [if_pos c4] at hw
          rw [if_neg (show ¬ S.Lr.length < S.rm by omega)]
          exact Or.inr ⟨rfl, hw.1, ⟨aK, aN, aB, aS, aL, aX, us, md, gi, su, sd, fK, fN, fB, fS, fL, fX, X, hw.2, hsd, hI, hR⟩⟩
        · rw [if_neg c4] at hw
          have c4' : S.Lr.length < S.rm := by omega
          rw [if_pos c4']
          exact Or.inl ⟨_, rfl, hw.1, ⟨aK, aN, aB, aS, aL, aX, us, md, gi + 1, su, sd, fK, fN, fB, fS, fL, fX, X, hw.2, hsd, st_hand hI c2' c4', hR⟩⟩
    · rw [if_neg c2] at hw
      have c2' : S.Lh = [] := List.eq_nil_of_length_eq_zero (by omega)
      rw [if_pos c2']
      by_cases c3 : S.ca - us < S.iw
      · rw [if_pos c3] at hw
        rw [if_pos (show S.Lb.length < S.iw by omega)]
        by_cases c4 : S.cl = true
        · rw [if_pos c4] at hw ⊢
          by_cases c5 : S.fl = true
          · rw [if_pos c5] at hw ⊢
            exact Or.inl ⟨_, rfl, hw.1, ⟨aK, aN, aB, aS, aL, aX, us, md, gi, su, sd, fK, fN, fB, fS, fL, fX, X, hw.2, ⟨fun z => absurd (hsd.mp z) (by omega), fun z => absurd z (show ¬ (2 : Nat) = 0 by decide)⟩, st_end hI, hR⟩⟩
          · rw [if_neg c5] at hw ⊢
            obtain ⟨hr, gL, gX, he, hL⟩ := hw
            have hP := st_fP hI c5
            refine Or.inl ⟨_, rfl, hr, ⟨aK, aN, aB, aS, aL, aX, S.ca, (fm_O (st_P S) true X).length, gi, su, sd, fK, fN, fB, fS, gL, gX, X, ?_, hsd, st_flush hI c1 c2' c4 c5, ?_, fun k hk => absurd hk (Nat.not_lt_zero k), hR.2.2.1, ?_⟩⟩
            · rw [he]
              show (_ : va_W) = [(h, .inr (12, [.int (nI S.rm), .int (fq_b sd), .int (nI ((fl_it S.sts S.sts.length).1.length)), .ref aK, .ref aN, .int (nI S.iw), .int (nI S.ow), .int (fq_b S.ih), .int (fq_b S.oh), .ref aB, .int (nI S.ca), .int (nI S.ca), .int (fq_b S.cl), .int (fq_b true), .ref aS, .int (nI X.length), .ref aL, .ref aX, .int (nI ((fm_O (st_P S) true X).length)), .int (nI gi), .int (nI su), .int (nI S.ps), .int (nI S.cs)])), (aK, .inl (cI, 5, .inl fK)), (aN, .inl (cI, 25, .inl fN)), (aB, .inl (cI, 120, .inl fB)), (aS, .inl (cI, 120, .inl fS)), (aL, .inl (cI, 2300, .inl gL)), (aX, .inl (cI, 2300, .inl gX))]
              rw [fl_len]
            · show mo_K fK fN ((fl_it S.sts S.sts.length).1.map (fun s => s.2.1)); rw [hP]; exact hR.1
            · show mo_L gL (fm_O ((fl_it S.sts S.sts.length).1.map (fun s => s.2.1)) true X); rw [hP]; exact hL
        · rw [if_neg c4] at hw ⊢
          exact Or.inr ⟨rfl, hw.1, ⟨aK, aN, aB, aS, aL, aX, us, md, gi, su, sd, fK, fN, fB, fS, fL, fX, X, hw.2, hsd, hI, hR⟩⟩
      · rw [if_neg c3] at hw
        have c3' : ¬ S.Lb.length < S.iw := by omega
        rw [if_neg c3']
        obtain ⟨hr, v, gL, gX, hv, he, hL⟩ := hw
        have hfl := st_nf hI c3'
        have hP := st_tP (q := [(ns_s S.iw (ns_v S.iw S.ih S.Lb S.iw))]) hI hfl
        refine Or.inl ⟨_, rfl, hr, ⟨aK, aN, aB, aS, aL, aX, us + S.iw, (fm_O (st_P S) false (X ++ [(ns_s S.iw (ns_v S.iw S.ih S.Lb S.iw))])).length, gi, su, sd, fK, fN, fB, upd fS X.length v, gL, gX, X ++ [(ns_s S.iw (ns_v S.iw S.ih S.Lb S.iw))], ?_, hsd, st_take hI c1 c2' c3', ?_, mo_dr hR.2.1, mo_ap hR.2.2.1 hv, ?_⟩⟩
        · rw [he]
          show (_ : va_W) = [(h, .inr (12, [.int (nI S.rm), .int (fq_b sd), .int (nI ((ch_it S.sts 0 [(ns_s S.iw (ns_v S.iw S.ih S.Lb S.iw))] S.sts.length).1.length)), .ref aK, .ref aN, .int (nI S.iw), .int (nI S.ow), .int (fq_b S.ih), .int (fq_b S.oh), .ref aB, .int (nI S.ca), .int (nI (us + S.iw)), .int (fq_b S.cl), .int (fq_b S.fl), .ref aS, .int (nI ((X ++ [(ns_s S.iw (ns_v S.iw S.ih S.Lb S.iw))]).length)), .ref aL, .ref aX, .int (nI ((fm_O (st_P S) false (X ++ [(ns_s S.iw (ns_v S.iw S.ih S.Lb S.iw))])).length)), .int (nI gi), .int (nI su), .int (nI S.ps), .int (nI S.cs)])), (aK, .inl (cI, 5, .inl fK)), (aN, .inl (cI, 25, .inl fN)), (aB, .inl (cI, 120, .inl fB)), (aS, .inl (cI, 120, .inl (upd fS X.length v))), (aL, .inl (cI, 2300, .inl gL)), (aX, .inl (cI, 2300, .inl gX))]
          rw [ch_it_len, List.length_append, hfl]; rfl
        · show mo_K fK fN ((ch_it S.sts 0 [(ns_s S.iw (ns_v S.iw S.ih S.Lb S.iw))] S.sts.length).1.map (fun s => s.2.1)); rw [hP]; exact hR.1
        · show mo_L gL (fm_O ((ch_it S.sts 0 [(ns_s S.iw (ns_v S.iw S.ih S.Lb S.iw))] S.sts.length).1.map (fun s => s.2.1)) S.fl (X ++ [(ns_s S.iw (ns_v S.iw S.ih S.Lb S.iw))])); rw [hP]; exact hL
  · rw [if_neg c1] at hw ⊢
    exact Or.inr ⟨rfl, hw.1, ⟨aK, aN, aB, aS, aL, aX, us, md, gi, su, sd, fK, fN, fB, fS, fL, fX, X, hw.2, hsd, hI, hR⟩⟩
theorem mo_Cl {cI : ClassId} {h aK aN aB aS aL aX us md gi su : Nat} {sd : Bool} {fK fN fB fS fL fX : Nat → Int32} {X : List Int} {S : fs_A} {w : va_W} {r : Int32} (hsd : sd = false ↔ S.ps = 0) (hI : st_I S us md gi su X) (hR : mo_R S us X fK fN fB fS fL)
    (hw : if S.cs = 1 then (if gi ≤ su then (if S.ps = 1 then r = 0 ∧ w = [(h, .inr (12, [.int (nI S.rm), .int (fq_b sd), .int (nI S.sts.length), .ref aK, .ref aN, .int (nI S.iw), .int (nI S.ow), .int (fq_b S.ih), .int (fq_b S.oh), .ref aB, .int (nI S.ca), .int (nI us), .int (fq_b S.cl), .int (fq_b S.fl), .ref aS, .int (nI X.length), .ref aL, .ref aX, .int (nI md), .int (nI gi), .int (nI su), .int (nI S.ps), .int (nI S.cs)])), (aK, .inl (cI, 5, .inl fK)), (aN, .inl (cI, 25, .inl fN)), (aB, .inl (cI, 120, .inl fB)), (aS, .inl (cI, 120, .inl fS)), (aL, .inl (cI, 2300, .inl fL)), (aX, .inl (cI, 2300, .inl fX))] else r = 1 ∧ w = [(h, .inr (12, [.int (nI S.rm), .int (fq_b sd), .int (nI S.sts.length), .ref aK, .ref aN, .int (nI S.iw), .int (nI S.ow), .int (fq_b S.ih), .int (fq_b S.oh), .ref aB, .int (nI S.ca), .int (nI us), .int (fq_b S.cl), .int (fq_b S.fl), .ref aS, .int (nI X.length), .ref aL, .ref aX, .int (nI md), .int (nI gi), .int (nI su), .int (nI S.ps), .int (nI 2)])), (aK, .inl (cI, 5, .inl fK)), (aN, .inl (cI, 25, .inl fN)), (aB, .inl (cI, 120, .inl fB)), (aS, .inl (cI, 120, .inl fS)), (aL, .inl (cI, 2300, .inl fL)), (aX, .inl (cI, 2300, .inl fX))]) else r = 1 ∧ w = [(h, .inr (12, [.int (nI S.rm), .int (fq_b sd), .int (nI S.sts.length), .ref aK, .ref aN, .int (nI S.iw), .int (nI S.ow), .int (fq_b S.ih), .int (fq_b S.oh), .ref aB, .int (nI S.ca), .int (nI us), .int (fq_b S.cl), .int (fq_b S.fl), .ref aS, .int (nI X.length), .ref aL, .ref aX, .int (nI md), .int (nI gi), .int (nI (su + 1)), .int (nI S.ps), .int (nI S.cs)])), (aK, .inl (cI, 5, .inl fK)), (aN, .inl (cI, 25, .inl fN)), (aB, .inl (cI, 120, .inl fB)), (aS, .inl (cI, 120, .inl fS)), (aL, .inl (cI, 2300, .inl fL)), (aX, .inl (cI, 2300, .inl fX))]) else r = 0 ∧ w = [(h, .inr (12, [.int (nI S.rm), .int (fq_b sd), .int (nI S.sts.length), .ref aK, .ref aN, .int (nI S.iw), .int (nI S.ow), .int (fq_b S.ih), .int (fq_b S.oh), .ref aB, .int (nI S.ca), .int (nI us), .int (fq_b S.cl), .int (fq_b S.fl), .ref aS, .int (nI X.length), .ref aL, .ref aX, .int (nI md), .int (nI gi), .int (nI su), .int (nI S.ps), .int (nI S.cs)])), (aK, .inl (cI, 5, .inl fK)), (aN, .inl (cI, 25, .inl fN)), (aB, .inl (cI, 120, .inl fB)), (aS, .inl (cI, 120, .inl fS)), (aL, .inl (cI, 2300, .inl fL)), (aX, .inl (cI, 2300, .inl fX))]) : mo_S cI h (fs_C S) S r w := by
  have hk := st_kl hI
  have hg := hI.2.2.2.2.2.1
  unfold fs_C
  by_cases c1 : S.cs = 1
  · rw [if_pos c1] at hw ⊢
    by_cases c2 : gi ≤ su
    · rw [if_pos c2] at hw
      rw [if_pos (show S.Lr = [] from List.eq_nil_of_length_eq_zero (by omega))]
      by_cases c3 : S.ps = 1
      · rw [if_pos c3] at hw ⊢
        exact Or.inr ⟨rfl, hw.1, ⟨aK, aN, aB, aS, aL, aX, us, md, gi, su, sd, fK, fN, fB, fS, fL, fX, X, hw.2, hsd, hI, hR⟩⟩
      · rw [if_neg c3] at hw ⊢
        exact Or.inl ⟨_, rfl, hw.1, ⟨aK, aN, aB, aS, aL, aX, us, md, gi, su, sd, fK, fN, fB, fS, fL, fX, X, hw.2, hsd, st_ced hI c1, hR⟩⟩
    · rw [if_neg c2] at hw
      have c2' : ¬ S.Lr = [] := fun z => by rw [z, List.length_nil] at hk; omega
      rw [if_neg c2']
      exact Or.inl ⟨_, rfl, hw.1, ⟨aK, aN, aB, aS, aL, aX, us, md, gi, su + 1, sd, fK, fN, fB, fS, fL, fX, X, hw.2, hsd, st_csm hI c2', hR⟩⟩
  · rw [if_neg c1] at hw ⊢
    exact Or.inr ⟨rfl, hw.1, ⟨aK, aN, aB, aS, aL, aX, us, md, gi, su, sd, fK, fN, fB, fS, fL, fX, X, hw.2, hsd, hI, hR⟩⟩

def mo_q (x : Int32) : Int32 := if x < 5000 then x else 5000
theorem mo_q1 {x : Int32} (h : ¬ (5000 : Int32) ≤ x) : x = mo_q x := by unfold mo_q; rw [if_pos (Int32.not_le.mp h)]
theorem mo_q2 {x : Int32} (h : (5000 : Int32) ≤ x) : (5000 : Int32) = mo_q x := by unfold mo_q; rw [if_neg (Int32.not_lt.mpr h)]
theorem mo_qn (x : Int32) : (mo_q x).toInt.toNat = min x.toInt.toNat 5000 := by
  unfold mo_q
  have e : (5000 : Int32).toInt = 5000 := by decide
  by_cases h : x < 5000
  · rw [if_pos h]
    rw [Int32.lt_iff_toInt_lt, e] at h
    omega
  · rw [if_neg h, e]
    rw [Int32.lt_iff_toInt_lt, e] at h
    omega
theorem mo_me {n k : Nat} {bm b2 : Bool} {k2 : Nat} (hk : k < n) (hb : bm = true) (h2 : k2 = k + 1 ∨ (k2 = k ∧ b2 = false) := by first | exact Or.inl rfl | exact Or.inr ⟨rfl, rfl⟩) : 2 * (n - k2) + (if b2 = true then 1 else 0) < 2 * (n - k) + (if bm = true then 1 else 0) := by
  rw [if_pos hb]
  rcases h2 with e | ⟨e, e2⟩
  · rw [e]; split <;> omega
  · rw [e, e2, if_neg (by decide)]; omega
theorem st_gb {S : fs_A} {us md gi su : Nat} {X : List Int} (h : st_I S us md gi su X) : gi < 2 ^ 31 := by
  have h1 := st_yl h
  have h2 := h.2.2.2.2.2.1
  omega

theorem dc_Mo_produce_0 : decode cb_Mo_produce 0 = .ok (.iload_n 1, 1) := by decide +kernel
theorem dc_Mo_produce_1 : decode cb_Mo_produce 1 = .ok (.sipush 5000, 3) := by decide +kernel
theorem dc_Mo_produce_4 : decode cb_Mo_produce 4 = .ok (.if_icmp .ge 7, 3) := by decide +kernel
theorem dc_Mo_produce_7 : decode cb_Mo_produce 7 = .ok (.iload_n 1, 1) := by decide +kernel
theorem dc_Mo_produce_8 : decode cb_Mo_produce 8 = .ok (.goto 6, 3) := by decide +kernel
theorem dc_Mo_produce_11 : decode cb_Mo_produce 11 = .ok (.sipush 5000, 3) := by decide +kernel
theorem dc_Mo_produce_14 : decode cb_Mo_produce 14 = .ok (.istore_n 2, 1) := by decide +kernel
theorem dc_Mo_produce_15 : decode cb_Mo_produce 15 = .ok (.iconst 0, 1) := by decide +kernel
theorem dc_Mo_produce_16 : decode cb_Mo_produce 16 = .ok (.istore_n 3, 1) := by decide +kernel
theorem dc_Mo_produce_17 : decode cb_Mo_produce 17 = .ok (.iconst 1, 1) := by decide +kernel
theorem dc_Mo_produce_18 : decode cb_Mo_produce 18 = .ok (.istore 4, 2) := by decide +kernel
theorem dc_Mo_produce_20 : decode cb_Mo_produce 20 = .ok (.iload_n 3, 1) := by decide +kernel
theorem dc_Mo_produce_21 : decode cb_Mo_produce 21 = .ok (.iload_n 2, 1) := by decide +kernel
theorem dc_Mo_produce_22 : decode cb_Mo_produce 22 = .ok (.if_icmp .ge 25, 3) := by decide +kernel
theorem dc_Mo_produce_25 : decode cb_Mo_produce 25 = .ok (.iload 4, 2) := by decide +kernel
theorem dc_Mo_produce_27 : decode cb_Mo_produce 27 = .ok (.ifCond .eq 20, 3) := by decide +kernel
theorem dc_Mo_produce_30 : decode cb_Mo_produce 30 = .ok (.aload_n 0, 1) := by decide +kernel
theorem dc_Mo_produce_31 : decode cb_Mo_produce 31 = .ok (.invokevirtual 175, 3) := by decide +kernel
theorem dc_Mo_produce_34 : decode cb_Mo_produce 34 = .ok (.istore 4, 2) := by decide +kernel
theorem dc_Mo_produce_36 : decode cb_Mo_produce 36 = .ok (.iload 4, 2) := by decide +kernel
theorem dc_Mo_produce_38 : decode cb_Mo_produce 38 = .ok (.ifCond .eq (-18), 3) := by decide +kernel
theorem dc_Mo_produce_41 : decode cb_Mo_produce 41 = .ok (.iinc 3 1, 3) := by decide +kernel
theorem dc_Mo_produce_44 : decode cb_Mo_produce 44 = .ok (.goto (-24), 3) := by decide +kernel
theorem dc_Mo_produce_47 : decode cb_Mo_produce 47 = .ok (.iload_n 3, 1) := by decide +kernel
theorem dc_Mo_produce_48 : decode cb_Mo_produce 48 = .ok (.ireturn, 1) := by decide +kernel
theorem yk_Mo_produce : fq_Y my_Mo_produce cb_Mo_produce 5 (some .int) 1 := ⟨wd_922, wd_36, by decide +kernel⟩
theorem dc_Mo_consume_0 : decode cb_Mo_consume 0 = .ok (.iload_n 1, 1) := by decide +kernel
theorem dc_Mo_consume_1 : decode cb_Mo_consume 1 = .ok (.sipush 5000, 3) := by decide +kernel
theorem dc_Mo_consume_4 : decode cb_Mo_consume 4 = .ok (.if_icmp .ge 7, 3) := by decide +kernel
theorem dc_Mo_consume_7 : decode cb_Mo_consume 7 = .ok (.iload_n 1, 1) := by decide +kernel
theorem dc_Mo_consume_8 : decode cb_Mo_consume 8 = .ok (.goto 6, 3) := by decide +kernel
theorem dc_Mo_consume_11 : decode cb_Mo_consume 11 = .ok (.sipush 5000, 3) := by decide +kernel
theorem dc_Mo_consume_14 : decode cb_Mo_consume 14 = .ok (.istore_n 2, 1) := by decide +kernel
theorem dc_Mo_consume_15 : decode cb_Mo_consume 15 = .ok (.iconst 0, 1) := by decide +kernel
theorem dc_Mo_consume_16 : decode cb_Mo_consume 16 = .ok (.istore_n 3, 1) := by decide +kernel
theorem dc_Mo_consume_17 : decode cb_Mo_consume 17 = .ok (.iconst 1, 1) := by decide +kernel
theorem dc_Mo_consume_18 : decode cb_Mo_consume 18 = .ok (.istore 4, 2) := by decide +kernel
theorem dc_Mo_consume_20 : decode cb_Mo_consume 20 = .ok (.iload_n 3, 1) := by decide +kernel
theorem dc_Mo_consume_21 : decode cb_Mo_consume 21 = .ok (.iload_n 2, 1) := by decide +kernel
theorem dc_Mo_consume_22 : decode cb_Mo_consume 22 = .ok (.if_icmp .ge 25, 3) := by decide +kernel
theorem dc_Mo_consume_25 : decode cb_Mo_consume 25 = .ok (.iload 4, 2) := by decide +kernel
theorem dc_Mo_consume_27 : decode cb_Mo_consume 27 = .ok (.ifCond .eq 20, 3) := by decide +kernel
theorem dc_Mo_consume_30 : decode cb_Mo_consume 30 = .ok (.aload_n 0, 1) := by decide +kernel
theorem dc_Mo_consume_31 : decode cb_Mo_consume 31 = .ok (.invokevirtual 178, 3) := by decide +kernel
theorem dc_Mo_consume_34 : decode cb_Mo_consume 34 = .ok (.istore 4, 2) := by decide +kernel
theorem dc_Mo_consume_36 : decode cb_Mo_consume 36 = .ok (.iload 4, 2) := by decide +kernel
theorem dc_Mo_consume_38 : decode cb_Mo_consume 38 = .ok (.ifCond .eq (-18), 3) := by decide +kernel
theorem dc_Mo_consume_41 : decode cb_Mo_consume 41 = .ok (.iinc 3 1, 3) := by decide +kernel
theorem dc_Mo_consume_44 : decode cb_Mo_consume 44 = .ok (.goto (-24), 3) := by decide +kernel
theorem dc_Mo_consume_47 : decode cb_Mo_consume 47 = .ok (.iload_n 3, 1) := by decide +kernel
theorem dc_Mo_consume_48 : decode cb_Mo_consume 48 = .ok (.ireturn, 1) := by decide +kernel
theorem yk_Mo_consume : fq_Y my_Mo_consume cb_Mo_consume 5 (some .int) 1 := ⟨wd_971, wd_36, by decide +kernel⟩
set_option maxHeartbeats 4000000 in
set_option maxRecDepth 100000 in
theorem ct_Mo_produce (l : Launch) (D : va_G) (cI cO : ClassId) (tE : Nat) (h : Nat) (S : fs_A) (ws : va_W) (hfx : mo_X cI h S ws) (xn : Int32) (sz : Nat) : Met l my_Mo_produce (fq_w my_Mo_produce cb_Mo_produce 5 (some .int)) ({ frames := 5, cells := 0, slots := 0, locals := 126 }) (va_Pc ([.ref h, .int xn]) (fq_Pre D cI cO tE sz (ws))) (va_Qi (S := va_W) (fun r w => ∃ (k : Nat) (T : fs_A), r = nI k ∧ k ≤ (mo_q xn).toInt.toNat ∧ fs_go fs_P k S = some T ∧ mo_X cI h T w ∧ (k = (mo_q xn).toInt.toNat ∨ fs_P T = none)) (fq_Bw D (va_A (ws) sz)) (va_A (ws) sz)) (0) (0) (va_A (ws) sz) := by
  refine fq_open (by decide +kernel) (Nat.le_of_ble_eq_true rfl) ?_
  intro pg ev s mt below meth cd ls K hret hlk hin hK hZ hP hD hA hS hl
  generalize va_A (ws) sz = A at hZ hD hA hS ⊢
  have K : fq_Ctx pg mt cd cb_Mo_produce 5 s _ cn_Mo := K
  have hl : lv_has ls 5 [(0, .ref h), (1, .int xn)] := hl
  refine lv_iload_n K.1 K.2.1 dc_Mo_produce_0 rfl (lv_at hl 1 rfl) ?_
  refine lv_sipush (v := 5000) K.1 K.2.1 dc_Mo_produce_1 (by decide) ?_
  refine lv_icmp_ge (tgt := 11) K.1 K.2.1 dc_Mo_produce_4 rfl (fun b4 => ?_) (fun b4 => ?_)
  · skip
    refine lv_sipush (v := 5000) K.1 K.2.1 dc_Mo_produce_11 (by decide) ?_
    refine fq_asi (y := mo_q xn) (mo_q2 b4) ?_
    refine lv_topi (fun v1 e_v1 => ?_)
    refine lv_istore_n K.1 K.2.1 dc_Mo_produce_14 rfl hl (by decide) rfl (fun ls hl => ?_)
    have hl : lv_has ls 5 [(2, .int v1), (0, .ref h), (1, .int xn)] := hl
    subst e_v1
    have hl : lv_has ls 5 [(2, .int (mo_q xn)), (0, .ref h), (1, .int xn)] := hl
    refine lv_iconst (v := 0) K.1 K.2.1 dc_Mo_produce_15 (by decide) ?_
    refine lv_istore_n K.1 K.2.1 dc_Mo_produce_16 rfl hl (by decide) rfl (fun ls hl => ?_)
    have hl : lv_has ls 5 [(3, .int 0), (2, .int (mo_q xn)), (0, .ref h), (1, .int xn)] := hl
    refine lv_iconst (v := 1) K.1 K.2.1 dc_Mo_produce_17 (by decide) ?_
    refine fq_asi (y := fq_b true) rfl ?_
    refine lv_istore K.1 K.2.1 dc_Mo_produce_18 hl (by decide) rfl (fun ls hl => ?_)
    have hl : lv_has ls 5 [(4, .int (fq_b true)), (3, .int 0), (2, .int (mo_q xn)), (0, .ref h), (1, .int xn)] := hl
    refine fq_lp (σ := Nat × fs_A × va_W × Bool) (fun x => 2 * ((mo_q xn).toInt.toNat - x.1) + (if x.2.2.2 = true then 1 else 0)) (fun x H locs ls => (x.1 ≤ (mo_q xn).toInt.toNat ∧ fs_go fs_P x.1 S = some x.2.1 ∧ mo_X cI h x.2.1 x.2.2.1 ∧ (x.2.2.2 = false → fs_P x.2.1 = none)) ∧ lv_has ls 5 [(0, .ref h), (2, .int (mo_q xn)), (3, .int (nI x.1)), (4, .int (fq_b x.2.2.2))] ∧ va_P D fq_cl (x.2.2.1) H ∧ va_D A (x.2.2.1) ∧ va_S A s.heap H locs) ?_ (0, S, ws, true) _ _ _ ⟨⟨Nat.zero_le _, rfl, hfx, fun z => absurd (show true = false from z) (by decide)⟩, lv_sub hl [3, 2, 1, 0] rfl, hP, hD, hS⟩
    rintro ⟨k, T, wv, bm⟩ H locs ls ⟨hI20, hl, hP, hD, hS⟩ ih20
    have hI20 : k ≤ (mo_q xn).toInt.toNat ∧ fs_go fs_P k S = some T ∧ mo_X cI h T wv ∧ (bm = false → fs_P T = none) := hI20
    have hl : lv_has ls 5 [(0, .ref h), (2, .int (mo_q xn)), (3, .int (nI k)), (4, .int (fq_b bm))] := hl
    have hP : va_P D fq_cl (wv) _ := hP
    have hD : va_D A (wv) := hD
    refine lv_iload_n K.1 K.2.1 dc_Mo_produce_20 rfl (lv_at hl 2 rfl) ?_
    refine lv_iload_n K.1 K.2.1 dc_Mo_produce_21 rfl (lv_at hl 1 rfl) ?_
    refine lv_icmp_ge (tgt := 47) K.1 K.2.1 dc_Mo_produce_22 rfl (fun b22 => ?_) (fun b22 => ?_)
    · skip
      have hk : k = (mo_q xn).toInt.toNat ∨ fs_P T = none := Or.inl (fz_ge (x := mo_q xn) hI20.1 b22)
      refine lv_iload_n K.1 K.2.1 dc_Mo_produce_47 rfl (lv_at hl 2 rfl) ?_
      exact fq_reti K hret hlk hS hP hD ⟨k, T, rfl, hI20.1, hI20.2.1, hI20.2.2.1, hk⟩ dc_Mo_produce_48 (Nat.le_of_ble_eq_true rfl) (Nat.le_of_ble_eq_true rfl)
    · skip
      have hk : k < (mo_q xn).toInt.toNat := fz_lt (x := mo_q xn) hI20.1 b22
      refine lv_iload K.1 K.2.1 dc_Mo_produce_25 (lv_at hl 3 rfl) ?_
      refine lv_if_eq (tgt := 47) K.1 K.2.1 dc_Mo_produce_27 rfl (fun b27 => ?_) (fun b27 => ?_)
      · skip
        have hk : k = (mo_q xn).toInt.toNat ∨ fs_P T = none := Or.inr (hI20.2.2.2 (fq_b0 b27))
        refine lv_iload_n K.1 K.2.1 dc_Mo_produce_47 rfl (lv_at hl 2 rfl) ?_
        exact fq_reti K hret hlk hS hP hD ⟨k, T, rfl, hI20.1, hI20.2.1, hI20.2.2.1, hk⟩ dc_Mo_produce_48 (Nat.le_of_ble_eq_true rfl) (Nat.le_of_ble_eq_true rfl)
      · skip
        have hbm := fq_b1 b27
        refine lv_aload_n K.1 K.2.1 dc_Mo_produce_30 rfl (lv_at hl 0 rfl) ?_
        obtain ⟨aK, aN, aB, aS, aL, aX, us, md, gi, su, sd, fK, fN, fB, fS, fL, fX, X, rfl, hsd, hI, hR⟩ := hI20.2.2.1
        have hP : va_P D fq_cl ([(h, .inr (12, [.int (nI T.rm), .int (fq_b sd), .int (nI T.sts.length), .ref aK, .ref aN, .int (nI T.iw), .int (nI T.ow), .int (fq_b T.ih), .int (fq_b T.oh), .ref aB, .int (nI T.ca), .int (nI us), .int (fq_b T.cl), .int (fq_b T.fl), .ref aS, .int (nI X.length), .ref aL, .ref aX, .int (nI md), .int (nI gi), .int (nI su), .int (nI T.ps), .int (nI T.cs)])), (aK, .inl (cI, 5, .inl fK)), (aN, .inl (cI, 25, .inl fN)), (aB, .inl (cI, 120, .inl fB)), (aS, .inl (cI, 120, .inl fS)), (aL, .inl (cI, 2300, .inl fL)), (aX, .inl (cI, 2300, .inl fX))]) _ := hP
        have hD : va_D A ([(h, .inr (12, [.int (nI T.rm), .int (fq_b sd), .int (nI T.sts.length), .ref aK, .ref aN, .int (nI T.iw), .int (nI T.ow), .int (fq_b T.ih), .int (fq_b T.oh), .ref aB, .int (nI T.ca), .int (nI us), .int (fq_b T.cl), .int (fq_b T.fl), .ref aS, .int (nI X.length), .ref aL, .ref aX, .int (nI md), .int (nI gi), .int (nI su), .int (nI T.ps), .int (nI T.cs)])), (aK, .inl (cI, 5, .inl fK)), (aN, .inl (cI, 25, .inl fN)), (aB, .inl (cI, 120, .inl fB)), (aS, .inl (cI, 120, .inl fS)), (aL, .inl (cI, 2300, .inl fL)), (aX, .inl (cI, 2300, .inl fX))]) := hD
        have hc := fq_cut.of (wc := [(h, .inr (12, [.int (nI T.rm), .int (fq_b sd), .int (nI T.sts.length), .ref aK, .ref aN, .int (nI T.iw), .int (nI T.ow), .int (fq_b T.ih), .int (fq_b T.oh), .ref aB, .int (nI T.ca), .int (nI us), .int (fq_b T.cl), .int (fq_b T.fl), .ref aS, .int (nI X.length), .ref aL, .ref aX, .int (nI md), .int (nI gi), .int (nI su), .int (nI T.ps), .int (nI T.cs)])), (aK, .inl (cI, 5, .inl fK)), (aN, .inl (cI, 25, .inl fN)), (aB, .inl (cI, 120, .inl fB)), (aS, .inl (cI, 120, .inl fS)), (aL, .inl (cI, 2300, .inl fL)), (aX, .inl (cI, 2300, .inl fX))]) hP hD hS hA [0, 1, 2, 3, 4, 5, 6] (by decide) rfl
        refine fq_ci (wr := []) (fq_rV K hK hZ hS hc (ct_Mo_producerStep l D cI cO tE h aK aN aB aS aL aX T.rm sd T.sts.length T.iw T.ow T.ih T.oh T.ca us T.cl T.fl X.length md gi su T.ps T.cs fK fN fB fS fL fX (st_P T) X T.Lb hI.2.2.1.1 (List.length_map _).symm hR.1 rfl hR.2.2.1 hI.2.2.2.2.1 hI.2.2.2.1.2.1 hI.2.2.2.1.1 hI.1.2.2.1 hI.1.2.2.2.1 hI.2.2.2.1.2.2.1 hI.2.2.2.1.2.2.2 hR.2.1 hI.2.2.2.2.2.1.2.1 (Nat.le_trans hI.2.2.2.2.2.1.2.2.1 (Nat.le_trans (st_yl hI) (by decide))) hI.2.2.2.2.2.1.1 hI.2.1.2 hI.1.1 hI.1.2.1 _) yk_Mo_producerStep wd_925 wd_15 wd_923 0 rfl rfl rfl ⟨⟨rfl, rfl⟩, ⟨Nat.le_of_ble_eq_true rfl, Nat.le_of_ble_eq_true rfl⟩, ⟨Nat.le_of_ble_eq_true rfl, Nat.le_of_ble_eq_true rfl⟩⟩ hl.1 rfl (Nat.le_of_ble_eq_true rfl) dc_Mo_produce_31) hP hD hS hc [0, 1, 2, 3, 4, 5, 6] [] rfl rfl (by decide) (by decide) (fun r1 w H locs hw hP hD hS => ?_)
        have hP : va_P D fq_cl (w) _ := hP
        have hD : va_D A (w) := hD
        have hq := mo_Pl hsd hI hR hw
        rcases hq with ⟨T2, hT2, hr2, hX2⟩ | ⟨hT2, hr2, hX2⟩
        · skip
          subst hr2
          refine fq_asi (y := fq_b true) rfl ?_
          refine lv_istore K.1 K.2.1 dc_Mo_produce_34 hl (by decide) rfl (fun ls hl => ?_)
          have hl : lv_has ls 5 [(4, .int (fq_b true)), (0, .ref h), (2, .int (mo_q xn)), (3, .int (nI k))] := hl
          refine lv_iload K.1 K.2.1 dc_Mo_produce_36 (lv_at hl 0 rfl) ?_
          refine lv_if_eq (tgt := 20) K.1 K.2.1 dc_Mo_produce_38 rfl (fun b38 => absurd b38 (by decide)) (fun b38 => ?_)
          refine lv_iinc (v := nI (k + 1)) K.1 K.2.1 dc_Mo_produce_41 hl (k := 3) rfl (nI_1 k) (by decide) rfl (fun ls hl => ?_)
          have hl : lv_has ls 5 [(3, .int (nI (k + 1))), (4, .int (fq_b true)), (0, .ref h), (2, .int (mo_q xn))] := hl
          refine lv_goto (tgt := 20) K.1 K.2.1 dc_Mo_produce_44 rfl ?_
          exact ih20 (k + 1, T2, w, true) _ _ _ (mo_me hk hbm) ⟨⟨hk, fs_s hI20.2.1 hT2, hX2, fun z => absurd (show true = false from z) (by decide)⟩, lv_sub hl [2, 3, 0, 1] rfl, hP, hD, hS⟩
        · skip
          subst hr2
          refine fq_asi (y := fq_b false) rfl ?_
          refine lv_istore K.1 K.2.1 dc_Mo_produce_34 hl (by decide) rfl (fun ls hl => ?_)
          have hl : lv_has ls 5 [(4, .int (fq_b false)), (0, .ref h), (2, .int (mo_q xn)), (3, .int (nI k))] := hl
          refine lv_iload K.1 K.2.1 dc_Mo_produce_36 (lv_at hl 0 rfl) ?_
          refine lv_if_eq (tgt := 20) K.1 K.2.1 dc_Mo_produce_38 rfl (fun b38 => ?_) (fun b38 => absurd rfl b38)
          exact ih20 (k, T, w, false) _ _ _ (mo_me hk hbm) ⟨⟨hI20.1, hI20.2.1, hX2, fun _ => hT2⟩, lv_sub hl [1, 2, 3, 0] rfl, hP, hD, hS⟩
  · skip
    refine lv_iload_n K.1 K.2.1 dc_Mo_produce_7 rfl (lv_at hl 1 rfl) ?_
    refine lv_goto (tgt := 14) K.1 K.2.1 dc_Mo_produce_8 rfl ?_
    refine fq_asi (y := mo_q xn) (mo_q1 b4) ?_
    refine lv_topi (fun v2 e_v2 => ?_)
    refine lv_istore_n K.1 K.2.1 dc_Mo_produce_14 rfl hl (by decide) rfl (fun ls hl => ?_)
    have hl : lv_has ls 5 [(2, .int v2), (0, .ref h), (1, .int xn)] := hl
    subst e_v2
    have hl : lv_has ls 5 [(2, .int (mo_q xn)), (0, .ref h), (1, .int xn)] := hl
    refine lv_iconst (v := 0) K.1 K.2.1 dc_Mo_produce_15 (by decide) ?_
    refine lv_istore_n K.1 K.2.1 dc_Mo_produce_16 rfl hl (by decide) rfl (fun ls hl => ?_)
    have hl : lv_has ls 5 [(3, .int 0), (2, .int (mo_q xn)), (0, .ref h), (1, .int xn)] := hl
    refine lv_iconst (v := 1) K.1 K.2.1 dc_Mo_produce_17 (by decide) ?_
    refine fq_asi (y := fq_b true) rfl ?_
    refine lv_istore K.1 K.2.1 dc_Mo_produce_18 hl (by decide) rfl (fun ls hl => ?_)
    have hl : lv_has ls 5 [(4, .int (fq_b true)), (3, .int 0), (2, .int (mo_q xn)), (0, .ref h), (1, .int xn)] := hl
    refine fq_lp (σ := Nat × fs_A × va_W × Bool) (fun x => 2 * ((mo_q xn).toInt.toNat - x.1) + (if x.2.2.2 = true then 1 else 0)) (fun x H locs ls => (x.1 ≤ (mo_q xn).toInt.toNat ∧ fs_go fs_P x.1 S = some x.2.1 ∧ mo_X cI h x.2.1 x.2.2.1 ∧ (x.2.2.2 = false → fs_P x.2.1 = none)) ∧ lv_has ls 5 [(0, .ref h), (2, .int (mo_q xn)), (3, .int (nI x.1)), (4, .int (fq_b x.2.2.2))] ∧ va_P D fq_cl (x.2.2.1) H ∧ va_D A (x.2.2.1) ∧ va_S A s.heap H locs) ?_ (0, S, ws, true) _ _ _ ⟨⟨Nat.zero_le _, rfl, hfx, fun z => absurd (show true = false from z) (by decide)⟩, lv_sub hl [3, 2, 1, 0] rfl, hP, hD, hS⟩
    rintro ⟨k, T, wv, bm⟩ H locs ls ⟨hI20, hl, hP, hD, hS⟩ ih20
    have hI20 : k ≤ (mo_q xn).toInt.toNat ∧ fs_go fs_P k S = some T ∧ mo_X cI h T wv ∧ (bm = false → fs_P T = none) := hI20
    have hl : lv_has ls 5 [(0, .ref h), (2, .int (mo_q xn)), (3, .int (nI k)), (4, .int (fq_b bm))] := hl
    have hP : va_P D fq_cl (wv) _ := hP
    have hD : va_D A (wv) := hD
    refine lv_iload_n K.1 K.2.1 dc_Mo_produce_20 rfl (lv_at hl 2 rfl) ?_
    refine lv_iload_n K.1 K.2.1 dc_Mo_produce_21 rfl (lv_at hl 1 rfl) ?_
    refine lv_icmp_ge (tgt := 47) K.1 K.2.1 dc_Mo_produce_22 rfl (fun b22 => ?_) (fun b22 => ?_)
    · skip
      have hk : k = (mo_q xn).toInt.toNat ∨ fs_P T = none := Or.inl (fz_ge (x := mo_q xn) hI20.1 b22)
      refine lv_iload_n K.1 K.2.1 dc_Mo_produce_47 rfl (lv_at hl 2 rfl) ?_
      exact fq_reti K hret hlk hS hP hD ⟨k, T, rfl, hI20.1, hI20.2.1, hI20.2.2.1, hk⟩ dc_Mo_produce_48 (Nat.le_of_ble_eq_true rfl) (Nat.le_of_ble_eq_true rfl)
    · skip
      have hk : k < (mo_q xn).toInt.toNat := fz_lt (x := mo_q xn) hI20.1 b22
      refine lv_iload K.1 K.2.1 dc_Mo_produce_25 (lv_at hl 3 rfl) ?_
      refine lv_if_eq (tgt := 47) K.1 K.2.1 dc_Mo_produce_27 rfl (fun b27 => ?_) (fun b27 => ?_)
      · skip
        have hk : k = (mo_q xn).toInt.toNat ∨ fs_P T = none := Or.inr (hI20.2.2.2 (fq_b0 b27))
        refine lv_iload_n K.1 K.2.1 dc_Mo_produce_47 rfl (lv_at hl 2 rfl) ?_
        exact fq_reti K hret hlk hS hP hD ⟨k, T, rfl, hI20.1, hI20.2.1, hI20.2.2.1, hk⟩ dc_Mo_produce_48 (Nat.le_of_ble_eq_true rfl) (Nat.le_of_ble_eq_true rfl)
      · skip
        have hbm := fq_b1 b27
        refine lv_aload_n K.1 K.2.1 dc_Mo_produce_30 rfl (lv_at hl 0 rfl) ?_
        obtain ⟨aK, aN, aB, aS, aL, aX, us, md, gi, su, sd, fK, fN, fB, fS, fL, fX, X, rfl, hsd, hI, hR⟩ := hI20.2.2.1
        have hP : va_P D fq_cl ([(h, .inr (12, [.int (nI T.rm), .int (fq_b sd), .int (nI T.sts.length), .ref aK, .ref aN, .int (nI T.iw), .int (nI T.ow), .int (fq_b T.ih), .int (fq_b T.oh), .ref aB, .int (nI T.ca), .int (nI us), .int (fq_b T.cl), .int (fq_b T.fl), .ref aS, .int (nI X.length), .ref aL, .ref aX, .int (nI md), .int (nI gi), .int (nI su), .int (nI T.ps), .int (nI T.cs)])), (aK, .inl (cI, 5, .inl fK)), (aN, .inl (cI, 25, .inl fN)), (aB, .inl (cI, 120, .inl fB)), (aS, .inl (cI, 120, .inl fS)), (aL, .inl (cI, 2300, .inl fL)), (aX, .inl (cI, 2300, .inl fX))]) _ := hP
        have hD : va_D A ([(h, .inr (12, [.int (nI T.rm), .int (fq_b sd), .int (nI T.sts.length), .ref aK, .ref aN, .int (nI T.iw), .int (nI T.ow), .int (fq_b T.ih), .int (fq_b T.oh), .ref aB, .int (nI T.ca), .int (nI us), .int (fq_b T.cl), .int (fq_b T.fl), .ref aS, .int (nI X.length), .ref aL, .ref aX, .int (nI md), .int (nI gi), .int (nI su), .int (nI T.ps), .int (nI T.cs)])), (aK, .inl (cI, 5, .inl fK)), (aN, .inl (cI, 25, .inl fN)), (aB, .inl (cI, 120, .inl fB)), (aS, .inl (cI, 120, .inl fS)), (aL, .inl (cI, 2300, .inl fL)), (aX, .inl (cI, 2300, .inl fX))]) := hD
        have hc := fq_cut.of (wc := [(h, .inr (12, [.int (nI T.rm), .int (fq_b sd), .int (nI T.sts.length), .ref aK, .ref aN, .int (nI T.iw), .int (nI T.ow), .int (fq_b T.ih), .int (fq_b T.oh), .ref aB, .int (nI T.ca), .int (nI us), .int (fq_b T.cl), .int (fq_b T.fl), .ref aS, .int (nI X.length), .ref aL, .ref aX, .int (nI md), .int (nI gi), .int (nI su), .int (nI T.ps), .int (nI T.cs)])), (aK, .inl (cI, 5, .inl fK)), (aN, .inl (cI, 25, .inl fN)), (aB, .inl (cI, 120, .inl fB)), (aS, .inl (cI, 120, .inl fS)), (aL, .inl (cI, 2300, .inl fL)), (aX, .inl (cI, 2300, .inl fX))]) hP hD hS hA [0, 1, 2, 3, 4, 5, 6] (by decide) rfl
        refine fq_ci (wr := []) (fq_rV K hK hZ hS hc (ct_Mo_producerStep l D cI cO tE h aK aN aB aS aL aX T.rm sd T.sts.length T.iw T.ow T.ih T.oh T.ca us T.cl T.fl X.length md gi su T.ps T.cs fK fN fB fS fL fX (st_P T) X T.Lb hI.2.2.1.1 (List.length_map _).symm hR.1 rfl hR.2.2.1 hI.2.2.2.2.1 hI.2.2.2.1.2.1 hI.2.2.2.1.1 hI.1.2.2.1 hI.1.2.2.2.1 hI.2.2.2.1.2.2.1 hI.2.2.2.1.2.2.2 hR.2.1 hI.2.2.2.2.2.1.2.1 (Nat.le_trans hI.2.2.2.2.2.1.2.2.1 (Nat.le_trans (st_yl hI) (by decide))) hI.2.2.2.2.2.1.1 hI.2.1.2 hI.1.1 hI.1.2.1 _) yk_Mo_producerStep wd_925 wd_15 wd_923 0 rfl rfl rfl ⟨⟨rfl, rfl⟩, ⟨Nat.le_of_ble_eq_true rfl, Nat.le_of_ble_eq_true rfl⟩, ⟨Nat.le_of_ble_eq_true rfl, Nat.le_of_ble_eq_true rfl⟩⟩ hl.1 rfl (Nat.le_of_ble_eq_true rfl) dc_Mo_produce_31) hP hD hS hc [0, 1, 2, 3, 4, 5, 6] [] rfl rfl (by decide) (by decide) (fun r1 w H locs hw hP hD hS => ?_)
        have hP : va_P D fq_cl (w) _ := hP
        have hD : va_D A (w) := hD
        have hq := mo_Pl hsd hI hR hw
        rcases hq with ⟨T2, hT2, hr2, hX2⟩ | ⟨hT2, hr2, hX2⟩
        · skip
          subst hr2
          refine fq_asi (y := fq_b true) rfl ?_
          refine lv_istore K.1 K.2.1 dc_Mo_produce_34 hl (by decide) rfl (fun ls hl => ?_)
          have hl : lv_has ls 5 [(4, .int (fq_b true)), (0, .ref h), (2, .int (mo_q xn)), (3, .int (nI k))] := hl
          refine lv_iload K.1 K.2.1 dc_Mo_produce_36 (lv_at hl 0 rfl) ?_
          refine lv_if_eq (tgt := 20) K.1 K.2.1 dc_Mo_produce_38 rfl (fun b38 => absurd b38 (by decide)) (fun b38 => ?_)
          refine lv_iinc (v := nI (k + 1)) K.1 K.2.1 dc_Mo_produce_41 hl (k := 3) rfl (nI_1 k) (by decide) rfl (fun ls hl => ?_)
          have hl : lv_has ls 5 [(3, .int (nI (k + 1))), (4, .int (fq_b true)), (0, .ref h), (2, .int (mo_q xn))] := hl
          refine lv_goto (tgt := 20) K.1 K.2.1 dc_Mo_produce_44 rfl ?_
          exact ih20 (k + 1, T2, w, true) _ _ _ (mo_me hk hbm) ⟨⟨hk, fs_s hI20.2.1 hT2, hX2, fun z => absurd (show true = false from z) (by decide)⟩, lv_sub hl [2, 3, 0, 1] rfl, hP, hD, hS⟩
        · skip
          subst hr2
          refine fq_asi (y := fq_b false) rfl ?_
          refine lv_istore K.1 K.2.1 dc_Mo_produce_34 hl (by decide) rfl (fun ls hl => ?_)
          have hl : lv_has ls 5 [(4, .int (fq_b false)), (0, .ref h), (2, .int (mo_q xn)), (3, .int (nI k))] := hl
          refine lv_iload K.1 K.2.1 dc_Mo_produce_36 (lv_at hl 0 rfl) ?_
          refine lv_if_eq (tgt := 20) K.1 K.2.1 dc_Mo_produce_38 rfl (fun b38 => ?_) (fun b38 => absurd rfl b38)
          exact ih20 (k, T, w, false) _ _ _ (mo_me hk hbm) ⟨⟨hI20.1, hI20.2.1, hX2, fun _ => hT2⟩, lv_sub hl [1, 2, 3, 0] rfl, hP, hD, hS⟩
set_option maxHeartbeats 4000000 in
set_option maxRecDepth 100000 in
theorem ct_Mo_consume (l : Launch) (D : va_G) (cI cO : ClassId) (tE : Nat) (h : Nat) (S : fs_A) (ws : va_W) (hfx : mo_X cI h S ws) (xn : Int32) (sz : Nat) : Met l my_Mo_consume (fq_w my_Mo_consume cb_Mo_consume 5 (some .int)) ({ frames := 1, cells := 0, slots := 0, locals := 20 }) (va_Pc ([.ref h, .int xn]) (fq_Pre D cI cO tE sz (ws))) (va_Qi (S := va_W) (fun r w => ∃ (k : Nat) (T : fs_A), r = nI k ∧ k ≤ (mo_q xn).toInt.toNat ∧ fs_go fs_C k S = some T ∧ mo_X cI h T w ∧ (k = (mo_q xn).toInt.toNat ∨ fs_C T = none)) (fq_Bw D (va_A (ws) sz)) (va_A (ws) sz)) (0) (0) (va_A (ws) sz) := by
  refine fq_open (by decide +kernel) (Nat.le_of_ble_eq_true rfl) ?_
  intro pg ev s mt below meth cd ls K hret hlk hin hK hZ hP hD hA hS hl
  generalize va_A (ws) sz = A at hZ hD hA hS ⊢
  have K : fq_Ctx pg mt cd cb_Mo_consume 5 s _ cn_Mo := K
  have hl : lv_has ls 5 [(0, .ref h), (1, .int xn)] := hl
  refine lv_iload_n K.1 K.2.1 dc_Mo_consume_0 rfl (lv_at hl 1 rfl) ?_
  refine lv_sipush (v := 5000) K.1 K.2.1 dc_Mo_consume_1 (by decide) ?_
  refine lv_icmp_ge (tgt := 11) K.1 K.2.1 dc_Mo_consume_4 rfl (fun b4 => ?_) (fun b4 => ?_)
  · skip
    refine lv_sipush (v := 5000) K.1 K.2.1 dc_Mo_consume_11 (by decide) ?_
    refine fq_asi (y := mo_q xn) (mo_q2 b4) ?_
    refine lv_topi (fun v1 e_v1 => ?_)
    refine lv_istore_n K.1 K.2.1 dc_Mo_consume_14 rfl hl (by decide) rfl (fun ls hl => ?_)
    have hl : lv_has ls 5 [(2, .int v1), (0, .ref h), (1, .int xn)] := hl
    subst e_v1
    have hl : lv_has ls 5 [(2, .int (mo_q xn)), (0, .ref h), (1, .int xn)] := hl
    refine lv_iconst (v := 0) K.1 K.2.1 dc_Mo_consume_15 (by decide) ?_
    refine lv_istore_n K.1 K.2.1 dc_Mo_consume_16 rfl hl (by decide) rfl (fun ls hl => ?_)
    have hl : lv_has ls 5 [(3, .int 0), (2, .int (mo_q xn)), (0, .ref h), (1, .int xn)] := hl
    refine lv_iconst (v := 1) K.1 K.2.1 dc_Mo_consume_17 (by decide) ?_
    refine fq_asi (y := fq_b true) rfl ?_
    refine lv_istore K.1 K.2.1 dc_Mo_consume_18 hl (by decide) rfl (fun ls hl => ?_)
    have hl : lv_has ls 5 [(4, .int (fq_b true)), (3, .int 0), (2, .int (mo_q xn)), (0, .ref h), (1, .int xn)] := hl
    refine fq_lp (σ := Nat × fs_A × va_W × Bool) (fun x => 2 * ((mo_q xn).toInt.toNat - x.1) + (if x.2.2.2 = true then 1 else 0)) (fun x H locs ls => (x.1 ≤ (mo_q xn).toInt.toNat ∧ fs_go fs_C x.1 S = some x.2.1 ∧ mo_X cI h x.2.1 x.2.2.1 ∧ (x.2.2.2 = false → fs_C x.2.1 = none)) ∧ lv_has ls 5 [(0, .ref h), (2, .int (mo_q xn)), (3, .int (nI x.1)), (4, .int (fq_b x.2.2.2))] ∧ va_P D fq_cl (x.2.2.1) H ∧ va_D A (x.2.2.1) ∧ va_S A s.heap H locs) ?_ (0, S, ws, true) _ _ _ ⟨⟨Nat.zero_le _, rfl, hfx, fun z => absurd (show true = false from z) (by decide)⟩, lv_sub hl [3, 2, 1, 0] rfl, hP, hD, hS⟩
    rintro ⟨k, T, wv, bm⟩ H locs ls ⟨hI20, hl, hP, hD, hS⟩ ih20
    have hI20 : k ≤ (mo_q xn).toInt.toNat ∧ fs_go fs_C k S = some T ∧ mo_X cI h T wv ∧ (bm = false → fs_C T = none) := hI20
    have hl : lv_has ls 5 [(0, .ref h), (2, .int (mo_q xn)), (3, .int (nI k)), (4, .int (fq_b bm))] := hl
    have hP : va_P D fq_cl (wv) _ := hP
    have hD : va_D A (wv) := hD
    refine lv_iload_n K.1 K.2.1 dc_Mo_consume_20 rfl (lv_at hl 2 rfl) ?_
    refine lv_iload_n K.1 K.2.1 dc_Mo_consume_21 rfl (lv_at hl 1 rfl) ?_
    refine lv_icmp_ge (tgt := 47) K.1 K.2.1 dc_Mo_consume_22 rfl (fun b22 => ?_) (fun b22 => ?_)
    · skip
      have hk : k = (mo_q xn).toInt.toNat ∨ fs_C T = none := Or.inl (fz_ge (x := mo_q xn) hI20.1 b22)
      refine lv_iload_n K.1 K.2.1 dc_Mo_consume_47 rfl (lv_at hl 2 rfl) ?_
      exact fq_reti K hret hlk hS hP hD ⟨k, T, rfl, hI20.1, hI20.2.1, hI20.2.2.1, hk⟩ dc_Mo_consume_48 (Nat.le_of_ble_eq_true rfl) (Nat.le_of_ble_eq_true rfl)
    · skip
      have hk : k < (mo_q xn).toInt.toNat := fz_lt (x := mo_q xn) hI20.1 b22
      refine lv_iload K.1 K.2.1 dc_Mo_consume_25 (lv_at hl 3 rfl) ?_
      refine lv_if_eq (tgt := 47) K.1 K.2.1 dc_Mo_consume_27 rfl (fun b27 => ?_) (fun b27 => ?_)
      · skip
        have hk : k = (mo_q xn).toInt.toNat ∨ fs_C T = none := Or.inr (hI20.2.2.2 (fq_b0 b27))
        refine lv_iload_n K.1 K.2.1 dc_Mo_consume_47 rfl (lv_at hl 2 rfl) ?_
        exact fq_reti K hret hlk hS hP hD ⟨k, T, rfl, hI20.1, hI20.2.1, hI20.2.2.1, hk⟩ dc_Mo_consume_48 (Nat.le_of_ble_eq_true rfl) (Nat.le_of_ble_eq_true rfl)
      · skip
        have hbm := fq_b1 b27
        refine lv_aload_n K.1 K.2.1 dc_Mo_consume_30 rfl (lv_at hl 0 rfl) ?_
        obtain ⟨aK, aN, aB, aS, aL, aX, us, md, gi, su, sd, fK, fN, fB, fS, fL, fX, X, rfl, hsd, hI, hR⟩ := hI20.2.2.1
        have hP : va_P D fq_cl ([(h, .inr (12, [.int (nI T.rm), .int (fq_b sd), .int (nI T.sts.length), .ref aK, .ref aN, .int (nI T.iw), .int (nI T.ow), .int (fq_b T.ih), .int (fq_b T.oh), .ref aB, .int (nI T.ca), .int (nI us), .int (fq_b T.cl), .int (fq_b T.fl), .ref aS, .int (nI X.length), .ref aL, .ref aX, .int (nI md), .int (nI gi), .int (nI su), .int (nI T.ps), .int (nI T.cs)])), (aK, .inl (cI, 5, .inl fK)), (aN, .inl (cI, 25, .inl fN)), (aB, .inl (cI, 120, .inl fB)), (aS, .inl (cI, 120, .inl fS)), (aL, .inl (cI, 2300, .inl fL)), (aX, .inl (cI, 2300, .inl fX))]) _ := hP
        have hD : va_D A ([(h, .inr (12, [.int (nI T.rm), .int (fq_b sd), .int (nI T.sts.length), .ref aK, .ref aN, .int (nI T.iw), .int (nI T.ow), .int (fq_b T.ih), .int (fq_b T.oh), .ref aB, .int (nI T.ca), .int (nI us), .int (fq_b T.cl), .int (fq_b T.fl), .ref aS, .int (nI X.length), .ref aL, .ref aX, .int (nI md), .int (nI gi), .int (nI su), .int (nI T.ps), .int (nI T.cs)])), (aK, .inl (cI, 5, .inl fK)), (aN, .inl (cI, 25, .inl fN)), (aB, .inl (cI, 120, .inl fB)), (aS, .inl (cI, 120, .inl fS)), (aL, .inl (cI, 2300, .inl fL)), (aX, .inl (cI, 2300, .inl fX))]) := hD
        have hc := fq_cut.of (wc := [(h, .inr (12, [.int (nI T.rm), .int (fq_b sd), .int (nI T.sts.length), .ref aK, .ref aN, .int (nI T.iw), .int (nI T.ow), .int (fq_b T.ih), .int (fq_b T.oh), .ref aB, .int (nI T.ca), .int (nI us), .int (fq_b T.cl), .int (fq_b T.fl), .ref aS, .int (nI X.length), .ref aL, .ref aX, .int (nI md), .int (nI gi), .int (nI su), .int (nI T.ps), .int (nI T.cs)])), (aK, .inl (cI, 5, .inl fK)), (aN, .inl (cI, 25, .inl fN)), (aB, .inl (cI, 120, .inl fB)), (aS, .inl (cI, 120, .inl fS)), (aL, .inl (cI, 2300, .inl fL)), (aX, .inl (cI, 2300, .inl fX))]) hP hD hS hA [0, 1, 2, 3, 4, 5, 6] (by decide) rfl
        refine fq_ci (wr := []) (fq_rV K hK hZ hS hc (ct_Mo_consumerStep l D cI cO tE h aK aN aB aS aL aX T.rm sd T.sts.length T.iw T.ow T.ih T.oh T.ca us T.cl T.fl X.length md gi su T.ps T.cs fK fN fB fS fL fX hI.1.2.1 hI.1.1 (st_gb hI) hI.2.2.2.2.2.1.1 _) yk_Mo_consumerStep wd_974 wd_24 wd_972 0 rfl rfl rfl ⟨⟨rfl, rfl⟩, ⟨Nat.le_of_ble_eq_true rfl, Nat.le_of_ble_eq_true rfl⟩, ⟨Nat.le_of_ble_eq_true rfl, Nat.le_of_ble_eq_true rfl⟩⟩ hl.1 rfl (Nat.le_of_ble_eq_true rfl) dc_Mo_consume_31) hP hD hS hc [0, 1, 2, 3, 4, 5, 6] [] rfl rfl (by decide) (by decide) (fun r1 w H locs hw hP hD hS => ?_)
        have hP : va_P D fq_cl (w) _ := hP
        have hD : va_D A (w) := hD
        have hq := mo_Cl hsd hI hR hw
        rcases hq with ⟨T2, hT2, hr2, hX2⟩ | ⟨hT2, hr2, hX2⟩
        · skip
          subst hr2
          refine fq_asi (y := fq_b true) rfl ?_
          refine lv_istore K.1 K.2.1 dc_Mo_consume_34 hl (by decide) rfl (fun ls hl => ?_)
          have hl : lv_has ls 5 [(4, .int (fq_b true)), (0, .ref h), (2, .int (mo_q xn)), (3, .int (nI k))] := hl
          refine lv_iload K.1 K.2.1 dc_Mo_consume_36 (lv_at hl 0 rfl) ?_
          refine lv_if_eq (tgt := 20) K.1 K.2.1 dc_Mo_consume_38 rfl (fun b38 => absurd b38 (by decide)) (fun b38 => ?_)
          refine lv_iinc (v := nI (k + 1)) K.1 K.2.1 dc_Mo_consume_41 hl (k := 3) rfl (nI_1 k) (by decide) rfl (fun ls hl => ?_)
          have hl : lv_has ls 5 [(3, .int (nI (k + 1))), (4, .int (fq_b true)), (0, .ref h), (2, .int (mo_q xn))] := hl
          refine lv_goto (tgt := 20) K.1 K.2.1 dc_Mo_consume_44 rfl ?_
          exact ih20 (k + 1, T2, w, true) _ _ _ (mo_me hk hbm) ⟨⟨hk, fs_s hI20.2.1 hT2, hX2, fun z => absurd (show true = false from z) (by decide)⟩, lv_sub hl [2, 3, 0, 1] rfl, hP, hD, hS⟩
        · skip
          subst hr2
          refine fq_asi (y := fq_b false) rfl ?_
          refine lv_istore K.1 K.2.1 dc_Mo_consume_34 hl (by decide) rfl (fun ls hl => ?_)
          have hl : lv_has ls 5 [(4, .int (fq_b false)), (0, .ref h), (2, .int (mo_q xn)), (3, .int (nI k))] := hl
          refine lv_iload K.1 K.2.1 dc_Mo_consume_36 (lv_at hl 0 rfl) ?_
          refine lv_if_eq (tgt := 20) K.1 K.2.1 dc_Mo_consume_38 rfl (fun b38 => ?_) (fun b38 => absurd rfl b38)
          exact ih20 (k, T, w, false) _ _ _ (mo_me hk hbm) ⟨⟨hI20.1, hI20.2.1, hX2, fun _ => hT2⟩, lv_sub hl [1, 2, 3, 0] rfl, hP, hD, hS⟩
  · skip
    refine lv_iload_n K.1 K.2.1 dc_Mo_consume_7 rfl (lv_at hl 1 rfl) ?_
    refine lv_goto (tgt := 14) K.1 K.2.1 dc_Mo_consume_8 rfl ?_
    refine fq_asi (y := mo_q xn) (mo_q1 b4) ?_
    refine lv_topi (fun v2 e_v2 => ?_)
    refine lv_istore_n K.1 K.2.1 dc_Mo_consume_14 rfl hl (by decide) rfl (fun ls hl => ?_)
    have hl : lv_has ls 5 [(2, .int v2), (0, .ref h), (1, .int xn)] := hl
    subst e_v2
    have hl : lv_has ls 5 [(2, .int (mo_q xn)), (0, .ref h), (1, .int xn)] := hl
    refine lv_iconst (v := 0) K.1 K.2.1 dc_Mo_consume_15 (by decide) ?_
    refine lv_istore_n K.1 K.2.1 dc_Mo_consume_16 rfl hl (by decide) rfl (fun ls hl => ?_)
    have hl : lv_has ls 5 [(3, .int 0), (2, .int (mo_q xn)), (0, .ref h), (1, .int xn)] := hl
    refine lv_iconst (v := 1) K.1 K.2.1 dc_Mo_consume_17 (by decide) ?_
    refine fq_asi (y := fq_b true) rfl ?_
    refine lv_istore K.1 K.2.1 dc_Mo_consume_18 hl (by decide) rfl (fun ls hl => ?_)
    have hl : lv_has ls 5 [(4, .int (fq_b true)), (3, .int 0), (2, .int (mo_q xn)), (0, .ref h), (1, .int xn)] := hl
    refine fq_lp (σ := Nat × fs_A × va_W × Bool) (fun x => 2 * ((mo_q xn).toInt.toNat - x.1) + (if x.2.2.2 = true then 1 else 0)) (fun x H locs ls => (x.1 ≤ (mo_q xn).toInt.toNat ∧ fs_go fs_C x.1 S = some x.2.1 ∧ mo_X cI h x.2.1 x.2.2.1 ∧ (x.2.2.2 = false → fs_C x.2.1 = none)) ∧ lv_has ls 5 [(0, .ref h), (2, .int (mo_q xn)), (3, .int (nI x.1)), (4, .int (fq_b x.2.2.2))] ∧ va_P D fq_cl (x.2.2.1) H ∧ va_D A (x.2.2.1) ∧ va_S A s.heap H locs) ?_ (0, S, ws, true) _ _ _ ⟨⟨Nat.zero_le _, rfl, hfx, fun z => absurd (show true = false from z) (by decide)⟩, lv_sub hl [3, 2, 1, 0] rfl, hP, hD, hS⟩
    rintro ⟨k, T, wv, bm⟩ H locs ls ⟨hI20, hl, hP, hD, hS⟩ ih20
    have hI20 : k ≤ (mo_q xn).toInt.toNat ∧ fs_go fs_C k S = some T ∧ mo_X cI h T wv ∧ (bm = false → fs_C T = none) := hI20
    have hl : lv_has ls 5 [(0, .ref h), (2, .int (mo_q xn)), (3, .int (nI k)), (4, .int (fq_b bm))] := hl
    have hP : va_P D fq_cl (wv) _ := hP
    have hD : va_D A (wv) := hD
    refine lv_iload_n K.1 K.2.1 dc_Mo_consume_20 rfl (lv_at hl 2 rfl) ?_
    refine lv_iload_n K.1 K.2.1 dc_Mo_consume_21 rfl (lv_at hl 1 rfl) ?_
    refine lv_icmp_ge (tgt := 47) K.1 K.2.1 dc_Mo_consume_22 rfl (fun b22 => ?_) (fun b22 => ?_)
    · skip
      have hk : k = (mo_q xn).toInt.toNat ∨ fs_C T = none := Or.inl (fz_ge (x := mo_q xn) hI20.1 b22)
      refine lv_iload_n K.1 K.2.1 dc_Mo_consume_47 rfl (lv_at hl 2 rfl) ?_
      exact fq_reti K hret hlk hS hP hD ⟨k, T, rfl, hI20.1, hI20.2.1, hI20.2.2.1, hk⟩ dc_Mo_consume_48 (Nat.le_of_ble_eq_true rfl) (Nat.le_of_ble_eq_true rfl)
    · skip
      have hk : k < (mo_q xn).toInt.toNat := fz_lt (x := mo_q xn) hI20.1 b22
      refine lv_iload K.1 K.2.1 dc_Mo_consume_25 (lv_at hl 3 rfl) ?_
      refine lv_if_eq (tgt := 47) K.1 K.2.1 dc_Mo_consume_27 rfl (fun b27 => ?_) (fun b27 => ?_)
      · skip
        have hk : k = (mo_q xn).toInt.toNat ∨ fs_C T = none := Or.inr (hI20.2.2.2 (fq_b0 b27))
        refine lv_iload_n K.1 K.2.1 dc_Mo_consume_47 rfl (lv_at hl 2 rfl) ?_
        exact fq_reti K hret hlk hS hP hD ⟨k, T, rfl, hI20.1, hI20.2.1, hI20.2.2.1, hk⟩ dc_Mo_consume_48 (Nat.le_of_ble_eq_true rfl) (Nat.le_of_ble_eq_true rfl)
      · skip
        have hbm := fq_b1 b27
        refine lv_aload_n K.1 K.2.1 dc_Mo_consume_30 rfl (lv_at hl 0 rfl) ?_
        obtain ⟨aK, aN, aB, aS, aL, aX, us, md, gi, su, sd, fK, fN, fB, fS, fL, fX, X, rfl, hsd, hI, hR⟩ := hI20.2.2.1
        have hP : va_P D fq_cl ([(h, .inr (12, [.int (nI T.rm), .int (fq_b sd), .int (nI T.sts.length), .ref aK, .ref aN, .int (nI T.iw), .int (nI T.ow), .int (fq_b T.ih), .int (fq_b T.oh), .ref aB, .int (nI T.ca), .int (nI us), .int (fq_b T.cl), .int (fq_b T.fl), .ref aS, .int (nI X.length), .ref aL, .ref aX, .int (nI md), .int (nI gi), .int (nI su), .int (nI T.ps), .int (nI T.cs)])), (aK, .inl (cI, 5, .inl fK)), (aN, .inl (cI, 25, .inl fN)), (aB, .inl (cI, 120, .inl fB)), (aS, .inl (cI, 120, .inl fS)), (aL, .inl (cI, 2300, .inl fL)), (aX, .inl (cI, 2300, .inl fX))]) _ := hP
        have hD : va_D A ([(h, .inr (12, [.int (nI T.rm), .int (fq_b sd), .int (nI T.sts.length), .ref aK, .ref aN, .int (nI T.iw), .int (nI T.ow), .int (fq_b T.ih), .int (fq_b T.oh), .ref aB, .int (nI T.ca), .int (nI us), .int (fq_b T.cl), .int (fq_b T.fl), .ref aS, .int (nI X.length), .ref aL, .ref aX, .int (nI md), .int (nI gi), .int (nI su), .int (nI T.ps), .int (nI T.cs)])), (aK, .inl (cI, 5, .inl fK)), (aN, .inl (cI, 25, .inl fN)), (aB, .inl (cI, 120, .inl fB)), (aS, .inl (cI, 120, .inl fS)), (aL, .inl (cI, 2300, .inl fL)), (aX, .inl (cI, 2300, .inl fX))]) := hD
        have hc := fq_cut.of (wc := [(h, .inr (12, [.int (nI T.rm), .int (fq_b sd), .int (nI T.sts.length), .ref aK, .ref aN, .int (nI T.iw), .int (nI T.ow), .int (fq_b T.ih), .int (fq_b T.oh), .ref aB, .int (nI T.ca), .int (nI us), .int (fq_b T.cl), .int (fq_b T.fl), .ref aS, .int (nI X.length), .ref aL, .ref aX, .int (nI md), .int (nI gi), .int (nI su), .int (nI T.ps), .int (nI T.cs)])), (aK, .inl (cI, 5, .inl fK)), (aN, .inl (cI, 25, .inl fN)), (aB, .inl (cI, 120, .inl fB)), (aS, .inl (cI, 120, .inl fS)), (aL, .inl (cI, 2300, .inl fL)), (aX, .inl (cI, 2300, .inl fX))]) hP hD hS hA [0, 1, 2, 3, 4, 5, 6] (by decide) rfl
        refine fq_ci (wr := []) (fq_rV K hK hZ hS hc (ct_Mo_consumerStep l D cI cO tE h aK aN aB aS aL aX T.rm sd T.sts.length T.iw T.ow T.ih T.oh T.ca us T.cl T.fl X.length md gi su T.ps T.cs fK fN fB fS fL fX hI.1.2.1 hI.1.1 (st_gb hI) hI.2.2.2.2.2.1.1 _) yk_Mo_consumerStep wd_974 wd_24 wd_972 0 rfl rfl rfl ⟨⟨rfl, rfl⟩, ⟨Nat.le_of_ble_eq_true rfl, Nat.le_of_ble_eq_true rfl⟩, ⟨Nat.le_of_ble_eq_true rfl, Nat.le_of_ble_eq_true rfl⟩⟩ hl.1 rfl (Nat.le_of_ble_eq_true rfl) dc_Mo_consume_31) hP hD hS hc [0, 1, 2, 3, 4, 5, 6] [] rfl rfl (by decide) (by decide) (fun r1 w H locs hw hP hD hS => ?_)
        have hP : va_P D fq_cl (w) _ := hP
        have hD : va_D A (w) := hD
        have hq := mo_Cl hsd hI hR hw
        rcases hq with ⟨T2, hT2, hr2, hX2⟩ | ⟨hT2, hr2, hX2⟩
        · skip
          subst hr2
          refine fq_asi (y := fq_b true) rfl ?_
          refine lv_istore K.1 K.2.1 dc_Mo_consume_34 hl (by decide) rfl (fun ls hl => ?_)
          have hl : lv_has ls 5 [(4, .int (fq_b true)), (0, .ref h), (2, .int (mo_q xn)), (3, .int (nI k))] := hl
          refine lv_iload K.1 K.2.1 dc_Mo_consume_36 (lv_at hl 0 rfl) ?_
          refine lv_if_eq (tgt := 20) K.1 K.2.1 dc_Mo_consume_38 rfl (fun b38 => absurd b38 (by decide)) (fun b38 => ?_)
          refine lv_iinc (v := nI (k + 1)) K.1 K.2.1 dc_Mo_consume_41 hl (k := 3) rfl (nI_1 k) (by decide) rfl (fun ls hl => ?_)
          have hl : lv_has ls 5 [(3, .int (nI (k + 1))), (4, .int (fq_b true)), (0, .ref h), (2, .int (mo_q xn))] := hl
          refine lv_goto (tgt := 20) K.1 K.2.1 dc_Mo_consume_44 rfl ?_
          exact ih20 (k + 1, T2, w, true) _ _ _ (mo_me hk hbm) ⟨⟨hk, fs_s hI20.2.1 hT2, hX2, fun z => absurd (show true = false from z) (by decide)⟩, lv_sub hl [2, 3, 0, 1] rfl, hP, hD, hS⟩
        · skip
          subst hr2
          refine fq_asi (y := fq_b false) rfl ?_
          refine lv_istore K.1 K.2.1 dc_Mo_consume_34 hl (by decide) rfl (fun ls hl => ?_)
          have hl : lv_has ls 5 [(4, .int (fq_b false)), (0, .ref h), (2, .int (mo_q xn)), (3, .int (nI k))] := hl
          refine lv_iload K.1 K.2.1 dc_Mo_consume_36 (lv_at hl 0 rfl) ?_
          refine lv_if_eq (tgt := 20) K.1 K.2.1 dc_Mo_consume_38 rfl (fun b38 => ?_) (fun b38 => absurd rfl b38)
          exact ih20 (k, T, w, false) _ _ _ (mo_me hk hbm) ⟨⟨hI20.1, hI20.2.1, hX2, fun _ => hT2⟩, lv_sub hl [1, 2, 3, 0] rfl, hP, hD, hS⟩
