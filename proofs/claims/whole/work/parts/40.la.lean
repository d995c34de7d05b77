

theorem la_1 {cI cO : ClassId} {tE hx : Nat} {S : fs_A} {u1 v1 : va_W} {Lh0 Lr0 Lk0 : List Int32} (eh : Lh0.map Int32.toInt = S.Lh) (er : Lr0.map Int32.toInt = S.Lr) (ek : Lk0.map Int32.toInt = S.Lk) (hfp : fp_W cI cO tE hx S.sts S.rs S.fl S.ps S.cs S.ca S.cl S.iw S.ih S.Lb Lh0 Lr0 S.rm S.ow S.oh Lk0 u1) (e : v1 = u1) : fp_X cI cO tE hx S v1 := ⟨Lh0, Lr0, Lk0, eh, er, ek, e ▸ hfp⟩
theorem la_2 {cI : ClassId} {S : fs_A} {h aK aN aB aS aL aX us md gi su : Nat} {sd : Bool} {fK fN fB fS fL fX : Nat → Int32} {X : List Int} {v2 : va_W} (hsd : sd = false ↔ S.ps = 0) (hI : st_I S us md gi su X) (hR : mo_R S us X fK fN fB fS fL) (e : v2 = [(h, .inr (12, [.int (nI S.rm), .int (fq_b sd), .int (nI S.sts.length), .ref aK, .ref aN, .int (nI S.iw), .int (nI S.ow), .int (fq_b S.ih), .int (fq_b S.oh), .ref aB, .int (nI S.ca), .int (nI us), .int (fq_b S.cl), .int (fq_b S.fl), .ref aS, .int (nI X.length), .ref aL, .ref aX, .int (nI md), .int (nI gi), .int (nI su), .int (nI S.ps), .int (nI S.cs)])), (aK, .inl (cI, 5, .inl fK)), (aN, .inl (cI, 25, .inl fN)), (aB, .inl (cI, 120, .inl fB)), (aS, .inl (cI, 120, .inl fS)), (aL, .inl (cI, 2300, .inl fL)), (aX, .inl (cI, 2300, .inl fX))]) : mo_X cI h S v2 := ⟨aK, aN, aB, aS, aL, aX, us, md, gi, su, sd, fK, fN, fB, fS, fL, fX, X, e, hsd, hI, hR⟩
theorem st_add {S : fs_A} {us md gi su : Nat} {X : List Int} {sp : fm_S} {q rs2 : Nat} (h : st_I S us md gi su X) (hps : S.ps = 0) (hl : S.sts.length < 5) (hsp : fm_ok sp) (hr : pl_s (st_P S ++ [sp]) ≤ 2) (hrs2 : rs2 = pl_s (st_P S ++ [sp])) : st_I ((S.sts ++ [(q, sp, [], 0)], rs2, S.fl, S.ps, S.cs, S.ca, S.cl, S.iw, S.ih, S.Lb, S.Lh, S.Lr, S.rm, S.ow, S.oh, S.Lk) : fs_A) us md gi su X := by
  obtain ⟨hn, hrm, ⟨hok, hrs⟩, hb, hx, hg, hk, hc, hf, h0⟩ := h
  obtain ⟨rfl, hfl, h0'⟩ := h0 hps
  have eP : st_P ((S.sts ++ [(q, sp, [], 0)], rs2, S.fl, S.ps, S.cs, S.ca, S.cl, S.iw, S.ih, S.Lb, S.Lh, S.Lr, S.rm, S.ow, S.oh, S.Lk) : fs_A) = st_P S ++ [sp] := List.map_append
  have eY : ∀ T : fs_A, st_Y T [] = [] := fun T => pl_O0 _ _
  rw [eY] at hg hk
  unfold st_I
  rw [eY, eP]
  refine ⟨⟨hn.1, hn.2.1, hn.2.2.1, hn.2.2.2.1, hn.2.2.2.2.1, ?_⟩, hrm, ⟨⟨?_, ?_, hr⟩, hrs2⟩, hb, hx, ⟨hg.1, hg.2.1, hg.2.2.1, hg.2.2.2.1, fun z => absurd (hps.symm.trans z) (by decide)⟩, hk, fun _ => ?_, fun z => absurd (hfl.symm.trans z) (by decide), fun _ => ⟨rfl, hfl, h0'⟩⟩
  · show (S.sts ++ [(q, sp, [], 0)]).length ≤ 5; rw [List.length_append]; show S.sts.length + 1 ≤ 5; omega
  · exact fun s hs => (List.mem_append.mp hs).elim (hok.1 s) (fun z => by rw [List.mem_singleton.mp z]; exact hsp)
  · rw [List.length_append, List.length_map]; show S.sts.length + 1 ≤ 5; omega
  · refine ⟨eP, fun j s _ hs => ?_⟩
    have hs : (S.sts ++ [(q, sp, ([] : List Int), 0)])[j]? = some s := hs
    have key : s.2.2.1 = [] ∧ s.2.2.2 = 0 := by
      by_cases hj : j < S.sts.length
      · rw [List.getElem?_append_left hj] at hs
        obtain ⟨c1, c2⟩ := (hc hfl).2 j s (Nat.zero_le _) hs
        rw [pl_O0] at c1
        rw [c1] at c2
        refine ⟨c1, ?_⟩
        rw [c2]; unfold fm_m; rw [if_pos (Or.inl List.length_nil)]; rfl
      · rw [List.getElem?_append_right (by omega)] at hs
        have e : j - S.sts.length = 0 := by
          have := (List.getElem?_eq_some_iff.mp hs).1
          rw [List.length_singleton] at this; omega
        rw [e] at hs
        cases hs
        exact ⟨rfl, rfl⟩
    rw [key.1, key.2, pl_O0]
    refine ⟨rfl, ?_⟩
    unfold fm_m; rw [if_pos (Or.inl List.length_nil)]; rfl
theorem mo_Ka {fK fN : Nat → Int32} {P : List fm_S} {n : Nat} {sp : fm_S} {x0 x1 x2 x3 x4 x5 : Int32} (h : mo_K fK fN P) (hn : n = P.length) (hc : sp.1 = 0 → is_c sp.2.2.2.2.1 sp.2.2.2.2.2) (e0 : x0 = nI sp.1) (e1 : x1.toInt = sp.2.1) (e2 : x2.toInt = sp.2.2.1) (e3 : x3.toInt = sp.2.2.2.1) (e4 : x4.toInt = sp.2.2.2.2.1) (e5 : x5.toInt = sp.2.2.2.2.2) :
    mo_K (upd fK n x0) (upd (upd (upd (upd (upd fN (5 * n) x1) (5 * n + 1) x2) (5 * n + 2) x3) (5 * n + 3) x4) (5 * n + 4) x5) (P ++ [sp]) := by
  intro k s hs
  by_cases hk : k < P.length
  · rw [List.getElem?_append_left hk] at hs
    obtain ⟨h1, ⟨a0, a1, a2, a3, a4⟩, h3⟩ := h k s hs
    refine ⟨by rw [pk_un (by omega)]; exact h1, ⟨?_, ?_, ?_, ?_, ?_⟩, h3⟩
    · rw [pk_un (by omega), pk_un (by omega), pk_un (by omega), pk_un (by omega), pk_un (by omega)]; exact a0
    · rw [pk_un (by omega), pk_un (by omega), pk_un (by omega), pk_un (by omega), pk_un (by omega)]; exact a1
    · rw [pk_un (by omega), pk_un (by omega), pk_un (by omega), pk_un (by omega), pk_un (by omega)]; exact a2
    · rw [pk_un (by omega), pk_un (by omega), pk_un (by omega), pk_un (by omega), pk_un (by omega)]; exact a3
    · rw [pk_un (by omega), pk_un (by omega), pk_un (by omega), pk_un (by omega), pk_un (by omega)]; exact a4
  · rw [List.getElem?_append_right (by omega)] at hs
    have e : k - P.length = 0 := by
      have := (List.getElem?_eq_some_iff.mp hs).1
      rw [List.length_singleton] at this; omega
    have ek : k = n := by omega
    rw [e] at hs
    cases hs
    subst ek
    refine ⟨by rw [pk_us]; exact e0, ⟨?_, ?_, ?_, ?_, ?_⟩, hc⟩
    · rw [pk_un (by omega), pk_un (by omega), pk_un (by omega), pk_un (by omega), pk_us]; exact e1
    · rw [pk_un (by omega), pk_un (by omega), pk_un (by omega), pk_us]; exact e2
    · rw [pk_un (by omega), pk_un (by omega), pk_us]; exact e3
    · rw [pk_un (by omega), pk_us]; exact e4
    · rw [pk_us]; exact e5
theorem la_add {cI : ClassId} {S : fs_A} {h aK aN aB aS aL aX us md gi su : Nat} {sd : Bool} {fK fN fB fS fL fX : Nat → Int32} {X : List Int} {v2 : va_W} (hsd : sd = false ↔ S.ps = 0) (hI : st_I S us md gi su X) (hR : mo_R S us X fK fN fB fS fL) {sp : fm_S} {x0 x1 x2 x3 x4 x5 : Int32} {rs2 : Nat} (hps : S.ps = 0) (hl : S.sts.length < 5) (hsp : fm_ok sp) (hc : sp.1 = 0 → is_c sp.2.2.2.2.1 sp.2.2.2.2.2) (hr : pl_s (st_P S ++ [sp]) ≤ 2) (hrs2 : rs2 = pl_s (st_P S ++ [sp])) (e0 : x0 = nI sp.1) (e1 : x1.toInt = sp.2.1) (e2 : x2.toInt = sp.2.2.1) (e3 : x3.toInt = sp.2.2.2.1) (e4 : x4.toInt = sp.2.2.2.2.1) (e5 : x5.toInt = sp.2.2.2.2.2)
    (e : v2 = [(h, .inr (12, [.int (nI S.rm), .int (fq_b sd), .int (nI (S.sts.length + 1)), .ref aK, .ref aN, .int (nI S.iw), .int (nI S.ow), .int (fq_b S.ih), .int (fq_b S.oh), .ref aB, .int (nI S.ca), .int (nI us), .int (fq_b S.cl), .int (fq_b S.fl), .ref aS, .int (nI X.length), .ref aL, .ref aX, .int (nI md), .int (nI gi), .int (nI su), .int (nI S.ps), .int (nI S.cs)])), (aK, .inl (cI, 5, .inl (upd fK S.sts.length x0))), (aN, .inl (cI, 25, .inl (upd (upd (upd (upd (upd fN (5 * S.sts.length) x1) (5 * S.sts.length + 1) x2) (5 * S.sts.length + 2) x3) (5 * S.sts.length + 3) x4) (5 * S.sts.length + 4) x5))), (aB, .inl (cI, 120, .inl fB)), (aS, .inl (cI, 120, .inl fS)), (aL, .inl (cI, 2300, .inl fL)), (aX, .inl (cI, 2300, .inl fX))]) (q : Nat) : mo_X cI h ((S.sts ++ [(q, sp, [], 0)], rs2, S.fl, S.ps, S.cs, S.ca, S.cl, S.iw, S.ih, S.Lb, S.Lh, S.Lr, S.rm, S.ow, S.oh, S.Lk) : fs_A) v2 := by
  have h2 := st_add (q := q) hI hps hl hsp hr hrs2
  have hX : X = [] := (hI.2.2.2.2.2.2.2.2.2 hps).1
  refine ⟨aK, aN, aB, aS, aL, aX, us, md, gi, su, sd, upd fK S.sts.length x0, upd (upd (upd (upd (upd fN (5 * S.sts.length) x1) (5 * S.sts.length + 1) x2) (5 * S.sts.length + 2) x3) (5 * S.sts.length + 3) x4) (5 * S.sts.length + 4) x5, fB, fS, fL, fX, X, ?_, hsd, h2, ?_, hR.2.1, hR.2.2.1, ?_⟩
  · rw [e]
    show (_ : va_W) = [(h, .inr (12, [.int (nI S.rm), .int (fq_b sd), .int (nI ((S.sts ++ [(q, sp, ([] : List Int), 0)]).length)), .ref aK, .ref aN, .int (nI S.iw), .int (nI S.ow), .int (fq_b S.ih), .int (fq_b S.oh), .ref aB, .int (nI S.ca), .int (nI us), .int (fq_b S.cl), .int (fq_b S.fl), .ref aS, .int (nI X.length), .ref aL, .ref aX, .int (nI md), .int (nI gi), .int (nI su), .int (nI S.ps), .int (nI S.cs)])), (aK, .inl (cI, 5, .inl (upd fK S.sts.length x0))), (aN, .inl (cI, 25, .inl (upd (upd (upd (upd (upd fN (5 * S.sts.length) x1) (5 * S.sts.length + 1) x2) (5 * S.sts.length + 2) x3) (5 * S.sts.length + 3) x4) (5 * S.sts.length + 4) x5))), (aB, .inl (cI, 120, .inl fB)), (aS, .inl (cI, 120, .inl fS)), (aL, .inl (cI, 2300, .inl fL)), (aX, .inl (cI, 2300, .inl fX))]
    rw [List.length_append]; rfl
  · show mo_K _ _ ((S.sts ++ [(q, sp, [], 0)]).map (fun (s : ch_T) => s.2.1))
    rw [List.map_append]
    exact mo_Ka hR.1 (List.length_map _).symm hc e0 e1 e2 e3 e4 e5
  · rw [hX, show st_Y ((S.sts ++ [(q, sp, [], 0)], rs2, S.fl, S.ps, S.cs, S.ca, S.cl, S.iw, S.ih, S.Lb, S.Lh, S.Lr, S.rm, S.ow, S.oh, S.Lk) : fs_A) [] = [] from pl_O0 _ _]
    exact ⟨Nat.zero_le _, fun j hj => absurd hj (Nat.not_lt_zero j)⟩
theorem la_s0 {P : List fm_S} {sp : fm_S} (h : ¬ sp.1 = 3) : pl_s (P ++ [sp]) = pl_s P := by
  unfold pl_s; rw [List.countP_append, List.countP_singleton, if_neg (by simpa using h)]; rfl
theorem la_s1 {P : List fm_S} {sp : fm_S} (h : sp.1 = 3) : pl_s (P ++ [sp]) = pl_s P + 1 := by
  unfold pl_s; rw [List.countP_append, List.countP_singleton, if_pos (by rw [h]; rfl)]
theorem st_beg {S : fs_A} {us md gi su : Nat} {X : List Int} (h : st_I S us md gi su X) : st_I ((S.sts.map fc_0, S.rs, false, 1, 1, 0, false, S.iw, S.ih, [], [], [], S.rm, S.ow, S.oh, []) : fs_A) 0 0 0 0 [] := by
  obtain ⟨hn, hrm, ⟨hok, hrs⟩, hb, hx, hg, hk, hc, hf, h0⟩ := h
  have eP : st_P ((S.sts.map fc_0, S.rs, false, 1, 1, 0, false, S.iw, S.ih, [], [], [], S.rm, S.ow, S.oh, []) : fs_A) = st_P S := by
    show (S.sts.map fc_0).map (fun s => s.2.1) = _
    rw [List.map_map]; rfl
  have eY : ∀ T : fs_A, st_Y T [] = [] := fun T => pl_O0 _ _
  unfold st_I
  rw [eY, eP]
  refine ⟨⟨by show 1 ≤ 3; decide, by show 1 ≤ 3; decide, Nat.zero_le _, hn.2.2.2.1, hn.2.2.2.2.1, ?_⟩, hrm, ⟨hok, hrs⟩, ⟨Nat.le_refl _, Nat.le_refl _, rfl, fun x hx => absurd hx List.not_mem_nil⟩, fun x hx => absurd hx List.not_mem_nil, ⟨Nat.le_refl _, Nat.le_refl _, Nat.le_refl _, Nat.zero_le _, fun _ => rfl⟩, ⟨rfl, rfl, rfl⟩, fun _ => ⟨eP, fun j s _ hs => ?_⟩, fun z => absurd z (show ¬ false = true by decide), fun z => absurd z (show ¬ 1 = 0 by decide)⟩
  · show (S.sts.map fc_0).length ≤ 5; rw [List.length_map]; exact hn.2.2.2.2.2
  · have hs : (S.sts.map fc_0)[j]? = some s := hs
    rw [List.getElem?_map] at hs
    cases hg : S.sts[j]? with
    | none => rw [hg] at hs; exact absurd hs (by simp)
    | some t =>
      rw [hg] at hs
      cases hs
      rw [pl_O0]
      refine ⟨rfl, ?_⟩
      show 0 = fm_m t.2.1 false 0
      unfold fm_m; rw [if_pos (Or.inl rfl)]
theorem la_beg {cI : ClassId} {S : fs_A} {h aK aN aB aS aL aX us md gi su : Nat} {sd : Bool} {fK fN fB fS fL fX : Nat → Int32} {X : List Int} {v2 : va_W} (hsd : sd = false ↔ S.ps = 0) (hI : st_I S us md gi su X) (hR : mo_R S us X fK fN fB fS fL) {sd2 : Bool} (hd : sd2 = true) (e : v2 = [(h, .inr (12, [.int (nI S.rm), .int (fq_b sd2), .int (nI S.sts.length), .ref aK, .ref aN, .int (nI S.iw), .int (nI S.ow), .int (fq_b S.ih), .int (fq_b S.oh), .ref aB, .int (nI 0), .int (nI 0), .int (fq_b false), .int (fq_b false), .ref aS, .int (nI 0), .ref aL, .ref aX, .int (nI 0), .int (nI 0), .int (nI 0), .int (nI 1), .int (nI 1)])), (aK, .inl (cI, 5, .inl fK)), (aN, .inl (cI, 25, .inl fN)), (aB, .inl (cI, 120, .inl fB)), (aS, .inl (cI, 120, .inl fS)), (aL, .inl (cI, 2300, .inl fL)), (aX, .inl (cI, 2300, .inl fX))]) : mo_X cI h ((S.sts.map fc_0, S.rs, false, 1, 1, 0, false, S.iw, S.ih, [], [], [], S.rm, S.ow, S.oh, []) : fs_A) v2 := by
  refine ⟨aK, aN, aB, aS, aL, aX, 0, 0, 0, 0, sd2, fK, fN, fB, fS, fL, fX, [], ?_, ⟨fun z => absurd (hd.symm.trans z) (by decide), fun z => absurd z (show ¬ 1 = 0 by decide)⟩, st_beg hI, ?_, fun k hk => absurd hk (Nat.not_lt_zero k), fun j hj => absurd hj (Nat.not_lt_zero j), ?_⟩
  · rw [e]
    show (_ : va_W) = [(h, .inr (12, [.int (nI S.rm), .int (fq_b sd2), .int (nI ((S.sts.map fc_0).length)), .ref aK, .ref aN, .int (nI S.iw), .int (nI S.ow), .int (fq_b S.ih), .int (fq_b S.oh), .ref aB, .int (nI 0), .int (nI 0), .int (fq_b false), .int (fq_b false), .ref aS, .int (nI (([] : List Int).length)), .ref aL, .ref aX, .int (nI 0), .int (nI 0), .int (nI 0), .int (nI 1), .int (nI 1)])), (aK, .inl (cI, 5, .inl fK)), (aN, .inl (cI, 25, .inl fN)), (aB, .inl (cI, 120, .inl fB)), (aS, .inl (cI, 120, .inl fS)), (aL, .inl (cI, 2300, .inl fL)), (aX, .inl (cI, 2300, .inl fX))]
    rw [List.length_map]; rfl
  · show mo_K fK fN ((S.sts.map fc_0).map (fun s => s.2.1))
    rw [List.map_map]; exact hR.1
  · rw [show st_Y ((S.sts.map fc_0, S.rs, false, 1, 1, 0, false, S.iw, S.ih, [], [], [], S.rm, S.ow, S.oh, []) : fs_A) [] = [] from pl_O0 _ _]
    exact ⟨Nat.zero_le _, fun j hj => absurd hj (Nat.not_lt_zero j)⟩
theorem la_fs {b0 b1 b2 a1 a2 : Int32} (h : fs_c b0.toInt ∧ fs_c b1.toInt ∧ fs_c b2.toInt ∧ fs_c a1.toInt ∧ fs_c a2.toInt) : fm_ok (0, b0.toInt, b1.toInt, b2.toInt, a1.toInt, a2.toInt) := by
  obtain ⟨h0, h1, h2, h3, h4⟩ := h
  unfold fs_c at h0 h1 h2 h3 h4
  refine ⟨show (0 : Nat) ≤ 3 by decide, fun _ => ⟨⟨?_, ?_⟩, ⟨?_, ?_⟩, ⟨?_, ?_⟩, ⟨?_, ?_⟩, ⟨?_, ?_⟩⟩, fun z => absurd (show (0 : Nat) = 1 from z) (by decide), fun z => absurd (show (0 : Nat) = 2 from z) (by decide), fun z => absurd (show (0 : Nat) = 3 from z) (by decide)⟩ <;> (dsimp only; omega)
theorem la_section {r1 r2 : Int32} {cI cO : ClassId} {tE hx : Nat} {S : fs_A} {u1 v1 : va_W} {Lh0 Lr0 Lk0 : List Int32} (eh : Lh0.map Int32.toInt = S.Lh) (er : Lr0.map Int32.toInt = S.Lr) (ek : Lk0.map Int32.toInt = S.Lk) (hfp : fp_W cI cO tE hx S.sts S.rs S.fl S.ps S.cs S.ca S.cl S.iw S.ih S.Lb Lh0 Lr0 S.rm S.ow S.oh Lk0 u1) {h aK aN aB aS aL aX us md gi su : Nat} {sd : Bool} {fK fN fB fS fL fX : Nat → Int32} {X : List Int} {v2 : va_W} (hsd : sd = false ↔ S.ps = 0) (hI : st_I S us md gi su X) (hR : mo_R S us X fK fN fB fS fL) {b0 b1 b2 a1 a2 : Int32} (hw1 : if (((fs_c b0.toInt ∧ fs_c b1.toInt) ∧ fs_c b2.toInt ∧ fs_c a1.toInt ∧ fs_c a2.toInt) ∧ is_c a1.toInt a2.toInt) ∧ (S.ps = 0 ∧ S.sts.length < 5) then r1 = 1 ∧ ∃ q : Nat, fp_W cI cO tE hx (S.sts ++ [(q, (0, b0.toInt, b1.toInt, b2.toInt, a1.toInt, a2.toInt), [], 0)]) S.rs S.fl S.ps S.cs S.ca S.cl S.iw S.ih S.Lb Lh0 Lr0 S.rm S.ow S.oh Lk0 v1 else r1 = 0 ∧ v1 = u1) (hw2 : if ((sd = false ∧ S.sts.length < 5) ∧ fs_c b0.toInt ∧ fs_c b1.toInt ∧ fs_c b2.toInt ∧ fs_c a1.toInt ∧ fs_c a2.toInt) ∧ is_c a1.toInt a2.toInt then r2 = 1 ∧ v2 = [(h, .inr (12, [.int (nI S.rm), .int (fq_b sd), .int (nI (S.sts.length + 1)), .ref aK, .ref aN, .int (nI S.iw), .int (nI S.ow), .int (fq_b S.ih), .int (fq_b S.oh), .ref aB, .int (nI S.ca), .int (nI us), .int (fq_b S.cl), .int (fq_b S.fl), .ref aS, .int (nI X.length), .ref aL, .ref aX, .int (nI md), .int (nI gi), .int (nI su), .int (nI S.ps), .int (nI S.cs)])), (aK, .inl (cI, 5, .inl (upd fK S.sts.length 0))), (aN, .inl (cI, 25, .inl (upd (upd (upd (upd (upd fN (5 * S.sts.length) b0) (5 * S.sts.length + 1) b1) (5 * S.sts.length + 2) b2) (5 * S.sts.length + 3) a1) (5 * S.sts.length + 4) a2))), (aB, .inl (cI, 120, .inl fB)), (aS, .inl (cI, 120, .inl fS)), (aL, .inl (cI, 2300, .inl fL)), (aX, .inl (cI, 2300, .inl fX))] else r2 = 0 ∧ v2 = [(h, .inr (12, [.int (nI S.rm), .int (fq_b sd), .int (nI S.sts.length), .ref aK, .ref aN, .int (nI S.iw), .int (nI S.ow), .int (fq_b S.ih), .int (fq_b S.oh), .ref aB, .int (nI S.ca), .int (nI us), .int (fq_b S.cl), .int (fq_b S.fl), .ref aS, .int (nI X.length), .ref aL, .ref aX, .int (nI md), .int (nI gi), .int (nI su), .int (nI S.ps), .int (nI S.cs)])), (aK, .inl (cI, 5, .inl fK)), (aN, .inl (cI, 25, .inl fN)), (aB, .inl (cI, 120, .inl fB)), (aS, .inl (cI, 120, .inl fS)), (aL, .inl (cI, 2300, .inl fL)), (aX, .inl (cI, 2300, .inl fX))]) : r1 = r2 ∧ ∃ T, fp_X cI cO tE hx T v1 ∧ mo_X cI h T v2 := by
  have hc : ((((fs_c b0.toInt ∧ fs_c b1.toInt) ∧ fs_c b2.toInt ∧ fs_c a1.toInt ∧ fs_c a2.toInt) ∧ is_c a1.toInt a2.toInt) ∧ (S.ps = 0 ∧ S.sts.length < 5)) ↔ (((sd = false ∧ S.sts.length < 5) ∧ fs_c b0.toInt ∧ fs_c b1.toInt ∧ fs_c b2.toInt ∧ fs_c a1.toInt ∧ fs_c a2.toInt) ∧ is_c a1.toInt a2.toInt) := ⟨fun z => ⟨⟨⟨hsd.mpr z.2.1, z.2.2⟩, z.1.1.1.1, z.1.1.1.2, z.1.1.2.1, z.1.1.2.2.1, z.1.1.2.2.2⟩, z.1.2⟩, fun z => ⟨⟨⟨⟨z.1.2.1, z.1.2.2.1⟩, z.1.2.2.2.1, z.1.2.2.2.2.1, z.1.2.2.2.2.2⟩, z.2⟩, hsd.mp z.1.1.1, z.1.1.2⟩⟩
  by_cases c : ((sd = false ∧ S.sts.length < 5) ∧ fs_c b0.toInt ∧ fs_c b1.toInt ∧ fs_c b2.toInt ∧ fs_c a1.toInt ∧ fs_c a2.toInt) ∧ is_c a1.toInt a2.toInt
  · rw [if_pos c] at hw2
    rw [if_pos (hc.mpr c)] at hw1
    obtain ⟨e1, q, f1⟩ := hw1
    exact ⟨e1.trans hw2.1.symm, ((S.sts ++ [(q, (0, b0.toInt, b1.toInt, b2.toInt, a1.toInt, a2.toInt), [], 0)], S.rs, S.fl, S.ps, S.cs, S.ca, S.cl, S.iw, S.ih, S.Lb, S.Lh, S.Lr, S.rm, S.ow, S.oh, S.Lk) : fs_A), ⟨Lh0, Lr0, Lk0, eh, er, ek, f1⟩, la_add (sp := (0, b0.toInt, b1.toInt, b2.toInt, a1.toInt, a2.toInt)) hsd hI hR (hsd.mp c.1.1.1) c.1.1.2 (la_fs c.1.2) (fun _ => c.2) (by rw [la_s0 (show ¬ ((0, b0.toInt, b1.toInt, b2.toInt, a1.toInt, a2.toInt) : fm_S).1 = 3 from (by decide : ¬ (0 : Nat) = 3))]; exact hI.2.2.1.1.2.2) (by rw [la_s0 (show ¬ ((0, b0.toInt, b1.toInt, b2.toInt, a1.toInt, a2.toInt) : fm_S).1 = 3 from (by decide : ¬ (0 : Nat) = 3))]; exact hI.2.2.1.2) rfl rfl rfl rfl rfl rfl hw2.2 q⟩
  · rw [if_neg c] at hw2
    rw [if_neg (fun z => c (hc.mp z))] at hw1
    exact ⟨hw1.1.trans hw2.1.symm, S, la_1 eh er ek hfp hw1.2, la_2 hsd hI hR hw2.2⟩
theorem la_gain {r1 r2 : Int32} {cI cO : ClassId} {tE hx : Nat} {S : fs_A} {u1 v1 : va_W} {Lh0 Lr0 Lk0 : List Int32} (eh : Lh0.map Int32.toInt = S.Lh) (er : Lr0.map Int32.toInt = S.Lr) (ek : Lk0.map Int32.toInt = S.Lk) (hfp : fp_W cI cO tE hx S.sts S.rs S.fl S.ps S.cs S.ca S.cl S.iw S.ih S.Lb Lh0 Lr0 S.rm S.ow S.oh Lk0 u1) {h aK aN aB aS aL aX us md gi su : Nat} {sd : Bool} {fK fN fB fS fL fX : Nat → Int32} {X : List Int} {v2 : va_W} (hsd : sd = false ↔ S.ps = 0) (hI : st_I S us md gi su X) (hR : mo_R S us X fK fN fB fS fL) {x : Int32} (hw1 : if (-1024 ≤ x.toInt ∧ x.toInt ≤ 1024) ∧ (S.ps = 0 ∧ S.sts.length < 5) then r1 = 1 ∧ ∃ q : Nat, fp_W cI cO tE hx (S.sts ++ [(q, (1, x.toInt, 0, 0, 0, 0), [], 0)]) S.rs S.fl S.ps S.cs S.ca S.cl S.iw S.ih S.Lb Lh0 Lr0 S.rm S.ow S.oh Lk0 v1 else r1 = 0 ∧ v1 = u1) (hw2 : if (sd = false ∧ S.sts.length < 5) ∧ -1024 ≤ x.toInt ∧ x.toInt ≤ 1024 then r2 = 1 ∧ v2 = [(h, .inr (12, [.int (nI S.rm), .int (fq_b sd), .int (nI (S.sts.length + 1)), .ref aK, .ref aN, .int (nI S.iw), .int (nI S.ow), .int (fq_b S.ih), .int (fq_b S.oh), .ref aB, .int (nI S.ca), .int (nI us), .int (fq_b S.cl), .int (fq_b S.fl), .ref aS, .int (nI X.length), .ref aL, .ref aX, .int (nI md), .int (nI gi), .int (nI su), .int (nI S.ps), .int (nI S.cs)])), (aK, .inl (cI, 5, .inl (upd fK S.sts.length 1))), (aN, .inl (cI, 25, .inl (upd (upd (upd (upd (upd fN (5 * S.sts.length) x) (5 * S.sts.length + 1) 0) (5 * S.sts.length + 2) 0) (5 * S.sts.length + 3) 0) (5 * S.sts.length + 4) 0))), (aB, .inl (cI, 120, .inl fB)), (aS, .inl (cI, 120, .inl fS)), (aL, .inl (cI, 2300, .inl fL)), (aX, .inl (cI, 2300, .inl fX))] else r2 = 0 ∧ v2 = [(h, .inr (12, [.int (nI S.rm), .int (fq_b sd), .int (nI S.sts.length), .ref aK, .ref aN, .int (nI S.iw), .int (nI S.ow), .int (fq_b S.ih), .int (fq_b S.oh), .ref aB, .int (nI S.ca), .int (nI us), .int (fq_b S.cl), .int (fq_b S.fl), .ref aS, .int (nI X.length), .ref aL, .ref aX, .int (nI md), .int (nI gi), .int (nI su), .int (nI S.ps), .int (nI S.cs)])), (aK, .inl (cI, 5, .inl fK)), (aN, .inl (cI, 25, .inl fN)), (aB, .inl (cI, 120, .inl fB)), (aS, .inl (cI, 120, .inl fS)), (aL, .inl (cI, 2300, .inl fL)), (aX, .inl (cI, 2300, .inl fX))]) : r1 = r2 ∧ ∃ T, fp_X cI cO tE hx T v1 ∧ mo_X cI h T v2 := by
  have hc : ((-1024 ≤ x.toInt ∧ x.toInt ≤ 1024) ∧ (S.ps = 0 ∧ S.sts.length < 5)) ↔ ((sd = false ∧ S.sts.length < 5) ∧ -1024 ≤ x.toInt ∧ x.toInt ≤ 1024) := ⟨fun z => ⟨⟨hsd.mpr z.2.1, z.2.2⟩, z.1⟩, fun z => ⟨z.2, hsd.mp z.1.1, z.1.2⟩⟩
  by_cases c : (sd = false ∧ S.sts.length < 5) ∧ -1024 ≤ x.toInt ∧ x.toInt ≤ 1024
  · rw [if_pos c] at hw2
    rw [if_pos (hc.mpr c)] at hw1
    obtain ⟨e1, q, f1⟩ := hw1
    exact ⟨e1.trans hw2.1.symm, ((S.sts ++ [(q, (1, x.toInt, 0, 0, 0, 0), [], 0)], S.rs, S.fl, S.ps, S.cs, S.ca, S.cl, S.iw, S.ih, S.Lb, S.Lh, S.Lr, S.rm, S.ow, S.oh, S.Lk) : fs_A), ⟨Lh0, Lr0, Lk0, eh, er, ek, f1⟩, la_add (sp := (1, x.toInt, 0, 0, 0, 0)) hsd hI hR (hsd.mp c.1.1) c.1.2 ⟨show (1 : Nat) ≤ 3 by decide, fun z => absurd (show (1 : Nat) = 0 from z) (by decide), fun _ => c.2, fun z => absurd (show (1 : Nat) = 2 from z) (by decide), fun z => absurd (show (1 : Nat) = 3 from z) (by decide)⟩ (fun z => absurd (show (1 : Nat) = 0 from z) (by decide)) (by rw [la_s0 (show ¬ ((1, x.toInt, 0, 0, 0, 0) : fm_S).1 = 3 from (by decide : ¬ (1 : Nat) = 3))]; exact hI.2.2.1.1.2.2) (by rw [la_s0 (show ¬ ((1, x.toInt, 0, 0, 0, 0) : fm_S).1 = 3 from (by decide : ¬ (1 : Nat) = 3))]; exact hI.2.2.1.2) rfl rfl (show (0 : Int32).toInt = 0 by decide) (show (0 : Int32).toInt = 0 by decide) (show (0 : Int32).toInt = 0 by decide) (show (0 : Int32).toInt = 0 by decide) hw2.2 q⟩
  · rw [if_neg c] at hw2
    rw [if_neg (fun z => c (hc.mp z))] at hw1
    exact ⟨hw1.1.trans hw2.1.symm, S, la_1 eh er ek hfp hw1.2, la_2 hsd hI hR hw2.2⟩
theorem la_window {r1 r2 : Int32} {cI cO : ClassId} {tE hx : Nat} {S : fs_A} {u1 v1 : va_W} {Lh0 Lr0 Lk0 : List Int32} (eh : Lh0.map Int32.toInt = S.Lh) (er : Lr0.map Int32.toInt = S.Lr) (ek : Lk0.map Int32.toInt = S.Lk) (hfp : fp_W cI cO tE hx S.sts S.rs S.fl S.ps S.cs S.ca S.cl S.iw S.ih S.Lb Lh0 Lr0 S.rm S.ow S.oh Lk0 u1) {h aK aN aB aS aL aX us md gi su : Nat} {sd : Bool} {fK fN fB fS fL fX : Nat → Int32} {X : List Int} {v2 : va_W} (hsd : sd = false ↔ S.ps = 0) (hI : st_I S us md gi su X) (hR : mo_R S us X fK fN fB fS fL) {x y : Int32} (hw1 : if ((0 ≤ x.toInt ∧ x.toInt ≤ 2) ∧ 1 ≤ y.toInt ∧ y.toInt ≤ 8) ∧ (S.ps = 0 ∧ S.sts.length < 5) then r1 = 1 ∧ ∃ q : Nat, fp_W cI cO tE hx (S.sts ++ [(q, (2, x.toInt, ((y.toInt.toNat : Nat) : Int), 0, 0, 0), [], 0)]) S.rs S.fl S.ps S.cs S.ca S.cl S.iw S.ih S.Lb Lh0 Lr0 S.rm S.ow S.oh Lk0 v1 else r1 = 0 ∧ v1 = u1) (hw2 : if (sd = false ∧ S.sts.length < 5) ∧ 0 ≤ x.toInt ∧ x.toInt ≤ 2 ∧ 1 ≤ y.toInt ∧ y.toInt ≤ 8 then r2 = 1 ∧ v2 = [(h, .inr (12, [.int (nI S.rm), .int (fq_b sd), .int (nI (S.sts.length + 1)), .ref aK, .ref aN, .int (nI S.iw), .int (nI S.ow), .int (fq_b S.ih), .int (fq_b S.oh), .ref aB, .int (nI S.ca), .int (nI us), .int (fq_b S.cl), .int (fq_b S.fl), .ref aS, .int (nI X.length), .ref aL, .ref aX, .int (nI md), .int (nI gi), .int (nI su), .int (nI S.ps), .int (nI S.cs)])), (aK, .inl (cI, 5, .inl (upd fK S.sts.length 2))), (aN, .inl (cI, 25, .inl (upd (upd (upd (upd (upd fN (5 * S.sts.length) x) (5 * S.sts.length + 1) y) (5 * S.sts.length + 2) 0) (5 * S.sts.length + 3) 0) (5 * S.sts.length + 4) 0))), (aB, .inl (cI, 120, .inl fB)), (aS, .inl (cI, 120, .inl fS)), (aL, .inl (cI, 2300, .inl fL)), (aX, .inl (cI, 2300, .inl fX))] else r2 = 0 ∧ v2 = [(h, .inr (12, [.int (nI S.rm), .int (fq_b sd), .int (nI S.sts.length), .ref aK, .ref aN, .int (nI S.iw), .int (nI S.ow), .int (fq_b S.ih), .int (fq_b S.oh), .ref aB, .int (nI S.ca), .int (nI us), .int (fq_b S.cl), .int (fq_b S.fl), .ref aS, .int (nI X.length), .ref aL, .ref aX, .int (nI md), .int (nI gi), .int (nI su), .int (nI S.ps), .int (nI S.cs)])), (aK, .inl (cI, 5, .inl fK)), (aN, .inl (cI, 25, .inl fN)), (aB, .inl (cI, 120, .inl fB)), (aS, .inl (cI, 120, .inl fS)), (aL, .inl (cI, 2300, .inl fL)), (aX, .inl (cI, 2300, .inl fX))]) : r1 = r2 ∧ ∃ T, fp_X cI cO tE hx T v1 ∧ mo_X cI h T v2 := by
  have hc : (((0 ≤ x.toInt ∧ x.toInt ≤ 2) ∧ 1 ≤ y.toInt ∧ y.toInt ≤ 8) ∧ (S.ps = 0 ∧ S.sts.length < 5)) ↔ ((sd = false ∧ S.sts.length < 5) ∧ 0 ≤ x.toInt ∧ x.toInt ≤ 2 ∧ 1 ≤ y.toInt ∧ y.toInt ≤ 8) := ⟨fun z => ⟨⟨hsd.mpr z.2.1, z.2.2⟩, z.1.1.1, z.1.1.2, z.1.2.1, z.1.2.2⟩, fun z => ⟨⟨⟨z.2.1, z.2.2.1⟩, z.2.2.2.1, z.2.2.2.2⟩, hsd.mp z.1.1, z.1.2⟩⟩
  by_cases c : (sd = false ∧ S.sts.length < 5) ∧ 0 ≤ x.toInt ∧ x.toInt ≤ 2 ∧ 1 ≤ y.toInt ∧ y.toInt ≤ 8
  · rw [if_pos c] at hw2
    rw [if_pos (hc.mpr c)] at hw1
    obtain ⟨e1, q, f1⟩ := hw1
    exact ⟨e1.trans hw2.1.symm, ((S.sts ++ [(q, (2, x.toInt, ((y.toInt.toNat : Nat) : Int), 0, 0, 0), [], 0)], S.rs, S.fl, S.ps, S.cs, S.ca, S.cl, S.iw, S.ih, S.Lb, S.Lh, S.Lr, S.rm, S.ow, S.oh, S.Lk) : fs_A), ⟨Lh0, Lr0, Lk0, eh, er, ek, f1⟩, la_add (sp := (2, x.toInt, ((y.toInt.toNat : Nat) : Int), 0, 0, 0)) hsd hI hR (hsd.mp c.1.1) c.1.2 ⟨show (2 : Nat) ≤ 3 by decide, fun z => absurd (show (2 : Nat) = 0 from z) (by decide), fun z => absurd (show (2 : Nat) = 1 from z) (by decide), fun _ => ⟨show x.toInt = 0 ∨ x.toInt = 1 ∨ x.toInt = 2 by omega, show (1 : Int) ≤ ((y.toInt.toNat : Nat) : Int) by omega, show ((y.toInt.toNat : Nat) : Int) ≤ 8 by omega⟩, fun z => absurd (show (2 : Nat) = 3 from z) (by decide)⟩ (fun z => absurd (show (2 : Nat) = 0 from z) (by decide)) (by rw [la_s0 (show ¬ ((2, x.toInt, ((y.toInt.toNat : Nat) : Int), 0, 0, 0) : fm_S).1 = 3 from (by decide : ¬ (2 : Nat) = 3))]; exact hI.2.2.1.1.2.2) (by rw [la_s0 (show ¬ ((2, x.toInt, ((y.toInt.toNat : Nat) : Int), 0, 0, 0) : fm_S).1 = 3 from (by decide : ¬ (2 : Nat) = 3))]; exact hI.2.2.1.2) rfl rfl (show y.toInt = ((y.toInt.toNat : Nat) : Int) by omega) (show (0 : Int32).toInt = 0 by decide) (show (0 : Int32).toInt = 0 by decide) (show (0 : Int32).toInt = 0 by decide) hw2.2 q⟩
  · rw [if_neg c] at hw2
    rw [if_neg (fun z => c (hc.mp z))] at hw1
    exact ⟨hw1.1.trans hw2.1.symm, S, la_1 eh er ek hfp hw1.2, la_2 hsd hI hR hw2.2⟩
theorem la_resample {r1 r2 : Int32} {cI cO : ClassId} {tE hx : Nat} {S : fs_A} {u1 v1 : va_W} {Lh0 Lr0 Lk0 : List Int32} (eh : Lh0.map Int32.toInt = S.Lh) (er : Lr0.map Int32.toInt = S.Lr) (ek : Lk0.map Int32.toInt = S.Lk) (hfp : fp_W cI cO tE hx S.sts S.rs S.fl S.ps S.cs S.ca S.cl S.iw S.ih S.Lb Lh0 Lr0 S.rm S.ow S.oh Lk0 u1) {h aK aN aB aS aL aX us md gi su : Nat} {sd : Bool} {fK fN fB fS fL fX : Nat → Int32} {X : List Int} {v2 : va_W} (hsd : sd = false ↔ S.ps = 0) (hI : st_I S us md gi su X) (hR : mo_R S us X fK fN fB fS fL) {x y : Int32} (hw1 : if ((1 ≤ x.toInt ∧ x.toInt ≤ 4) ∧ 1 ≤ y.toInt ∧ y.toInt ≤ 4) ∧ (S.ps = 0 ∧ S.sts.length < 5) ∧ ¬ (2 : Int32) ≤ nI S.rs then r1 = 1 ∧ ∃ q : Nat, fp_W cI cO tE hx (S.sts ++ [(q, (3, ((x.toInt.toNat / rs_g x.toInt.toNat y.toInt.toNat : Nat) : Int), ((y.toInt.toNat / rs_g x.toInt.toNat y.toInt.toNat : Nat) : Int), 0, 0, 0), [], 0)]) (S.rs + 1) S.fl S.ps S.cs S.ca S.cl S.iw S.ih S.Lb Lh0 Lr0 S.rm S.ow S.oh Lk0 v1 else r1 = 0 ∧ v1 = u1) (hw2 : if (sd = false ∧ S.sts.length < 5) ∧ ¬ ot_n fK S.sts.length = 2 ∧ (1 ≤ x.toInt ∧ x.toInt ≤ 4) ∧ 1 ≤ y.toInt ∧ y.toInt ≤ 4 then r2 = 1 ∧ v2 = [(h, .inr (12, [.int (nI S.rm), .int (fq_b sd), .int (nI (S.sts.length + 1)), .ref aK, .ref aN, .int (nI S.iw), .int (nI S.ow), .int (fq_b S.ih), .int (fq_b S.oh), .ref aB, .int (nI S.ca), .int (nI us), .int (fq_b S.cl), .int (fq_b S.fl), .ref aS, .int (nI X.length), .ref aL, .ref aX, .int (nI md), .int (nI gi), .int (nI su), .int (nI S.ps), .int (nI S.cs)])), (aK, .inl (cI, 5, .inl (upd fK S.sts.length 3))), (aN, .inl (cI, 25, .inl (upd (upd (upd (upd (upd fN (5 * S.sts.length) (nI (x.toInt.toNat / rs_g x.toInt.toNat y.toInt.toNat))) (5 * S.sts.length + 1) (nI (y.toInt.toNat / rs_g x.toInt.toNat y.toInt.toNat))) (5 * S.sts.length + 2) 0) (5 * S.sts.length + 3) 0) (5 * S.sts.length + 4) 0))), (aB, .inl (cI, 120, .inl fB)), (aS, .inl (cI, 120, .inl fS)), (aL, .inl (cI, 2300, .inl fL)), (aX, .inl (cI, 2300, .inl fX))] else r2 = 0 ∧ v2 = [(h, .inr (12, [.int (nI S.rm), .int (fq_b sd), .int (nI S.sts.length), .ref aK, .ref aN, .int (nI S.iw), .int (nI S.ow), .int (fq_b S.ih), .int (fq_b S.oh), .ref aB, .int (nI S.ca), .int (nI us), .int (fq_b S.cl), .int (fq_b S.fl), .ref aS, .int (nI X.length), .ref aL, .ref aX, .int (nI md), .int (nI gi), .int (nI su), .int (nI S.ps), .int (nI S.cs)])), (aK, .inl (cI, 5, .inl fK)), (aN, .inl (cI, 25, .inl fN)), (aB, .inl (cI, 120, .inl fB)), (aS, .inl (cI, 120, .inl fS)), (aL, .inl (cI, 2300, .inl fL)), (aX, .inl (cI, 2300, .inl fX))]) : r1 = r2 ∧ ∃ T, fp_X cI cO tE hx T v1 ∧ mo_X cI h T v2 := by
  have hot : ot_n fK S.sts.length = pl_s (st_P S) := by
    have e := ot_s hR.1 hI.2.2.1.1.1 S.sts.length (by rw [List.length_map]; exact Nat.le_refl _)
    rw [List.take_of_length_le (by rw [List.length_map]; exact Nat.le_refl _)] at e; exact e
  have hs2 := hI.2.2.1.1.2.2
  have hc : (((1 ≤ x.toInt ∧ x.toInt ≤ 4) ∧ 1 ≤ y.toInt ∧ y.toInt ≤ 4) ∧ (S.ps = 0 ∧ S.sts.length < 5) ∧ ¬ (2 : Int32) ≤ nI S.rs) ↔ ((sd = false ∧ S.sts.length < 5) ∧ ¬ ot_n fK S.sts.length = 2 ∧ (1 ≤ x.toInt ∧ x.toInt ≤ 4) ∧ 1 ≤ y.toInt ∧ y.toInt ≤ 4) := ⟨fun z => ⟨⟨hsd.mpr z.2.1.1, z.2.1.2⟩, fun e => z.2.2 (by rw [hI.2.2.1.2, ← hot, e]; decide), z.1.1, z.1.2⟩, fun z => ⟨⟨z.2.2.1, z.2.2.2⟩, ⟨hsd.mp z.1.1, z.1.2⟩, fun e => z.2.1 (by rw [hI.2.2.1.2, ← hot, show (2 : Int32) = nI 2 from rfl, nI_leI (by decide) (by omega)] at e; omega)⟩⟩
  by_cases c : (sd = false ∧ S.sts.length < 5) ∧ ¬ ot_n fK S.sts.length = 2 ∧ (1 ≤ x.toInt ∧ x.toInt ≤ 4) ∧ 1 ≤ y.toInt ∧ y.toInt ≤ 4
  · rw [if_pos c] at hw2
    rw [if_pos (hc.mpr c)] at hw1
    obtain ⟨e1, q, f1⟩ := hw1
    have hg := rs_gb (a := x.toInt.toNat) (b := y.toInt.toNat) ⟨by omega, by omega⟩ ⟨by omega, by omega⟩
    have hs2 : pl_s (st_P S) < 2 := by have := c.2.1; omega
    exact ⟨e1.trans hw2.1.symm, ((S.sts ++ [(q, (3, ((x.toInt.toNat / rs_g x.toInt.toNat y.toInt.toNat : Nat) : Int), ((y.toInt.toNat / rs_g x.toInt.toNat y.toInt.toNat : Nat) : Int), 0, 0, 0), [], 0)], S.rs + 1, S.fl, S.ps, S.cs, S.ca, S.cl, S.iw, S.ih, S.Lb, S.Lh, S.Lr, S.rm, S.ow, S.oh, S.Lk) : fs_A), ⟨Lh0, Lr0, Lk0, eh, er, ek, f1⟩, la_add (sp := (3, ((x.toInt.toNat / rs_g x.toInt.toNat y.toInt.toNat : Nat) : Int), ((y.toInt.toNat / rs_g x.toInt.toNat y.toInt.toNat : Nat) : Int), 0, 0, 0)) hsd hI hR (hsd.mp c.1.1) c.1.2 ⟨show (3 : Nat) ≤ 3 by decide, fun z => absurd (show (3 : Nat) = 0 from z) (by decide), fun z => absurd (show (3 : Nat) = 1 from z) (by decide), fun z => absurd (show (3 : Nat) = 2 from z) (by decide), fun _ => ⟨⟨show (1 : Int) ≤ ((x.toInt.toNat / rs_g x.toInt.toNat y.toInt.toNat : Nat) : Int) by omega, show ((x.toInt.toNat / rs_g x.toInt.toNat y.toInt.toNat : Nat) : Int) ≤ 4 by omega⟩, show (1 : Int) ≤ ((y.toInt.toNat / rs_g x.toInt.toNat y.toInt.toNat : Nat) : Int) by omega, show ((y.toInt.toNat / rs_g x.toInt.toNat y.toInt.toNat : Nat) : Int) ≤ 4 by omega⟩⟩ (fun z => absurd (show (3 : Nat) = 0 from z) (by decide)) (by rw [la_s1 (show ((3, ((x.toInt.toNat / rs_g x.toInt.toNat y.toInt.toNat : Nat) : Int), ((y.toInt.toNat / rs_g x.toInt.toNat y.toInt.toNat : Nat) : Int), 0, 0, 0) : fm_S).1 = 3 from rfl)]; have := hI.2.2.1.2; omega) (by rw [la_s1 (show ((3, ((x.toInt.toNat / rs_g x.toInt.toNat y.toInt.toNat : Nat) : Int), ((y.toInt.toNat / rs_g x.toInt.toNat y.toInt.toNat : Nat) : Int), 0, 0, 0) : fm_S).1 = 3 from rfl), hI.2.2.1.2]) rfl (nI_toInt (by omega)) (nI_toInt (by omega)) (show (0 : Int32).toInt = 0 by decide) (show (0 : Int32).toInt = 0 by decide) (show (0 : Int32).toInt = 0 by decide) hw2.2 q⟩
  · rw [if_neg c] at hw2
    rw [if_neg (fun z => c (hc.mp z))] at hw1
    exact ⟨hw1.1.trans hw2.1.symm, S, la_1 eh er ek hfp hw1.2, la_2 hsd hI hR hw2.2⟩
theorem hp_u {x : Int32} {hb : Bool} {b0 b1 a1 a2 c0 c1 d1 d2 : Int32} (h : hp_r x hb b0 b1 a1 a2) (k : hp_r x hb c0 c1 d1 d2) : b0 = c0 ∧ b1 = c1 ∧ a1 = d1 ∧ a2 = d2 := by
  obtain ⟨h0, h1, h2, h3⟩ := h
  obtain ⟨k0, k1, k2, k3⟩ := k
  have e0 : b0 = c0 := Int32.toInt_inj.mp (h0.trans k0.symm)
  subst e0
  exact ⟨rfl, h1.trans k1.symm, Int32.toInt_inj.mp (h2.trans k2.symm), Int32.toInt_inj.mp (h3.trans k3.symm)⟩
theorem hp_c : ∀ k : Fin 96, is_c (hp_n (hp_1 (nI (k.val + 1))) (hp_d (nI (k.val + 1)))) (hp_n (hp_2 (nI (k.val + 1))) (hp_d (nI (k.val + 1)))) := by decide +kernel
theorem hp_ok {x : Int32} {hb : Bool} {b0 b1 a1 a2 : Int32} (h1 : 1 ≤ x.toInt) (h2 : x.toInt ≤ 96) (h : hp_r x hb b0 b1 a1 a2) : fm_ok (0, b0.toInt, b1.toInt, b0.toInt, a1.toInt, a2.toInt) ∧ is_c a1.toInt a2.toInt := by
  obtain ⟨-, -, -, -, p5, p6, p7, p8⟩ := hp_all h1 h2
  have hc := hp_c ⟨x.toInt.toNat - 1, by omega⟩
  have ex : x = nI (x.toInt.toNat - 1 + 1) := (fz_n (by omega)).trans (congrArg nI (by omega))
  rw [← ex] at hc
  obtain ⟨e1, e2, e3, e4⟩ := h
  rw [← e3, ← e4] at hc
  have q0 : 0 ≤ b0.toInt ∧ b0.toInt ≤ 32768 := by
    rw [e1]; cases hb
    · exact p6
    · exact p5
  have t1 : (2 : Int32).toInt = 2 := by decide
  have t2 : (-2 : Int32).toInt = -2 := by decide
  have q1 : -65536 ≤ b1.toInt ∧ b1.toInt ≤ 65536 := by
    rw [e2]; cases hb
    · rw [if_neg (by decide), Kit.i32_mul (by rw [t1]; omega) (by rw [t1]; omega), t1]; omega
    · rw [if_pos rfl, Kit.i32_mul (by rw [t2]; omega) (by rw [t2]; omega), t2]; omega
  rw [← e3] at p7
  rw [← e4] at p8
  refine ⟨?_, hc⟩
  refine ⟨show (0 : Nat) ≤ 3 by decide, fun _ => ⟨⟨?_, ?_⟩, ⟨?_, ?_⟩, ⟨?_, ?_⟩, ⟨?_, ?_⟩, ⟨?_, ?_⟩⟩, fun z => absurd (show (0 : Nat) = 1 from z) (by decide), fun z => absurd (show (0 : Nat) = 2 from z) (by decide), fun z => absurd (show (0 : Nat) = 3 from z) (by decide)⟩ <;> (dsimp only; omega)
theorem la_halfPower {r1 r2 : Int32} {cI cO : ClassId} {tE hx : Nat} {S : fs_A} {u1 v1 : va_W} {Lh0 Lr0 Lk0 : List Int32} (eh : Lh0.map Int32.toInt = S.Lh) (er : Lr0.map Int32.toInt = S.Lr) (ek : Lk0.map Int32.toInt = S.Lk) (hfp : fp_W cI cO tE hx S.sts S.rs S.fl S.ps S.cs S.ca S.cl S.iw S.ih S.Lb Lh0 Lr0 S.rm S.ow S.oh Lk0 u1) {h aK aN aB aS aL aX us md gi su : Nat} {sd : Bool} {fK fN fB fS fL fX : Nat → Int32} {X : List Int} {v2 : va_W} (hsd : sd = false ↔ S.ps = 0) (hI : st_I S us md gi su X) (hR : mo_R S us X fK fN fB fS fL) {x : Int32} {hb : Bool} (hw1 : if (1 ≤ x.toInt ∧ x.toInt ≤ 96) ∧ (S.ps = 0 ∧ S.sts.length < 5) then r1 = 1 ∧ ∃ (b0 b1 a1 a2 : Int32) (q : Nat), hp_r x hb b0 b1 a1 a2 ∧ fp_W cI cO tE hx (S.sts ++ [(q, (0, b0.toInt, b1.toInt, b0.toInt, a1.toInt, a2.toInt), [], 0)]) S.rs S.fl S.ps S.cs S.ca S.cl S.iw S.ih S.Lb Lh0 Lr0 S.rm S.ow S.oh Lk0 v1 else r1 = 0 ∧ v1 = u1) (hw2 : if (sd = false ∧ S.sts.length < 5) ∧ 1 ≤ x.toInt ∧ x.toInt ≤ 96 then r2 = 1 ∧ ∃ b0 b1 a1 a2 : Int32, hp_r x hb b0 b1 a1 a2 ∧ v2 = [(h, .inr (12, [.int (nI S.rm), .int (fq_b sd), .int (nI (S.sts.length + 1)), .ref aK, .ref aN, .int (nI S.iw), .int (nI S.ow), .int (fq_b S.ih), .int (fq_b S.oh), .ref aB, .int (nI S.ca), .int (nI us), .int (fq_b S.cl), .int (fq_b S.fl), .ref aS, .int (nI X.length), .ref aL, .ref aX, .int (nI md), .int (nI gi), .int (nI su), .int (nI S.ps), .int (nI S.cs)])), (aK, .inl (cI, 5, .inl (upd fK S.sts.length 0))), (aN, .inl (cI, 25, .inl (upd (upd (upd (upd (upd fN (5 * S.sts.length) b0) (5 * S.sts.length + 1) b1) (5 * S.sts.length + 2) b0) (5 * S.sts.length + 3) a1) (5 * S.sts.length + 4) a2))), (aB, .inl (cI, 120, .inl fB)), (aS, .inl (cI, 120, .inl fS)), (aL, .inl (cI, 2300, .inl fL)), (aX, .inl (cI, 2300, .inl fX))] else r2 = 0 ∧ v2 = [(h, .inr (12, [.int (nI S.rm), .int (fq_b sd), .int (nI S.sts.length), .ref aK, .ref aN, .int (nI S.iw), .int (nI S.ow), .int (fq_b S.ih), .int (fq_b S.oh), .ref aB, .int (nI S.ca), .int (nI us), .int (fq_b S.cl), .int (fq_b S.fl), .ref aS, .int (nI X.length), .ref aL, .ref aX, .int (nI md), .int (nI gi), .int (nI su), .int (nI S.ps), .int (nI S.cs)])), (aK, .inl (cI, 5, .inl fK)), (aN, .inl (cI, 25, .inl fN)), (aB, .inl (cI, 120, .inl fB)), (aS, .inl (cI, 120, .inl fS)), (aL, .inl (cI, 2300, .inl fL)), (aX, .inl (cI, 2300, .inl fX))]) : r1 = r2 ∧ ∃ T, fp_X cI cO tE hx T v1 ∧ mo_X cI h T v2 := by
  have hc : ((1 ≤ x.toInt ∧ x.toInt ≤ 96) ∧ (S.ps = 0 ∧ S.sts.length < 5)) ↔ ((sd = false ∧ S.sts.length < 5) ∧ 1 ≤ x.toInt ∧ x.toInt ≤ 96) := ⟨fun z => ⟨⟨hsd.mpr z.2.1, z.2.2⟩, z.1⟩, fun z => ⟨z.2, hsd.mp z.1.1, z.1.2⟩⟩
  by_cases c : (sd = false ∧ S.sts.length < 5) ∧ 1 ≤ x.toInt ∧ x.toInt ≤ 96
  · rw [if_pos c] at hw2
    rw [if_pos (hc.mpr c)] at hw1
    obtain ⟨e1, b0, b1, a1, a2, q, f0, f1⟩ := hw1
    obtain ⟨e2, c0, c1, d1, d2, g0, g1⟩ := hw2
    obtain ⟨rfl, rfl, rfl, rfl⟩ := hp_u f0 g0
    have ho := hp_ok c.2.1 c.2.2 f0
    exact ⟨e1.trans e2.symm, ((S.sts ++ [(q, (0, b0.toInt, b1.toInt, b0.toInt, a1.toInt, a2.toInt), [], 0)], S.rs, S.fl, S.ps, S.cs, S.ca, S.cl, S.iw, S.ih, S.Lb, S.Lh, S.Lr, S.rm, S.ow, S.oh, S.Lk) : fs_A), ⟨Lh0, Lr0, Lk0, eh, er, ek, f1⟩, la_add (sp := (0, b0.toInt, b1.toInt, b0.toInt, a1.toInt, a2.toInt)) hsd hI hR (hsd.mp c.1.1) c.1.2 ho.1 (fun _ => ho.2) (by rw [la_s0 (show ¬ ((0, b0.toInt, b1.toInt, b0.toInt, a1.toInt, a2.toInt) : fm_S).1 = 3 from (by decide : ¬ (0 : Nat) = 3))]; exact hI.2.2.1.1.2.2) (by rw [la_s0 (show ¬ ((0, b0.toInt, b1.toInt, b0.toInt, a1.toInt, a2.toInt) : fm_S).1 = 3 from (by decide : ¬ (0 : Nat) = 3))]; exact hI.2.2.1.2) rfl rfl rfl rfl rfl rfl g1 q⟩
  · rw [if_neg c] at hw2
    rw [if_neg (fun z => c (hc.mp z))] at hw1
    exact ⟨hw1.1.trans hw2.1.symm, S, la_1 eh er ek hfp hw1.2, la_2 hsd hI hR hw2.2⟩
theorem st_fo {S : fs_A} {us md gi su : Nat} {X : List Int} {n : Nat} {b : Bool} (h : st_I S us md gi su X) (hn : 1 ≤ n ∧ n ≤ 4) : st_I ((S.sts, S.rs, S.fl, S.ps, S.cs, S.ca, S.cl, S.iw, S.ih, S.Lb, S.Lh, S.Lr, S.rm, n, b, S.Lk) : fs_A) us md gi su X := by
  obtain ⟨k, hrm, hok, hb, hx, hg, hl, hc, hf, h0⟩ := h
  exact ⟨⟨k.1, k.2.1, k.2.2.1, k.2.2.2.1, hn, k.2.2.2.2.2⟩, hrm, hok, hb, hx, hg, hl, hc, hf, h0⟩
theorem st_fi {S : fs_A} {us md gi su : Nat} {X : List Int} {n : Nat} {b : Bool} (h : st_I S us md gi su X) (hn : 1 ≤ n ∧ n ≤ 4) : st_I ((S.sts, S.rs, S.fl, S.ps, S.cs, S.ca, S.cl, n, b, S.Lb, S.Lh, S.Lr, S.rm, S.ow, S.oh, S.Lk) : fs_A) us md gi su X := by
  obtain ⟨k, hrm, hok, hb, hx, hg, hl, hc, hf, h0⟩ := h
  exact ⟨⟨k.1, k.2.1, k.2.2.1, hn, k.2.2.2.2.1, k.2.2.2.2.2⟩, hrm, hok, hb, hx, hg, hl, hc, hf, h0⟩
theorem la_format {r1 r2 : Int32} {cI cO : ClassId} {tE hx : Nat} {S : fs_A} {u1 v1 : va_W} {Lh0 Lr0 Lk0 : List Int32} (eh : Lh0.map Int32.toInt = S.Lh) (er : Lr0.map Int32.toInt = S.Lr) (ek : Lk0.map Int32.toInt = S.Lk) (hfp : fp_W cI cO tE hx S.sts S.rs S.fl S.ps S.cs S.ca S.cl S.iw S.ih S.Lb Lh0 Lr0 S.rm S.ow S.oh Lk0 u1) {h aK aN aB aS aL aX us md gi su : Nat} {sd : Bool} {fK fN fB fS fL fX : Nat → Int32} {X : List Int} {v2 : va_W} (hsd : sd = false ↔ S.ps = 0) (hI : st_I S us md gi su X) (hR : mo_R S us X fK fN fB fS fL) {x : Int32} {hb ob : Bool} (hw1 : if S.ps = 0 ∧ ¬ fo_w x = 0 then r1 = 1 ∧ (if ob = true then fp_W cI cO tE hx S.sts S.rs S.fl S.ps S.cs S.ca S.cl S.iw S.ih S.Lb Lh0 Lr0 S.rm (fo_w x) hb Lk0 v1 else fp_W cI cO tE hx S.sts S.rs S.fl S.ps S.cs S.ca S.cl (fo_w x) hb S.Lb Lh0 Lr0 S.rm S.ow S.oh Lk0 v1) else r1 = 0 ∧ v1 = u1) (hw2 : if sd = false ∧ ¬ fo_w x = 0 then r2 = 1 ∧ (if ob = true then v2 = [(h, .inr (12, [.int (nI S.rm), .int (fq_b sd), .int (nI S.sts.length), .ref aK, .ref aN, .int (nI S.iw), .int (nI (fo_w x)), .int (fq_b S.ih), .int (fq_b hb), .ref aB, .int (nI S.ca), .int (nI us), .int (fq_b S.cl), .int (fq_b S.fl), .ref aS, .int (nI X.length), .ref aL, .ref aX, .int (nI md), .int (nI gi), .int (nI su), .int (nI S.ps), .int (nI S.cs)])), (aK, .inl (cI, 5, .inl fK)), (aN, .inl (cI, 25, .inl fN)), (aB, .inl (cI, 120, .inl fB)), (aS, .inl (cI, 120, .inl fS)), (aL, .inl (cI, 2300, .inl fL)), (aX, .inl (cI, 2300, .inl fX))] else v2 = [(h, .inr (12, [.int (nI S.rm), .int (fq_b sd), .int (nI S.sts.length), .ref aK, .ref aN, .int (nI (fo_w x)), .int (nI S.ow), .int (fq_b hb), .int (fq_b S.oh), .ref aB, .int (nI S.ca), .int (nI us), .int (fq_b S.cl), .int (fq_b S.fl), .ref aS, .int (nI X.length), .ref aL, .ref aX, .int (nI md), .int (nI gi), .int (nI su), .int (nI S.ps), .int (nI S.cs)])), (aK, .inl (cI, 5, .inl fK)), (aN, .inl (cI, 25, .inl fN)), (aB, .inl (cI, 120, .inl fB)), (aS, .inl (cI, 120, .inl fS)), (aL, .inl (cI, 2300, .inl fL)), (aX, .inl (cI, 2300, .inl fX))]) else r2 = 0 ∧ v2 = [(h, .inr (12, [.int (nI S.rm), .int (fq_b sd), .int (nI S.sts.length), .ref aK, .ref aN, .int (nI S.iw), .int (nI S.ow), .int (fq_b S.ih), .int (fq_b S.oh), .ref aB, .int (nI S.ca), .int (nI us), .int (fq_b S.cl), .int (fq_b S.fl), .ref aS, .int (nI X.length), .ref aL, .ref aX, .int (nI md), .int (nI gi), .int (nI su), .int (nI S.ps), .int (nI S.cs)])), (aK, .inl (cI, 5, .inl fK)), (aN, .inl (cI, 25, .inl fN)), (aB, .inl (cI, 120, .inl fB)), (aS, .inl (cI, 120, .inl fS)), (aL, .inl (cI, 2300, .inl fL)), (aX, .inl (cI, 2300, .inl fX))]) : r1 = r2 ∧ ∃ T, fp_X cI cO tE hx T v1 ∧ mo_X cI h T v2 := by
  have hc : (S.ps = 0 ∧ ¬ fo_w x = 0) ↔ (sd = false ∧ ¬ fo_w x = 0) := ⟨fun z => ⟨hsd.mpr z.1, z.2⟩, fun z => ⟨hsd.mp z.1, z.2⟩⟩
  by_cases c : sd = false ∧ ¬ fo_w x = 0
  · rw [if_pos c] at hw2
    rw [if_pos (hc.mpr c)] at hw1
    obtain ⟨e1, f1⟩ := hw1
    obtain ⟨e2, f2⟩ := hw2
    by_cases d : ob = true
    · rw [if_pos d] at f1 f2
      exact ⟨e1.trans e2.symm, ((S.sts, S.rs, S.fl, S.ps, S.cs, S.ca, S.cl, S.iw, S.ih, S.Lb, S.Lh, S.Lr, S.rm, fo_w x, hb, S.Lk) : fs_A), ⟨Lh0, Lr0, Lk0, eh, er, ek, f1⟩, ⟨aK, aN, aB, aS, aL, aX, us, md, gi, su, sd, fK, fN, fB, fS, fL, fX, X, f2, hsd, st_fo hI (fo_b c.2), hR⟩⟩
    · rw [if_neg d] at f1 f2
      exact ⟨e1.trans e2.symm, ((S.sts, S.rs, S.fl, S.ps, S.cs, S.ca, S.cl, fo_w x, hb, S.Lb, S.Lh, S.Lr, S.rm, S.ow, S.oh, S.Lk) : fs_A), ⟨Lh0, Lr0, Lk0, eh, er, ek, f1⟩, ⟨aK, aN, aB, aS, aL, aX, us, md, gi, su, sd, fK, fN, fB, fS, fL, fX, X, f2, hsd, st_fi hI (fo_b c.2), hR⟩⟩
  · rw [if_neg c] at hw2
    rw [if_neg (fun z => c (hc.mp z))] at hw1
    exact ⟨hw1.1.trans hw2.1.symm, S, la_1 eh er ek hfp hw1.2, la_2 hsd hI hR hw2.2⟩
theorem la_response {r1 r2 : Int32} {cI cO : ClassId} {tE hx : Nat} {S : fs_A} {u1 v1 : va_W} {Lh0 Lr0 Lk0 : List Int32} (eh : Lh0.map Int32.toInt = S.Lh) (er : Lr0.map Int32.toInt = S.Lr) (ek : Lk0.map Int32.toInt = S.Lk) (hfp : fp_W cI cO tE hx S.sts S.rs S.fl S.ps S.cs S.ca S.cl S.iw S.ih S.Lb Lh0 Lr0 S.rm S.ow S.oh Lk0 u1) {h aK aN aB aS aL aX us md gi su : Nat} {sd : Bool} {fK fN fB fS fL fX : Nat → Int32} {X : List Int} {v2 : va_W} (hsd : sd = false ↔ S.ps = 0) (hI : st_I S us md gi su X) (hR : mo_R S us X fK fN fB fS fL) {x y : Int32} (hw1 : v1 = u1 ∧ r1 = re_v S.sts x y) (hw2 : v2 = [(h, .inr (12, [.int (nI S.rm), .int (fq_b sd), .int (nI S.sts.length), .ref aK, .ref aN, .int (nI S.iw), .int (nI S.ow), .int (fq_b S.ih), .int (fq_b S.oh), .ref aB, .int (nI S.ca), .int (nI us), .int (fq_b S.cl), .int (fq_b S.fl), .ref aS, .int (nI X.length), .ref aL, .ref aX, .int (nI md), .int (nI gi), .int (nI su), .int (nI S.ps), .int (nI S.cs)])), (aK, .inl (cI, 5, .inl fK)), (aN, .inl (cI, 25, .inl fN)), (aB, .inl (cI, 120, .inl fB)), (aS, .inl (cI, 120, .inl fS)), (aL, .inl (cI, 2300, .inl fL)), (aX, .inl (cI, 2300, .inl fX))] ∧ r2 = rm_v (st_P S) x y) : r1 = r2 ∧ ∃ T, fp_X cI cO tE hx T v1 ∧ mo_X cI h T v2 := by
  exact ⟨by rw [hw1.2, hw2.2, rm_e], S, la_1 eh er ek hfp hw1.1, la_2 hsd hI hR hw2.1⟩
theorem la_state {r1 r2 : Int32} {cI cO : ClassId} {tE hx : Nat} {S : fs_A} {u1 v1 : va_W} {Lh0 Lr0 Lk0 : List Int32} (eh : Lh0.map Int32.toInt = S.Lh) (er : Lr0.map Int32.toInt = S.Lr) (ek : Lk0.map Int32.toInt = S.Lk) (hfp : fp_W cI cO tE hx S.sts S.rs S.fl S.ps S.cs S.ca S.cl S.iw S.ih S.Lb Lh0 Lr0 S.rm S.ow S.oh Lk0 u1) {h aK aN aB aS aL aX us md gi su : Nat} {sd : Bool} {fK fN fB fS fL fX : Nat → Int32} {X : List Int} {v2 : va_W} (hsd : sd = false ↔ S.ps = 0) (hI : st_I S us md gi su X) (hR : mo_R S us X fK fN fB fS fL)  (hw1 : v1 = u1 ∧ r1 = nI (S.ps + 4 * S.cs)) (hw2 : v2 = [(h, .inr (12, [.int (nI S.rm), .int (fq_b sd), .int (nI S.sts.length), .ref aK, .ref aN, .int (nI S.iw), .int (nI S.ow), .int (fq_b S.ih), .int (fq_b S.oh), .ref aB, .int (nI S.ca), .int (nI us), .int (fq_b S.cl), .int (fq_b S.fl), .ref aS, .int (nI X.length), .ref aL, .ref aX, .int (nI md), .int (nI gi), .int (nI su), .int (nI S.ps), .int (nI S.cs)])), (aK, .inl (cI, 5, .inl fK)), (aN, .inl (cI, 25, .inl fN)), (aB, .inl (cI, 120, .inl fB)), (aS, .inl (cI, 120, .inl fS)), (aL, .inl (cI, 2300, .inl fL)), (aX, .inl (cI, 2300, .inl fX))] ∧ r2 = nI (S.ps + 4 * S.cs)) : r1 = r2 ∧ ∃ T, fp_X cI cO tE hx T v1 ∧ mo_X cI h T v2 := by
  exact ⟨hw1.2.trans hw2.2.symm, S, la_1 eh er ek hfp hw1.1, la_2 hsd hI hR hw2.1⟩
theorem la_waiting {r1 r2 : Int32} {cI cO : ClassId} {tE hx : Nat} {S : fs_A} {u1 v1 : va_W} {Lh0 Lr0 Lk0 : List Int32} (eh : Lh0.map Int32.toInt = S.Lh) (er : Lr0.map Int32.toInt = S.Lr) (ek : Lk0.map Int32.toInt = S.Lk) (hfp : fp_W cI cO tE hx S.sts S.rs S.fl S.ps S.cs S.ca S.cl S.iw S.ih S.Lb Lh0 Lr0 S.rm S.ow S.oh Lk0 u1) {h aK aN aB aS aL aX us md gi su : Nat} {sd : Bool} {fK fN fB fS fL fX : Nat → Int32} {X : List Int} {v2 : va_W} (hsd : sd = false ↔ S.ps = 0) (hI : st_I S us md gi su X) (hR : mo_R S us X fK fN fB fS fL) {x : Int32} (hw1 : v1 = u1 ∧ r1 = wt_r x S.Lb.length Lh0.length Lr0.length Lk0.length) (hw2 : v2 = [(h, .inr (12, [.int (nI S.rm), .int (fq_b sd), .int (nI S.sts.length), .ref aK, .ref aN, .int (nI S.iw), .int (nI S.ow), .int (fq_b S.ih), .int (fq_b S.oh), .ref aB, .int (nI S.ca), .int (nI us), .int (fq_b S.cl), .int (fq_b S.fl), .ref aS, .int (nI X.length), .ref aL, .ref aX, .int (nI md), .int (nI gi), .int (nI su), .int (nI S.ps), .int (nI S.cs)])), (aK, .inl (cI, 5, .inl fK)), (aN, .inl (cI, 25, .inl fN)), (aB, .inl (cI, 120, .inl fB)), (aS, .inl (cI, 120, .inl fS)), (aL, .inl (cI, 2300, .inl fL)), (aX, .inl (cI, 2300, .inl fX))] ∧ r2 = wt_r x (S.ca - us) (md - gi) (gi - su) su) : r1 = r2 ∧ ∃ T, fp_X cI cO tE hx T v1 ∧ mo_X cI h T v2 := by
  exact ⟨by
    have k := st_kl hI
    rw [← ek, ← er, ← eh, List.length_map, List.length_map, List.length_map] at k
    rw [hw1.2, hw2.2, k.1, k.2.1, k.2.2, hI.2.2.2.1.2.2.1], S, la_1 eh er ek hfp hw1.1, la_2 hsd hI hR hw2.1⟩
theorem la_pw {S : fs_A} {us md gi su : Nat} {X : List Int} {fK fN fB fS fL : Nat → Int32} (hI : st_I S us md gi su X) (hR : mo_R S us X fK fN fB fS fL) : (pw_L fL su).map Int32.toInt = S.Lk := by
  have hl := hR.2.2.2
  have hk := hI.2.2.2.2.2.2.1.1
  have hg := hI.2.2.2.2.2.1
  rw [hk]
  apply List.ext_getElem?
  intro j
  rw [List.getElem?_map]
  unfold pw_L
  rw [List.getElem?_map]
  by_cases hj : j < su
  · rw [List.getElem?_range hj, List.getElem?_take_of_lt hj, List.getElem?_eq_getElem (show j < (st_Y S X).length by omega)]
    have e := hl.2 j (by omega)
    rw [List.getD_eq_getElem?_getD, List.getElem?_eq_getElem (show j < (st_Y S X).length by omega)] at e
    exact congrArg some e
  · rw [List.getElem?_eq_none (by rw [List.length_range]; omega), List.getElem?_eq_none (by rw [List.length_take]; omega)]; rfl
theorem la_pl {S : fs_A} {us md gi su : Nat} {X : List Int} {fK fN fB fS fL : Nat → Int32} {L : List Int32} (hI : st_I S us md gi su X) (hR : mo_R S us X fK fN fB fS fL) (e : L.map Int32.toInt = S.Lk) : L = pw_L fL su := by
  have h := e.trans (la_pw hI hR).symm
  exact (List.map_inj_right (fun a b z => Int32.toInt_inj.mp z)).mp h
theorem la_in {S : fs_A} {us md gi su : Nat} {X : List Int} {L : List Int32} (hI : st_I S us md gi su X) (e : L.map Int32.toInt = S.Lk) : ∀ v ∈ L, fm_in v.toInt := fun v hv => by
  have h : v.toInt ∈ S.Lk := by rw [← e]; exact List.mem_map_of_mem hv
  rw [hI.2.2.2.2.2.2.1.1] at h
  exact st_yi hI _ (List.mem_of_mem_take h)
theorem la_im {S : fs_A} {us md gi su : Nat} {X : List Int} {fK fN fB fS fL : Nat → Int32} (hI : st_I S us md gi su X) (hR : mo_R S us X fK fN fB fS fL) : ∀ j, j < su → fm_in (fL j).toInt := fun j hj => by
  have hg := hI.2.2.2.2.2.1
  rw [hR.2.2.2.2 j (by omega), List.getD_eq_getElem?_getD, List.getElem?_eq_getElem (show j < (st_Y S X).length by omega)]
  exact st_yi hI _ (List.getElem_mem _)
theorem la_su {S : fs_A} {us md gi su : Nat} {X : List Int} (hI : st_I S us md gi su X) : su ≤ 2300 := by
  have hg := hI.2.2.2.2.2.1
  have := st_yl hI
  omega
theorem la_sinkByte {r1 r2 : Int32} {cI cO : ClassId} {tE hx : Nat} {S : fs_A} {u1 v1 : va_W} {Lh0 Lr0 Lk0 : List Int32} (eh : Lh0.map Int32.toInt = S.Lh) (er : Lr0.map Int32.toInt = S.Lr) (ek : Lk0.map Int32.toInt = S.Lk) (hfp : fp_W cI cO tE hx S.sts S.rs S.fl S.ps S.cs S.ca S.cl S.iw S.ih S.Lb Lh0 Lr0 S.rm S.ow S.oh Lk0 u1) {h aK aN aB aS aL aX us md gi su : Nat} {sd : Bool} {fK fN fB fS fL fX : Nat → Int32} {X : List Int} {v2 : va_W} (hsd : sd = false ↔ S.ps = 0) (hI : st_I S us md gi su X) (hR : mo_R S us X fK fN fB fS fL) {x : Int32} (hw1 : v1 = u1 ∧ r1.toInt = sk_b S.ow S.oh (Lk0.map Int32.toInt) x) (hw2 : v2 = [(h, .inr (12, [.int (nI S.rm), .int (fq_b sd), .int (nI S.sts.length), .ref aK, .ref aN, .int (nI S.iw), .int (nI S.ow), .int (fq_b S.ih), .int (fq_b S.oh), .ref aB, .int (nI S.ca), .int (nI us), .int (fq_b S.cl), .int (fq_b S.fl), .ref aS, .int (nI X.length), .ref aL, .ref aX, .int (nI md), .int (nI gi), .int (nI su), .int (nI S.ps), .int (nI S.cs)])), (aK, .inl (cI, 5, .inl fK)), (aN, .inl (cI, 25, .inl fN)), (aB, .inl (cI, 120, .inl fB)), (aS, .inl (cI, 120, .inl fS)), (aL, .inl (cI, 2300, .inl fL)), (aX, .inl (cI, 2300, .inl fX))] ∧ r2.toInt = sk_b S.ow S.oh ((pw_L fL su).map Int32.toInt) x) : r1 = r2 ∧ ∃ T, fp_X cI cO tE hx T v1 ∧ mo_X cI h T v2 := by
  exact ⟨Int32.toInt_inj.mp (by rw [hw1.2, hw2.2, ek, la_pw hI hR]), S, la_1 eh er ek hfp hw1.1, la_2 hsd hI hR hw2.1⟩
theorem la_power {r1 r2 : Int64} {cI cO : ClassId} {tE hx : Nat} {S : fs_A} {u1 v1 : va_W} {Lh0 Lr0 Lk0 : List Int32} (eh : Lh0.map Int32.toInt = S.Lh) (er : Lr0.map Int32.toInt = S.Lr) (ek : Lk0.map Int32.toInt = S.Lk) (hfp : fp_W cI cO tE hx S.sts S.rs S.fl S.ps S.cs S.ca S.cl S.iw S.ih S.Lb Lh0 Lr0 S.rm S.ow S.oh Lk0 u1) {h aK aN aB aS aL aX us md gi su : Nat} {sd : Bool} {fK fN fB fS fL fX : Nat → Int32} {X : List Int} {v2 : va_W} (hsd : sd = false ↔ S.ps = 0) (hI : st_I S us md gi su X) (hR : mo_R S us X fK fN fB fS fL) {x : Int32} (hw1 : v1 = u1 ∧ r1 = if x < 0 ∨ 4 < x then -1 else tn_r (2 - x).toInt64 Lk0) (hw2 : v2 = [(h, .inr (12, [.int (nI S.rm), .int (fq_b sd), .int (nI S.sts.length), .ref aK, .ref aN, .int (nI S.iw), .int (nI S.ow), .int (fq_b S.ih), .int (fq_b S.oh), .ref aB, .int (nI S.ca), .int (nI us), .int (fq_b S.cl), .int (fq_b S.fl), .ref aS, .int (nI X.length), .ref aL, .ref aX, .int (nI md), .int (nI gi), .int (nI su), .int (nI S.ps), .int (nI S.cs)])), (aK, .inl (cI, 5, .inl fK)), (aN, .inl (cI, 25, .inl fN)), (aB, .inl (cI, 120, .inl fB)), (aS, .inl (cI, 120, .inl fS)), (aL, .inl (cI, 2300, .inl fL)), (aX, .inl (cI, 2300, .inl fX))] ∧ r2 = if x < 0 ∨ 4 < x then -1 else tn_r (2 - x).toInt64 (pw_L fL su)) : r1 = r2 ∧ ∃ T, fp_X cI cO tE hx T v1 ∧ mo_X cI h T v2 := by
  exact ⟨by rw [hw1.2, hw2.2, la_pl hI hR ek], S, la_1 eh er ek hfp hw1.1, la_2 hsd hI hR hw2.1⟩
theorem la_start {r1 r2 : Int32} {cI cO : ClassId} {tE hx : Nat} {S : fs_A} {u1 v1 : va_W} {Lh0 Lr0 Lk0 : List Int32} (eh : Lh0.map Int32.toInt = S.Lh) (er : Lr0.map Int32.toInt = S.Lr) (ek : Lk0.map Int32.toInt = S.Lk) (hfp : fp_W cI cO tE hx S.sts S.rs S.fl S.ps S.cs S.ca S.cl S.iw S.ih S.Lb Lh0 Lr0 S.rm S.ow S.oh Lk0 u1) {h aK aN aB aS aL aX us md gi su : Nat} {sd : Bool} {fK fN fB fS fL fX : Nat → Int32} {X : List Int} {v2 : va_W} (hsd : sd = false ↔ S.ps = 0) (hI : st_I S us md gi su X) (hR : mo_R S us X fK fN fB fS fL)  (hw1 : if S.ps = 0 then r1 = 1 ∧ fp_W cI cO tE hx (S.sts.map fc_0) S.rs false 1 1 0 false S.iw S.ih ([]) ([]) ([]) S.rm S.ow S.oh ([]) v1 else r1 = 0 ∧ v1 = u1) (hw2 : if sd = true then r2 = 0 ∧ v2 = [(h, .inr (12, [.int (nI S.rm), .int (fq_b sd), .int (nI S.sts.length), .ref aK, .ref aN, .int (nI S.iw), .int (nI S.ow), .int (fq_b S.ih), .int (fq_b S.oh), .ref aB, .int (nI S.ca), .int (nI us), .int (fq_b S.cl), .int (fq_b S.fl), .ref aS, .int (nI X.length), .ref aL, .ref aX, .int (nI md), .int (nI gi), .int (nI su), .int (nI S.ps), .int (nI S.cs)])), (aK, .inl (cI, 5, .inl fK)), (aN, .inl (cI, 25, .inl fN)), (aB, .inl (cI, 120, .inl fB)), (aS, .inl (cI, 120, .inl fS)), (aL, .inl (cI, 2300, .inl fL)), (aX, .inl (cI, 2300, .inl fX))] else r2 = 1 ∧ v2 = [(h, .inr (12, [.int (nI S.rm), .int (fq_b true), .int (nI S.sts.length), .ref aK, .ref aN, .int (nI S.iw), .int (nI S.ow), .int (fq_b S.ih), .int (fq_b S.oh), .ref aB, .int (nI 0), .int (nI 0), .int (fq_b false), .int (fq_b false), .ref aS, .int (nI 0), .ref aL, .ref aX, .int (nI 0), .int (nI 0), .int (nI 0), .int (nI 1), .int (nI 1)])), (aK, .inl (cI, 5, .inl fK)), (aN, .inl (cI, 25, .inl fN)), (aB, .inl (cI, 120, .inl fB)), (aS, .inl (cI, 120, .inl fS)), (aL, .inl (cI, 2300, .inl fL)), (aX, .inl (cI, 2300, .inl fX))]) : r1 = r2 ∧ ∃ T, fp_X cI cO tE hx T v1 ∧ mo_X cI h T v2 := by
  by_cases c : S.ps = 0
  · rw [if_pos c] at hw1
    rw [if_neg (show ¬ sd = true by rw [hsd.mpr c]; decide)] at hw2
    exact ⟨hw1.1.trans hw2.1.symm, ((S.sts.map fc_0, S.rs, false, 1, 1, 0, false, S.iw, S.ih, [], [], [], S.rm, S.ow, S.oh, []) : fs_A), ⟨[], [], [], rfl, rfl, rfl, hw1.2⟩, la_beg hsd hI hR rfl hw2.2⟩
  · rw [if_neg c] at hw1
    rw [if_pos (show sd = true by cases sd with | true => rfl | false => exact absurd (hsd.mp rfl) c)] at hw2
    exact ⟨hw1.1.trans hw2.1.symm, S, la_1 eh er ek hfp hw1.2, la_2 hsd hI hR hw2.2⟩
theorem la_restart {r1 r2 : Int32} {cI cO : ClassId} {tE hx : Nat} {S : fs_A} {u1 v1 : va_W} {Lh0 Lr0 Lk0 : List Int32} (eh : Lh0.map Int32.toInt = S.Lh) (er : Lr0.map Int32.toInt = S.Lr) (ek : Lk0.map Int32.toInt = S.Lk) (hfp : fp_W cI cO tE hx S.sts S.rs S.fl S.ps S.cs S.ca S.cl S.iw S.ih S.Lb Lh0 Lr0 S.rm S.ow S.oh Lk0 u1) {h aK aN aB aS aL aX us md gi su : Nat} {sd : Bool} {fK fN fB fS fL fX : Nat → Int32} {X : List Int} {v2 : va_W} (hsd : sd = false ↔ S.ps = 0) (hI : st_I S us md gi su X) (hR : mo_R S us X fK fN fB fS fL)  (hw1 : if S.ps = 0 then r1 = 0 ∧ v1 = u1 else r1 = 1 ∧ fp_W cI cO tE hx (S.sts.map fc_0) S.rs false 1 1 0 false S.iw S.ih ([]) ([]) ([]) S.rm S.ow S.oh ([]) v1) (hw2 : if sd = true then r2 = 1 ∧ v2 = [(h, .inr (12, [.int (nI S.rm), .int (fq_b sd), .int (nI S.sts.length), .ref aK, .ref aN, .int (nI S.iw), .int (nI S.ow), .int (fq_b S.ih), .int (fq_b S.oh), .ref aB, .int (nI 0), .int (nI 0), .int (fq_b false), .int (fq_b false), .ref aS, .int (nI 0), .ref aL, .ref aX, .int (nI 0), .int (nI 0), .int (nI 0), .int (nI 1), .int (nI 1)])), (aK, .inl (cI, 5, .inl fK)), (aN, .inl (cI, 25, .inl fN)), (aB, .inl (cI, 120, .inl fB)), (aS, .inl (cI, 120, .inl fS)), (aL, .inl (cI, 2300, .inl fL)), (aX, .inl (cI, 2300, .inl fX))] else r2 = 0 ∧ v2 = [(h, .inr (12, [.int (nI S.rm), .int (fq_b sd), .int (nI S.sts.length), .ref aK, .ref aN, .int (nI S.iw), .int (nI S.ow), .int (fq_b S.ih), .int (fq_b S.oh), .ref aB, .int (nI S.ca), .int (nI us), .int (fq_b S.cl), .int (fq_b S.fl), .ref aS, .int (nI X.length), .ref aL, .ref aX, .int (nI md), .int (nI gi), .int (nI su), .int (nI S.ps), .int (nI S.cs)])), (aK, .inl (cI, 5, .inl fK)), (aN, .inl (cI, 25, .inl fN)), (aB, .inl (cI, 120, .inl fB)), (aS, .inl (cI, 120, .inl fS)), (aL, .inl (cI, 2300, .inl fL)), (aX, .inl (cI, 2300, .inl fX))]) : r1 = r2 ∧ ∃ T, fp_X cI cO tE hx T v1 ∧ mo_X cI h T v2 := by
  by_cases c : S.ps = 0
  · rw [if_pos c] at hw1
    rw [if_neg (show ¬ sd = true by rw [hsd.mpr c]; decide)] at hw2
    exact ⟨hw1.1.trans hw2.1.symm, S, la_1 eh er ek hfp hw1.2, la_2 hsd hI hR hw2.2⟩
  · rw [if_neg c] at hw1
    have hd : sd = true := by cases sd with | true => rfl | false => exact absurd (hsd.mp rfl) c
    rw [if_pos hd] at hw2
    exact ⟨hw1.1.trans hw2.1.symm, ((S.sts.map fc_0, S.rs, false, 1, 1, 0, false, S.iw, S.ih, [], [], [], S.rm, S.ow, S.oh, []) : fs_A), ⟨[], [], [], rfl, rfl, rfl, hw1.2⟩, la_beg hsd hI hR hd hw2.2⟩
theorem st_by {S : fs_A} {us md gi su : Nat} {X : List Int} {fB : Nat → Int32} {y : Int32} {n : Nat} (h : st_I S us md gi su X) (hB : ∀ k, k < S.Lb.length → fB (us + k) = S.Lb.getD k 0) (hps : ¬ S.ps = 0) (hcl : S.cl = false) (hn : S.ca + n ≤ 120) : st_I ((S.sts, S.rs, S.fl, S.ps, S.cs, S.ca + n, S.cl, S.iw, S.ih, by_L S.Lb y n, S.Lh, S.Lr, S.rm, S.ow, S.oh, S.Lk) : fs_A) us md gi su X ∧ ∀ k, k < (by_L S.Lb y n).length → bs_F fB S.ca y n (us + k) = (by_L S.Lb y n).getD k 0 := by
  obtain ⟨k, hrm, hok, hb, hx, hg, hl, hc, hf, h0⟩ := h
  have q := bs_L (y := y) hb.1 hb.2.2.1 hB hn
  refine ⟨⟨⟨k.1, k.2.1, hn, k.2.2.2⟩, hrm, hok, ⟨Nat.le_trans hb.1 (Nat.le_add_right _ _), hb.2.1, q.1, bs_by hb.2.2.2⟩, hx, hg, hl, hc, fun z => ?_, fun z => absurd z hps⟩, q.2⟩
  have := (hf z).2
  rw [hcl] at this
  exact absurd this (by decide)
theorem la_bytes {r1 r2 : Int32} {cI cO : ClassId} {tE hx : Nat} {S : fs_A} {u1 v1 : va_W} {Lh0 Lr0 Lk0 : List Int32} (eh : Lh0.map Int32.toInt = S.Lh) (er : Lr0.map Int32.toInt = S.Lr) (ek : Lk0.map Int32.toInt = S.Lk) (hfp : fp_W cI cO tE hx S.sts S.rs S.fl S.ps S.cs S.ca S.cl S.iw S.ih S.Lb Lh0 Lr0 S.rm S.ow S.oh Lk0 u1) {h aK aN aB aS aL aX us md gi su : Nat} {sd : Bool} {fK fN fB fS fL fX : Nat → Int32} {X : List Int} {v2 : va_W} (hsd : sd = false ↔ S.ps = 0) (hI : st_I S us md gi su X) (hR : mo_R S us X fK fN fB fS fL) {xn y : Int32} (hw1 : if ¬ S.ps = 0 ∧ (1 ≤ xn.toInt ∧ xn.toInt ≤ 4) ∧ S.cl = false ∧ S.ca + xn.toInt.toNat ≤ 120 then r1 = xn ∧ fp_W cI cO tE hx S.sts S.rs S.fl S.ps S.cs (S.ca + xn.toInt.toNat) S.cl S.iw S.ih (by_L S.Lb y xn.toInt.toNat) Lh0 Lr0 S.rm S.ow S.oh Lk0 v1 else r1 = 0 ∧ v1 = u1) (hw2 : if sd = true ∧ S.cl = false ∧ (1 ≤ xn.toInt ∧ xn.toInt ≤ 4) ∧ S.ca + xn.toInt.toNat ≤ 120 then r2 = xn ∧ v2 = [(h, .inr (12, [.int (nI S.rm), .int (fq_b sd), .int (nI S.sts.length), .ref aK, .ref aN, .int (nI S.iw), .int (nI S.ow), .int (fq_b S.ih), .int (fq_b S.oh), .ref aB, .int (nI (S.ca + xn.toInt.toNat)), .int (nI us), .int (fq_b S.cl), .int (fq_b S.fl), .ref aS, .int (nI X.length), .ref aL, .ref aX, .int (nI md), .int (nI gi), .int (nI su), .int (nI S.ps), .int (nI S.cs)])), (aK, .inl (cI, 5, .inl fK)), (aN, .inl (cI, 25, .inl fN)), (aB, .inl (cI, 120, .inl (bs_F fB S.ca y xn.toInt.toNat))), (aS, .inl (cI, 120, .inl fS)), (aL, .inl (cI, 2300, .inl fL)), (aX, .inl (cI, 2300, .inl fX))] else r2 = 0 ∧ v2 = [(h, .inr (12, [.int (nI S.rm), .int (fq_b sd), .int (nI S.sts.length), .ref aK, .ref aN, .int (nI S.iw), .int (nI S.ow), .int (fq_b S.ih), .int (fq_b S.oh), .ref aB, .int (nI S.ca), .int (nI us), .int (fq_b S.cl), .int (fq_b S.fl), .ref aS, .int (nI X.length), .ref aL, .ref aX, .int (nI md), .int (nI gi), .int (nI su), .int (nI S.ps), .int (nI S.cs)])), (aK, .inl (cI, 5, .inl fK)), (aN, .inl (cI, 25, .inl fN)), (aB, .inl (cI, 120, .inl fB)), (aS, .inl (cI, 120, .inl fS)), (aL, .inl (cI, 2300, .inl fL)), (aX, .inl (cI, 2300, .inl fX))]) : r1 = r2 ∧ ∃ T, fp_X cI cO tE hx T v1 ∧ mo_X cI h T v2 := by
  have hc : (¬ S.ps = 0 ∧ (1 ≤ xn.toInt ∧ xn.toInt ≤ 4) ∧ S.cl = false ∧ S.ca + xn.toInt.toNat ≤ 120) ↔ (sd = true ∧ S.cl = false ∧ (1 ≤ xn.toInt ∧ xn.toInt ≤ 4) ∧ S.ca + xn.toInt.toNat ≤ 120) := ⟨fun z => ⟨by cases sd with | true => rfl | false => exact absurd (hsd.mp rfl) z.1, z.2.2.1, z.2.1, z.2.2.2⟩, fun z => ⟨fun e => by rw [hsd.mpr e] at z; exact absurd z.1 (by decide), z.2.2.1, z.2.1, z.2.2.2⟩⟩
  by_cases c : sd = true ∧ S.cl = false ∧ (1 ≤ xn.toInt ∧ xn.toInt ≤ 4) ∧ S.ca + xn.toInt.toNat ≤ 120
  · rw [if_pos c] at hw2
    rw [if_pos (hc.mpr c)] at hw1
    have hb := st_by (y := y) (n := xn.toInt.toNat) hI hR.2.1 (hc.mpr c).1 c.2.1 c.2.2.2
    exact ⟨hw1.1.trans hw2.1.symm, ((S.sts, S.rs, S.fl, S.ps, S.cs, S.ca + xn.toInt.toNat, S.cl, S.iw, S.ih, by_L S.Lb y xn.toInt.toNat, S.Lh, S.Lr, S.rm, S.ow, S.oh, S.Lk) : fs_A), ⟨Lh0, Lr0, Lk0, eh, er, ek, hw1.2⟩, ⟨aK, aN, aB, aS, aL, aX, us, md, gi, su, sd, fK, fN, bs_F fB S.ca y xn.toInt.toNat, fS, fL, fX, X, hw2.2, hsd, hb.1, hR.1, hb.2, hR.2.2.1, hR.2.2.2⟩⟩
  · rw [if_neg c] at hw2
    rw [if_neg (fun z => c (hc.mp z))] at hw1
    exact ⟨hw1.1.trans hw2.1.symm, S, la_1 eh er ek hfp hw1.2, la_2 hsd hI hR hw2.2⟩
theorem st_cl {S : fs_A} {us md gi su : Nat} {X : List Int} (h : st_I S us md gi su X) (hps : ¬ S.ps = 0) : st_I ((S.sts, S.rs, S.fl, S.ps, S.cs, S.ca, true, S.iw, S.ih, S.Lb, S.Lh, S.Lr, S.rm, S.ow, S.oh, S.Lk) : fs_A) us md gi su X := by
  obtain ⟨k, hrm, hok, hb, hx, hg, hl, hc, hf, h0⟩ := h
  exact ⟨k, hrm, hok, hb, hx, hg, hl, hc, fun z => ⟨(hf z).1, rfl⟩, fun z => absurd z hps⟩
theorem la_close {r1 r2 : Int32} {cI cO : ClassId} {tE hx : Nat} {S : fs_A} {u1 v1 : va_W} {Lh0 Lr0 Lk0 : List Int32} (eh : Lh0.map Int32.toInt = S.Lh) (er : Lr0.map Int32.toInt = S.Lr) (ek : Lk0.map Int32.toInt = S.Lk) (hfp : fp_W cI cO tE hx S.sts S.rs S.fl S.ps S.cs S.ca S.cl S.iw S.ih S.Lb Lh0 Lr0 S.rm S.ow S.oh Lk0 u1) {h aK aN aB aS aL aX us md gi su : Nat} {sd : Bool} {fK fN fB fS fL fX : Nat → Int32} {X : List Int} {v2 : va_W} (hsd : sd = false ↔ S.ps = 0) (hI : st_I S us md gi su X) (hR : mo_R S us X fK fN fB fS fL)  (hw1 : if S.ps = 0 ∨ S.cl = true then r1 = 0 ∧ v1 = u1 else r1 = 1 ∧ fp_W cI cO tE hx S.sts S.rs S.fl S.ps S.cs S.ca true S.iw S.ih S.Lb Lh0 Lr0 S.rm S.ow S.oh Lk0 v1) (hw2 : if sd = false ∨ S.cl = true then r2 = 0 ∧ v2 = [(h, .inr (12, [.int (nI S.rm), .int (fq_b sd), .int (nI S.sts.length), .ref aK, .ref aN, .int (nI S.iw), .int (nI S.ow), .int (fq_b S.ih), .int (fq_b S.oh), .ref aB, .int (nI S.ca), .int (nI us), .int (fq_b S.cl), .int (fq_b S.fl), .ref aS, .int (nI X.length), .ref aL, .ref aX, .int (nI md), .int (nI gi), .int (nI su), .int (nI S.ps), .int (nI S.cs)])), (aK, .inl (cI, 5, .inl fK)), (aN, .inl (cI, 25, .inl fN)), (aB, .inl (cI, 120, .inl fB)), (aS, .inl (cI, 120, .inl fS)), (aL, .inl (cI, 2300, .inl fL)), (aX, .inl (cI, 2300, .inl fX))] else r2 = 1 ∧ v2 = [(h, .inr (12, [.int (nI S.rm), .int (fq_b sd), .int (nI S.sts.length), .ref aK, .ref aN, .int (nI S.iw), .int (nI S.ow), .int (fq_b S.ih), .int (fq_b S.oh), .ref aB, .int (nI S.ca), .int (nI us), .int (fq_b true), .int (fq_b S.fl), .ref aS, .int (nI X.length), .ref aL, .ref aX, .int (nI md), .int (nI gi), .int (nI su), .int (nI S.ps), .int (nI S.cs)])), (aK, .inl (cI, 5, .inl fK)), (aN, .inl (cI, 25, .inl fN)), (aB, .inl (cI, 120, .inl fB)), (aS, .inl (cI, 120, .inl fS)), (aL, .inl (cI, 2300, .inl fL)), (aX, .inl (cI, 2300, .inl fX))]) : r1 = r2 ∧ ∃ T, fp_X cI cO tE hx T v1 ∧ mo_X cI h T v2 := by
  have hc : (S.ps = 0 ∨ S.cl = true) ↔ (sd = false ∨ S.cl = true) := ⟨fun z => z.elim (fun e => Or.inl (hsd.mpr e)) Or.inr, fun z => z.elim (fun e => Or.inl (hsd.mp e)) Or.inr⟩
  by_cases c : sd = false ∨ S.cl = true
  · rw [if_pos c] at hw2
    rw [if_pos (hc.mpr c)] at hw1
    exact ⟨hw1.1.trans hw2.1.symm, S, la_1 eh er ek hfp hw1.2, la_2 hsd hI hR hw2.2⟩
  · rw [if_neg c] at hw2
    rw [if_neg (fun z => c (hc.mp z))] at hw1
    exact ⟨hw1.1.trans hw2.1.symm, ((S.sts, S.rs, S.fl, S.ps, S.cs, S.ca, true, S.iw, S.ih, S.Lb, S.Lh, S.Lr, S.rm, S.ow, S.oh, S.Lk) : fs_A), ⟨Lh0, Lr0, Lk0, eh, er, ek, hw1.2⟩, ⟨aK, aN, aB, aS, aL, aX, us, md, gi, su, sd, fK, fN, fB, fS, fL, fX, X, hw2.2, hsd, st_cl hI (fun e => c (Or.inl (hsd.mpr e))), hR⟩⟩
theorem st_ip {S : fs_A} {us md gi su : Nat} {X : List Int} (h : st_I S us md gi su X) : st_I ((S.sts, S.rs, S.fl, 3, S.cs, S.ca, S.cl, S.iw, S.ih, S.Lb, [], S.Lr, S.rm, S.ow, S.oh, S.Lk) : fs_A) us gi gi su X := by
  obtain ⟨hn, hrm, hok, hb, hx, hg, hl, hc, hf, h0⟩ := h
  refine ⟨⟨by show 3 ≤ 3; decide, hn.2⟩, hrm, hok, hb, hx, ⟨hg.1, Nat.le_refl _, Nat.le_trans hg.2.1 hg.2.2.1, hg.2.2.2.1, fun z => absurd z (show ¬ 3 = 1 by decide)⟩, ⟨hl.1, hl.2.1, ?_⟩, hc, hf, fun z => absurd z (show ¬ 3 = 0 by decide)⟩
  exact (List.drop_eq_nil_of_le (by rw [List.length_take]; omega)).symm
theorem st_ic {S : fs_A} {us md gi su : Nat} {X : List Int} (h : st_I S us md gi su X) (h1 : S.cs = 1) : st_I ((S.sts, S.rs, S.fl, S.ps, 3, S.ca, S.cl, S.iw, S.ih, S.Lb, S.Lh, S.Lr, S.rm, S.ow, S.oh, S.Lk) : fs_A) us md gi su X := by
  obtain ⟨hn, hrm, hok, hb, hx, hg, hl, hc, hf, h0⟩ := h
  exact ⟨⟨hn.1, by show 3 ≤ 3; decide, hn.2.2⟩, hrm, hok, hb, hx, hg, hl, hc, hf, fun z => absurd (h1.symm.trans (h0 z).2.2.2.2) (by decide)⟩
theorem la_interrupt {r1 r2 : Int32} {cI cO : ClassId} {tE hx : Nat} {S : fs_A} {u1 v1 : va_W} {Lh0 Lr0 Lk0 : List Int32} (eh : Lh0.map Int32.toInt = S.Lh) (er : Lr0.map Int32.toInt = S.Lr) (ek : Lk0.map Int32.toInt = S.Lk) (hfp : fp_W cI cO tE hx S.sts S.rs S.fl S.ps S.cs S.ca S.cl S.iw S.ih S.Lb Lh0 Lr0 S.rm S.ow S.oh Lk0 u1) {h aK aN aB aS aL aX us md gi su : Nat} {sd : Bool} {fK fN fB fS fL fX : Nat → Int32} {X : List Int} {v2 : va_W} (hsd : sd = false ↔ S.ps = 0) (hI : st_I S us md gi su X) (hR : mo_R S us X fK fN fB fS fL) {bb : Bool} (hw1 : if (if bb = true then S.ps else S.cs) = 1 then r1 = 1 ∧ (if bb = true then fp_W cI cO tE hx S.sts S.rs S.fl 3 S.cs S.ca S.cl S.iw S.ih S.Lb ([]) Lr0 S.rm S.ow S.oh Lk0 v1 else fp_W cI cO tE hx S.sts S.rs S.fl S.ps 3 S.ca S.cl S.iw S.ih S.Lb Lh0 Lr0 S.rm S.ow S.oh Lk0 v1) else r1 = 0 ∧ v1 = u1) (hw2 : if (if bb = true then S.ps else S.cs) = 1 then r2 = 1 ∧ (if bb = true then v2 = [(h, .inr (12, [.int (nI S.rm), .int (fq_b sd), .int (nI S.sts.length), .ref aK, .ref aN, .int (nI S.iw), .int (nI S.ow), .int (fq_b S.ih), .int (fq_b S.oh), .ref aB, .int (nI S.ca), .int (nI us), .int (fq_b S.cl), .int (fq_b S.fl), .ref aS, .int (nI X.length), .ref aL, .ref aX, .int (nI gi), .int (nI gi), .int (nI su), .int (nI 3), .int (nI S.cs)])), (aK, .inl (cI, 5, .inl fK)), (aN, .inl (cI, 25, .inl fN)), (aB, .inl (cI, 120, .inl fB)), (aS, .inl (cI, 120, .inl fS)), (aL, .inl (cI, 2300, .inl fL)), (aX, .inl (cI, 2300, .inl fX))] else v2 = [(h, .inr (12, [.int (nI S.rm), .int (fq_b sd), .int (nI S.sts.length), .ref aK, .ref aN, .int (nI S.iw), .int (nI S.ow), .int (fq_b S.ih), .int (fq_b S.oh), .ref aB, .int (nI S.ca), .int (nI us), .int (fq_b S.cl), .int (fq_b S.fl), .ref aS, .int (nI X.length), .ref aL, .ref aX, .int (nI md), .int (nI gi), .int (nI su), .int (nI S.ps), .int (nI 3)])), (aK, .inl (cI, 5, .inl fK)), (aN, .inl (cI, 25, .inl fN)), (aB, .inl (cI, 120, .inl fB)), (aS, .inl (cI, 120, .inl fS)), (aL, .inl (cI, 2300, .inl fL)), (aX, .inl (cI, 2300, .inl fX))]) else r2 = 0 ∧ v2 = [(h, .inr (12, [.int (nI S.rm), .int (fq_b sd), .int (nI S.sts.length), .ref aK, .ref aN, .int (nI S.iw), .int (nI S.ow), .int (fq_b S.ih), .int (fq_b S.oh), .ref aB, .int (nI S.ca), .int (nI us), .int (fq_b S.cl), .int (fq_b S.fl), .ref aS, .int (nI X.length), .ref aL, .ref aX, .int (nI md), .int (nI gi), .int (nI su), .int (nI S.ps), .int (nI S.cs)])), (aK, .inl (cI, 5, .inl fK)), (aN, .inl (cI, 25, .inl fN)), (aB, .inl (cI, 120, .inl fB)), (aS, .inl (cI, 120, .inl fS)), (aL, .inl (cI, 2300, .inl fL)), (aX, .inl (cI, 2300, .inl fX))]) : r1 = r2 ∧ ∃ T, fp_X cI cO tE hx T v1 ∧ mo_X cI h T v2 := by
  by_cases c : (if bb = true then S.ps else S.cs) = 1
  · rw [if_pos c] at hw1 hw2
    obtain ⟨e1, f1⟩ := hw1
    obtain ⟨e2, f2⟩ := hw2
    by_cases d : bb = true
    · rw [if_pos d] at f1 f2 c
      exact ⟨e1.trans e2.symm, ((S.sts, S.rs, S.fl, 3, S.cs, S.ca, S.cl, S.iw, S.ih, S.Lb, [], S.Lr, S.rm, S.ow, S.oh, S.Lk) : fs_A), ⟨[], Lr0, Lk0, rfl, er, ek, f1⟩, ⟨aK, aN, aB, aS, aL, aX, us, gi, gi, su, sd, fK, fN, fB, fS, fL, fX, X, f2, ⟨fun z => absurd (hsd.mp z) (by omega), fun z => absurd z (show ¬ (3 : Nat) = 0 by decide)⟩, st_ip hI, hR⟩⟩
    · rw [if_neg d] at f1 f2 c
      exact ⟨e1.trans e2.symm, ((S.sts, S.rs, S.fl, S.ps, 3, S.ca, S.cl, S.iw, S.ih, S.Lb, S.Lh, S.Lr, S.rm, S.ow, S.oh, S.Lk) : fs_A), ⟨Lh0, Lr0, Lk0, eh, er, ek, f1⟩, ⟨aK, aN, aB, aS, aL, aX, us, md, gi, su, sd, fK, fN, fB, fS, fL, fX, X, f2, hsd, st_ic hI c, hR⟩⟩
  · rw [if_neg c] at hw1 hw2
    exact ⟨hw1.1.trans hw2.1.symm, S, la_1 eh er ek hfp hw1.2, la_2 hsd hI hR hw2.2⟩
theorem la_produce {r1 r2 xn : Int32} {cI cO : ClassId} {tE hx h : Nat} {S : fs_A} {v1 v2 : va_W} (hJ : st_J S) (hw1 : ∃ (k : Nat) (T : fs_A), r1 = nI k ∧ k ≤ xn.toInt.toNat ∧ fs_go fs_P k S = some T ∧ fp_X cI cO tE hx T v1 ∧ st_J T ∧ (k = xn.toInt.toNat ∨ fs_P T = none)) (hw2 : ∃ (k : Nat) (T : fs_A), r2 = nI k ∧ k ≤ (mo_q xn).toInt.toNat ∧ fs_go fs_P k S = some T ∧ mo_X cI h T v2 ∧ (k = (mo_q xn).toInt.toNat ∨ fs_P T = none)) : r1 = r2 ∧ ∃ T, fp_X cI cO tE hx T v1 ∧ mo_X cI h T v2 := by
  obtain ⟨k1, T1, e1, a1, g1, x1, -, b1⟩ := hw1
  obtain ⟨k2, T2, e2, a2, g2, x2, b2⟩ := hw2
  rw [mo_qn] at a2 b2
  have hm := (st_go (m := st_m) (fun S T => st_Ps) hJ g1).2
  have hb := st_mb hJ
  obtain ⟨rfl, rfl⟩ := st_same g1 g2 a1 a2 b1 b2 (by omega)
  exact ⟨e1.trans e2.symm, T1, x1, x2⟩
theorem la_consume {r1 r2 xn : Int32} {cI cO : ClassId} {tE hx h : Nat} {S : fs_A} {v1 v2 : va_W} (hJ : st_J S) (hw1 : ∃ (k : Nat) (T : fs_A), r1 = nI k ∧ k ≤ xn.toInt.toNat ∧ fs_go fs_C k S = some T ∧ fp_X cI cO tE hx T v1 ∧ (k = xn.toInt.toNat ∨ fs_C T = none)) (hw2 : ∃ (k : Nat) (T : fs_A), r2 = nI k ∧ k ≤ (mo_q xn).toInt.toNat ∧ fs_go fs_C k S = some T ∧ mo_X cI h T v2 ∧ (k = (mo_q xn).toInt.toNat ∨ fs_C T = none)) : r1 = r2 ∧ ∃ T, fp_X cI cO tE hx T v1 ∧ mo_X cI h T v2 := by
  obtain ⟨k1, T1, e1, a1, g1, x1, b1⟩ := hw1
  obtain ⟨k2, T2, e2, a2, g2, x2, b2⟩ := hw2
  rw [mo_qn] at a2 b2
  have hm := (st_go (m := st_n) (fun S T => st_Cs) hJ g1).2
  have hb := st_mb hJ
  obtain ⟨rfl, rfl⟩ := st_same g1 g2 a1 a2 b1 b2 (by omega)
  exact ⟨e1.trans e2.symm, T1, x1, x2⟩
theorem la_new {cI cO : ClassId} {tE hx h : Nat} {x : Int32} {v1 v2 : va_W} (hw1 : fp_W cI cO tE hx [] 0 false 0 0 0 false 2 false [] [] [] (in_r x) 2 false [] v1) (hw2 : ∃ aK aN aB aS aL aX : Nat, v2 = [(h, .inr (12, [.int (nI (in_r x)), .int (fq_b false), .int (nI 0), .ref aK, .ref aN, .int (nI 2), .int (nI 2), .int (fq_b false), .int (fq_b false), .ref aB, .int (nI 0), .int (nI 0), .int (fq_b false), .int (fq_b false), .ref aS, .int (nI 0), .ref aL, .ref aX, .int (nI 0), .int (nI 0), .int (nI 0), .int (nI 0), .int (nI 0)])), (aK, .inl (cI, 5, .inl (fun _ => 0))), (aN, .inl (cI, 25, .inl (fun _ => 0))), (aB, .inl (cI, 120, .inl (fun _ => 0))), (aS, .inl (cI, 120, .inl (fun _ => 0))), (aL, .inl (cI, 2300, .inl (fun _ => 0))), (aX, .inl (cI, 2300, .inl (fun _ => 0)))]) : ∃ T, fp_X cI cO tE hx T v1 ∧ mo_X cI h T v2 := by
  obtain ⟨aK, aN, aB, aS, aL, aX, e⟩ := hw2
  refine ⟨(([], 0, false, 0, 0, 0, false, 2, false, [], [], [], in_r x, 2, false, []) : fs_A), ⟨[], [], [], rfl, rfl, rfl, hw1⟩, aK, aN, aB, aS, aL, aX, 0, 0, 0, 0, false, fun _ => 0, fun _ => 0, fun _ => 0, fun _ => 0, fun _ => 0, fun _ => 0, [], e, ⟨fun _ => rfl, fun _ => rfl⟩, ?_, ?_⟩
  · have h1 := in_0 x
    have h2 := in_12 x
    refine ⟨(show fp_n 0 0 0 2 2 ([] : List ch_T) from ⟨by decide, by decide, by decide, ⟨by decide, by decide⟩, ⟨by decide, by decide⟩, by decide⟩), ⟨h1, h2⟩, ⟨⟨fun sp hsp => absurd hsp List.not_mem_nil, Nat.zero_le _, Nat.zero_le _⟩, rfl⟩, ⟨Nat.le_refl _, Nat.le_refl _, rfl, fun x hx => absurd hx List.not_mem_nil⟩, fun x hx => absurd hx List.not_mem_nil, ⟨Nat.le_refl _, Nat.le_refl _, Nat.zero_le _, Nat.zero_le _, fun z => absurd z (show ¬ 0 = 1 by decide)⟩, ⟨rfl, rfl, rfl⟩, fun _ => ⟨rfl, fun j s _ hs => absurd (show ([] : List ch_T)[j]? = some s from hs) (by simp)⟩, fun z => absurd z (show ¬ false = true by decide), fun _ => ⟨rfl, rfl, rfl, rfl, rfl⟩⟩
  · exact ⟨fun k sp hsp => absurd (show ([] : List fm_S)[k]? = some sp from hsp) (by simp), fun k hk => absurd hk (Nat.not_lt_zero k), fun j hj => absurd hj (Nat.not_lt_zero j), Nat.zero_le _, fun j hj => absurd hj (Nat.not_lt_zero j)⟩


