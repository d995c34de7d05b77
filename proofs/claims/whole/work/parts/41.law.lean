theorem wd_25 : Cond.initialized cn_La ∈ fq_TB := fq_in 25 (by decide +kernel) rfl
theorem wd_49 : Cond.instantiable cn_FP 8 ∈ fq_TB := fq_in 49 (by decide +kernel) rfl
theorem wn_75 : Cond.laysStatic cn_AL "DEFAULTCAPACITY_EMPTY_ELEMENTDATA" "[Ljava/lang/Object;" ∈ lw_tbl := List.mem_of_getElem? (i := 75) (by decide +kernel)
theorem wn_324 : Cond.arrayOver (.object "java/lang/Object") ∈ lw_tbl := List.mem_of_getElem? (i := 324) (by decide +kernel)
theorem wd_762 : Cond.static my_La_cell ∈ fq_TB := fq_in 762 (by decide +kernel) rfl
theorem wd_763 : Cond.code my_La_cell cb_La_cell 2 (some .int) ∈ fq_TB := fq_in 763 (by decide +kernel) rfl
theorem wd_765 : Cond.instantiable cn_Mo 23 ∈ fq_TB := fq_in 765 (by decide +kernel) rfl

theorem dc_La_cell_0 : decode cb_La_cell 0 = .ok (.iload_n 1, 1) := by decide +kernel
theorem dc_La_cell_1 : decode cb_La_cell 1 = .ok (.aload_n 0, 1) := by decide +kernel
theorem dc_La_cell_2 : decode cb_La_cell 2 = .ok (.arraylength, 1) := by decide +kernel
theorem dc_La_cell_3 : decode cb_La_cell 3 = .ok (.if_icmp .ge 9, 3) := by decide +kernel
theorem dc_La_cell_6 : decode cb_La_cell 6 = .ok (.aload_n 0, 1) := by decide +kernel
theorem dc_La_cell_7 : decode cb_La_cell 7 = .ok (.iload_n 1, 1) := by decide +kernel
theorem dc_La_cell_8 : decode cb_La_cell 8 = .ok (.iaload, 1) := by decide +kernel
theorem dc_La_cell_9 : decode cb_La_cell 9 = .ok (.goto 4, 3) := by decide +kernel
theorem dc_La_cell_12 : decode cb_La_cell 12 = .ok (.iconst 0, 1) := by decide +kernel
theorem dc_La_cell_13 : decode cb_La_cell 13 = .ok (.ireturn, 1) := by decide +kernel
theorem yk_La_cell : fq_Y my_La_cell cb_La_cell 2 (some .int) 2 := ⟨wd_763, wd_25, by decide +kernel⟩

theorem la_D {s : State} {b : Nat} (hTB : ∀ w ∈ fq_TB, w.before #[Value.ref b] s = true) : ∃ D : va_G, ∀ (c : Nat) (q : vw_C), fq_cl[c]? = some q → u_Kn s q.1 q.2.1 q.2.2 (D.1 c) (D.2 c) := by
  have h : ∀ c : Nat, ∃ p : ClassId × (Nat → Nat), ∀ q : vw_C, fq_cl[c]? = some q → u_Kn s q.1 q.2.1 q.2.2 p.1 p.2 := by
    intro c
    by_cases hc : c < 13
    · have hcc : c = 0 ∨ c = 1 ∨ c = 2 ∨ c = 3 ∨ c = 4 ∨ c = 5 ∨ c = 6 ∨ c = 7 ∨ c = 8 ∨ c = 9 ∨ c = 10 ∨ c = 11 ∨ c = 12 := by omega
      rcases hcc with rfl | rfl | rfl | rfl | rfl | rfl | rfl | rfl | rfl | rfl | rfl | rfl | rfl
      · obtain ⟨cC, iS, h⟩ := u_known (ws := fq_TB) hTB cl_Row.2.1 (hTB _ wd_89)
        refine ⟨(cC, iS), fun q hq => ?_⟩
        obtain rfl : (cn_Row, ft_Row, 3) = q := Option.some.inj hq
        exact h
      · obtain ⟨cC, iS, h⟩ := u_known (ws := fq_TB) hTB cl_Recent.2.1 (hTB _ wd_378)
        refine ⟨(cC, iS), fun q hq => ?_⟩
        obtain rfl : (cn_Recent, ft_Recent, 2) = q := Option.some.inj hq
        exact h
      · obtain ⟨cC, iS, h⟩ := u_known (ws := fq_TB) hTB cl_Section.2.1 (hTB _ wd_233)
        refine ⟨(cC, iS), fun q hq => ?_⟩
        obtain rfl : (cn_Section, ft_Section, 10) = q := Option.some.inj hq
        exact h
      · obtain ⟨cC, iS, h⟩ := u_known (ws := fq_TB) hTB cl_Gain.2.1 (hTB _ wd_355)
        refine ⟨(cC, iS), fun q hq => ?_⟩
        obtain rfl : (cn_Gain, ft_Gain, 2) = q := Option.some.inj hq
        exact h
      · obtain ⟨cC, iS, h⟩ := u_known (ws := fq_TB) hTB cl_Window.2.1 (hTB _ wd_372)
        refine ⟨(cC, iS), fun q hq => ?_⟩
        obtain rfl : (cn_Window, ft_Window, 4) = q := Option.some.inj hq
        exact h
      · obtain ⟨cC, iS, h⟩ := u_known (ws := fq_TB) hTB cl_Resampler.2.1 (hTB _ wd_419)
        refine ⟨(cC, iS), fun q hq => ?_⟩
        obtain rfl : (cn_Resampler, ft_Resampler, 5) = q := Option.some.inj hq
        exact h
      · obtain ⟨cC, iS, h⟩ := u_known (ws := fq_TB) hTB cl_Chain.2.1 (hTB _ wd_57)
        refine ⟨(cC, iS), fun q hq => ?_⟩
        obtain rfl : (cn_Chain, ft_Chain, 3) = q := Option.some.inj hq
        exact h
      · obtain ⟨cC, iS, h⟩ := u_known (ws := fq_TB) hTB cl_Layout.2.1 (hTB _ wd_122)
        refine ⟨(cC, iS), fun q hq => ?_⟩
        obtain rfl : (cn_Layout, ft_Layout, 2) = q := Option.some.inj hq
        exact h
      · obtain ⟨cC, iS, h⟩ := u_known (ws := fq_TB) hTB cl_Source.2.1 (hTB _ wd_116)
        refine ⟨(cC, iS), fun q hq => ?_⟩
        obtain rfl : (cn_Source, ft_Source, 4) = q := Option.some.inj hq
        exact h
      · obtain ⟨cC, iS, h⟩ := u_known (ws := fq_TB) hTB cl_Sink.2.1 (hTB _ wd_157)
        refine ⟨(cC, iS), fun q hq => ?_⟩
        obtain rfl : (cn_Sink, ft_Sink, 2) = q := Option.some.inj hq
        exact h
      · obtain ⟨cC, iS, h⟩ := u_known (ws := fq_TB) hTB cl_FP.2.1 (hTB _ wd_49)
        refine ⟨(cC, iS), fun q hq => ?_⟩
        obtain rfl : (cn_FP, ft_FP, 8) = q := Option.some.inj hq
        exact h
      · obtain ⟨cC, iS, h⟩ := u_known (ws := fq_TB) hTB cl_AL.2.1 (hTB _ wd_63)
        refine ⟨(cC, iS), fun q hq => ?_⟩
        obtain rfl : (cn_AL, ft_AL, 3) = q := Option.some.inj hq
        exact h
      · obtain ⟨cC, iS, h⟩ := u_known (ws := fq_TB) hTB cl_Mo.2.1 (hTB _ wd_765)
        refine ⟨(cC, iS), fun q hq => ?_⟩
        obtain rfl : (cn_Mo, ft_Mo, 23) = q := Option.some.inj hq
        exact h
    · refine ⟨(s.vm.classes.size, fun _ => 0), fun q hq => ?_⟩
      rw [List.getElem?_eq_none (show fq_cl.length ≤ c from Nat.le_of_not_lt hc)] at hq
      cases hq
  obtain ⟨F, hF⟩ := Classical.axiomOfChoice h
  exact ⟨(fun c => (F c).1, fun c => (F c).2), fun c q hq => hF c q hq⟩
theorem la_K {s : State} {b : Nat} (hts : ∀ w ∈ lw_tbl, w.before #[Value.ref b] s = true) (hg : (Jvm.Cond.and given_1 narrow_1).before #[Value.ref b] s = true) : ∃ (D : va_G) (cI cO : ClassId), fq_K D cI cO s := by
  have hTB : ∀ w ∈ fq_TB, w.before #[Value.ref b] s = true := fun w h => hts w (List.mem_filter.mp h).1
  obtain ⟨D, hD⟩ := la_D hTB
  obtain ⟨cI, kI, cp, f1, f2, f3⟩ := Cond.arrayClass_spec (hTB _ wd_104)
  have hao := hts _ wn_324
  obtain ⟨comp, cO, kO, g1, g2, g3, g4, g5⟩ := Cond.arrayOver_spec hao
  have hfl := flat_of_before _ hg
  refine ⟨D, cI, cO, ⟨hD, fun k q hq => ?_⟩, fun w hw hk => va_Nw.of (fq_okw_tab hk) (hts w hw), va_Nc.of (hfl _ (by decide +kernel)), va_Nc.of (hfl _ (by decide +kernel)), va_Nc.of (hfl _ (by decide +kernel)), va_AO.of hao⟩
  have hk : k = 0 ∨ k = 1 ∨ 2 ≤ k := by omega
  rcases hk with rfl | rfl | hk
  · cases hq
    exact ⟨fun N z => ⟨(fun k h => by cases h), kI, f2, cp, f3⟩, f1⟩
  · cases hq
    exact ⟨fun N z => ⟨(fun k h => by cases h), kO, g3, comp, g4⟩, kO, comp, g3, g4, g1, g5⟩
  · rw [List.getElem?_eq_none (show ([(cI, FieldType.int), (cO, FieldType.object "java/lang/Object")] : List (ClassId × FieldType)).length ≤ k from hk)] at hq
    cases hq
theorem la_Z {s : State} {b : Nat} (hts : ∀ w ∈ lw_tbl, w.before #[Value.ref b] s = true) (hg : (Jvm.Cond.and given_1 narrow_1).before #[Value.ref b] s = true) : ∃ tE : Nat, fq_Z tE (fun q => s.heap.size ≤ q) s s.heap := by
  have hTB : ∀ w ∈ fq_TB, w.before #[Value.ref b] s = true := fun w h => hts w (List.mem_filter.mp h).1
  have hfl := flat_of_before _ hg
  have hA : ∀ a : Nat, a < s.heap.size → ¬ (fun q => s.heap.size ≤ q) a := fun a h z => absurd h (Nat.not_lt.mpr z)
  have harr : (Cond.arrayOf (.static "java/util/ArrayList" "DEFAULTCAPACITY_EMPTY_ELEMENTDATA" "[Ljava/lang/Object;") (.object "java/lang/Object")).before #[Value.ref b] s = true := hfl _ (by decide +kernel)
  have hlen : (Cond.eq (.length (.static "java/util/ArrayList" "DEFAULTCAPACITY_EMPTY_ELEMENTDATA" "[Ljava/lang/Object;")) (.int 0)).before #[Value.ref b] s = true := hfl _ (by decide +kernel)
  obtain ⟨t, ht, hT⟩ := va_Tof (N := 0) (f := fun _ => .null) (A := fun q => s.heap.size ≤ q) (by decide) harr (va_eqt hlen) (fun j hj => absurd hj (Nat.not_lt_zero j)) hA
  exact ⟨t, va_Zof (hts _ wn_75) (hTB _ wd_30) ht hA, hT⟩
/-! the law's first cell -/
def la_c (L : Nat) (xs : Nat → Int32) : Int32 := if L = 0 then 0 else xs 0
def la_Pre (D : va_G) (cI cO : ClassId) (tE b L : Nat) (xs : Nat → Int32) (sz : Nat) (U : State) : Prop := fq_Pre D cI cO tE sz [] U ∧ va_X b L xs U U.heap ∧ b < sz
theorem la_blind {D : va_G} {cI cO : ClassId} {tE b L : Nat} {xs : Nat → Int32} {sz : Nat} {av : List Value} : FrameBlind (va_Pc av (la_Pre D cI cO tE b L xs sz)) := by
  intro a U g mk q
  obtain ⟨q0, q1, q2, q3⟩ := q
  have z := fq_blind (av := av) (D := D) (cI := cI) (cO := cO) (tE := tE) (sz := sz) (wc := []) a U g mk ⟨q0, q1⟩
  exact ⟨z.1, z.2, va_X.moved (u := U) (U := U.calling g mk a) (Vm.Alike.refl U.vm) q2, q3⟩
set_option maxHeartbeats 4000000 in
theorem ct_La_cell (l : Launch) (D : va_G) (cI cO : ClassId) (tE b L : Nat) (xs : Nat → Int32) (hL : L < 2 ^ 31) (sz : Nat) : Met l my_La_cell (fq_w my_La_cell cb_La_cell 2 (some .int)) ({ frames := 0, cells := 0, slots := 0, locals := 0 }) (va_Pc [.ref b, .int 0] (la_Pre D cI cO tE b L xs sz)) (va_Qi (S := va_W) (fun r w => w = [] ∧ r = la_c L xs) (fq_Bw D (va_A [] sz)) (va_A [] sz)) 0 0 (va_A [] sz) := by
  refine va_MetF (cc := cb_La_cell) (maxL := 2) (ret := some .int) (by decide +kernel) rfl ?_
  intro pg ev s mt args below meth cd s₁ B hml hv
  obtain ⟨rfl, ⟨rfl, hP, hK, hD, hZ⟩, hX, hbl⟩ := hv
  have hts := atoms_spec (ws := fq_w my_La_cell cb_La_cell 2 (some .int)) B.pre
  have hown : s.vm.findClass my_La_cell.cls = some mt.cls := findClass_of_methodNamed B.named
  have hl := lv_entry [Value.ref b, .int 0] (n := 2) (Nat.le_of_ble_eq_true rfl)
  rw [lg_entry_eq]
  generalize (lg_sl [Value.ref b, .int 0] ++ List.replicate (2 - (lg_sl [Value.ref b, .int 0]).length) Slot.unset).toArray = ls at hl ⊢
  have K : fq_Ctx pg mt cd cb_La_cell 2 s [Value.ref b, .int 0].toArray cn_La := ⟨B.exec, B.bytes, hml, hown, fun w hw => hts w (List.mem_cons_of_mem _ hw)⟩
  have hret := B.returns
  have hlk := B.notSynchronized
  have hbA : ¬ va_A [] s.heap.size b := fun z => z.elim (fun ⟨k, e, h⟩ => by cases h) (fun z => absurd hbl (Nat.not_lt.mpr z))
  have hS : va_S (va_A [] s.heap.size) s.heap s.heap [] := va_S.rf
  have hD : va_D (va_A [] s.heap.size) [] := hD.self
  have hl : lv_has ls 2 [(0, .ref b), (1, .int 0)] := hl
  refine lv_iload_n K.1 K.2.1 dc_La_cell_0 rfl (lv_at hl 1 rfl) ?_
  refine lv_aload_n K.1 K.2.1 dc_La_cell_1 rfl (lv_at hl 0 rfl) ?_
  refine va_slen K.1 K.2.1 hX hbl hbA hS dc_La_cell_2 ?_
  refine lv_icmp_ge (tgt := 12) K.1 K.2.1 dc_La_cell_3 rfl (fun b3 => ?_) (fun b3 => ?_)
  · have h0 : L = 0 := by
      have z : nI L ≤ nI 0 := b3
      rw [nI_leI hL (by decide)] at z; omega
    refine lv_iconst (v := 0) K.1 K.2.1 dc_La_cell_12 (by decide) ?_
    exact fq_reti K hret hlk hS hP hD ⟨rfl, by unfold la_c; rw [if_pos h0]⟩ dc_La_cell_13 (Nat.le_refl _) (Nat.le_refl _)
  · have h0 : ¬ L = 0 := fun e => b3 (by rw [e]; decide)
    refine lv_aload_n K.1 K.2.1 dc_La_cell_6 rfl (lv_at hl 0 rfl) ?_
    refine lv_iload_n K.1 K.2.1 dc_La_cell_7 rfl (lv_at hl 1 rfl) ?_
    refine va_sld K.1 K.2.1 hX hbl hbA hS (vp_in_nI (n := 0) (show 0 < L by omega) hL) dc_La_cell_8 ?_
    refine lv_goto (tgt := 13) K.1 K.2.1 dc_La_cell_9 rfl ?_
    exact fq_reti K hret hlk hS hP hD ⟨rfl, by unfold la_c; rw [if_neg h0]; rfl⟩ dc_La_cell_13 (Nat.le_refl _) (Nat.le_refl _)
section LX
variable {p : Program} {l : Launch} {e : Env} {R : Room} {s : State} {m : MethodId} {args : Array Value} {below : List Frame} {meth : Method} {c : Code} {H : Heap} {locs : List Loc} {cells slots : Nat} {Q : State → Prop}
variable {cc : ByteArray} {nL pc : Nat} {ls : Array Slot} {rest st0 : List Value} {D : va_G} {cI cO : ClassId} {tE : Nat} {A : Nat → Prop} {w ws wc wr X cx T : va_W} {mc ms : Nat} {own : String}
theorem fq_rX {index b L : Nat} {xs : Nat → Int32} (K : fq_Ctx p m c cc nL s args own) (hK : fq_K D cI cO s) (hZ : fq_Z tE A s s.heap) (hS : va_S A s.heap H locs) (hA : ∀ q, s.heap.size ≤ q → A q) (hX : va_X b L xs s s.heap) (hbl : b < s.heap.size) (hbA : ¬ A b) (hL : L < 2 ^ 31) (hlink : Cond.methodLink own index my_La_cell ∈ fq_TB)
    (h2 : 0 + 1 ≤ R.frames ∧ 8 + (2 + 11) + 0 ≤ R.locals) (h3 : cells + 0 ≤ R.cells ∧ slots + 0 ≤ R.slots) (hsz : ls.size = nL) (hstack : st0 = [Value.ref b, .int 0].reverse ++ rest) (hrest : (rest.map fun v => v.category).sum ≤ 8) (hdg : decode cc pc = .ok (.invokestatic index, 3)) :
    va_Run p l e R s m args below meth c H locs cells slots 0 0 (F0 m pc ls st0) rest (va_Qi (S := va_W) (fun r w => w = [] ∧ r = la_c L xs) (fq_Bw D (va_A [] H.size)) (va_A [] H.size) [Value.ref b, .int 0].toArray) (va_A [] H.size) := by
  have hts := K.2.2.2.2
  have hcb := callB_of (own := own) (index := index) (R := R) (mc := 0) (ms := 0) (rm := { frames := 0, cells := 0, slots := 0, locals := 0 }) 2 hts (fq_gi yk_La_cell.1) rfl rfl rfl (hts _ yk_La_cell.2.1) (hts _ hlink) yk_La_cell.2.2 h2
  refine va_runS K (ct_La_cell l D cI cO tE b L xs hL H.size) ⟨hcb, hts _ wd_762⟩ ⟨la_blind, fun U hU hW => ?_⟩ rfl rfl hsz hstack (lv_room hrest) hdg h3
  have hP0 : va_P D fq_cl [] H := fun k q h => by cases h
  have hD0 : va_D A [] := ⟨fun i j p q h => (by cases h), fun k q h => (by cases h)⟩
  have z := fq_pre (av := [Value.ref b, .int 0]) (wc := []) hK hZ hS hP0 hD0 (fun q h => h.elim (fun ⟨k, e, h⟩ => by cases h) (fun h => hA q (Nat.le_trans hS.1 h))) U hU hW
  subst hU
  exact ⟨z.1, z.2, (hX.kept (hS.2.1 b hbl hbA)).moved hW.alike, Nat.lt_of_lt_of_le hbl hS.1⟩
theorem fq_clR {post : Int64 → va_W → Prop} {a : Array Value} (hr : va_Run p l e R s m args below meth c H locs cells slots mc ms (F0 m pc ls st0) rest (va_Ql (S := va_W) post (fq_Bw D (va_A wc H.size)) (va_A wc H.size) a) (va_A wc H.size))
    (hP : va_P D fq_cl ws H) (hD : va_D A ws) (hS : va_S A s.heap H locs) (hc : fq_cut D A H wc) (pm : ws.Perm (wc ++ wr))
    (kk : ∀ (r : Int64) (w : va_W) (H1 : Heap) (locs1 : List Loc), post r w → va_P D fq_cl (w ++ wr) H1 → va_D A (w ++ wr) → va_S A s.heap H1 locs1 → W p l e R s m args below meth c H1 locs1 (cells + mc) (slots + ms) Q (F0 m (pc + 3) ls (.long r :: rest))) : W p l e R s m args below meth c H locs cells slots Q (F0 m pc ls st0) := by
  refine va_calll hr hS (fun q _ h => hc.2.2 q h) hc.2.2 (fun r u t H1 locs1 ht hvm hp hB hz hk hS1 => ?_)
  obtain ⟨hP1, hD1⟩ := hB
  rw [ht] at hP1
  obtain ⟨hP2, hD2⟩ := fq_joinR (fq_permP pm hP) (fq_permD pm hD) hk hc.2.2 hP1 hD1
  exact kk r u H1 locs1 hp hP2 hD2 hS1
theorem fq_lpc {σ : Type} {st : List Value} (μ cf sf : σ → Nat) (I : σ → Heap → List Loc → Array Slot → Prop)
    (hs : ∀ (x : σ) (H : Heap) (locs : List Loc) (ls : Array Slot), I x H locs ls → (∀ (x' : σ) (H' : Heap) (locs' : List Loc) (ls' : Array Slot), μ x' < μ x → I x' H' locs' ls' → W p l e R s m args below meth c H' locs' (cf x') (sf x') Q (F0 m pc ls' st)) → W p l e R s m args below meth c H locs (cf x) (sf x) Q (F0 m pc ls st)) :
    ∀ (x : σ) (H : Heap) (locs : List Loc) (ls : Array Slot), I x H locs ls → W p l e R s m args below meth c H locs (cf x) (sf x) Q (F0 m pc ls st) := by
  have key : ∀ (n : Nat) (x : σ) (H : Heap) (locs : List Loc) (ls : Array Slot), μ x < n → I x H locs ls → W p l e R s m args below meth c H locs (cf x) (sf x) Q (F0 m pc ls st) := by
    intro n
    induction n with
    | zero => intro x H locs ls h; exact absurd h (Nat.not_lt_zero _)
    | succ n ih => intro x H locs ls h hI; exact hs x H locs ls hI (fun x' H' locs' ls' h' hI' => ih x' H' locs' ls' (by omega) hI')
  intro x H locs ls hI
  exact key (μ x + 1) x H locs ls (Nat.lt_succ_self _) hI
end LX
theorem mo_rcv {cI : ClassId} {h : Nat} {S : fs_A} {ws : va_W} (hX : mo_X cI h S ws) : ∃ fs : List Value, ws[0]? = some (h, .inr (12, fs)) := by
  obtain ⟨aK, aN, aB, aS, aL, aX, us, md, gi, su, sd, fK, fN, fB, fS, fL, fX, X, rfl, hsd, hI, hR⟩ := hX
  exact ⟨_, rfl⟩
theorem mo_J {cI : ClassId} {h : Nat} {S : fs_A} {ws : va_W} (hX : mo_X cI h S ws) : st_J S := by
  obtain ⟨aK, aN, aB, aS, aL, aX, us, md, gi, su, sd, fK, fN, fB, fS, fL, fX, X, rfl, hsd, hI, hR⟩ := hX
  exact ⟨_, _, _, _, _, hI⟩
theorem st_Jp (S : fs_A) (h : st_J S) : fs_pre S := by
  obtain ⟨_, _, _, _, _, h⟩ := h
  exact st_pre h
theorem la_gt {L k : Nat} (hL : L ≤ 3073) (hk : 6 * k ≤ 3078) (h : ¬ nI L - 6 < nI (1 + 6 * k)) : 6 * k + 7 ≤ L := by
  have e : (nI L - 6).toInt = (L : Int) - (6 : Nat) := pk_sub_toInt (a := L) (b := 6) (by omega) (by decide)
  rw [Int32.lt_iff_toInt_lt, e, nI_toInt (by omega)] at h
  omega
theorem la_out {v : Int32} (h0 : ¬ v = 0) (h1 : ¬ v = 1) (h2 : ¬ v = 2) (h3 : ¬ v = 3) (h4 : ¬ v = 4) (h5 : ¬ v = 5) (h6 : ¬ v = 6) (h7 : ¬ v = 7) (h8 : ¬ v = 8) (h9 : ¬ v = 9) (h10 : ¬ v = 10) (h11 : ¬ v = 11) (h12 : ¬ v = 12) (h13 : ¬ v = 13) (h14 : ¬ v = 14) (h15 : ¬ v = 15) (h16 : ¬ v = 16) (h17 : ¬ v = 17) : v.toInt < 0 ∨ 17 < v.toInt := by
  have k : ∀ n : Int32, ¬ v = n → v.toInt ≠ n.toInt := fun n h e => h (Int32.toInt_inj.mp e)
  have e0 := k 0 h0
  rw [show (0 : Int32).toInt = 0 by decide] at e0
  have e1 := k 1 h1
  rw [show (1 : Int32).toInt = 1 by decide] at e1
  have e2 := k 2 h2
  rw [show (2 : Int32).toInt = 2 by decide] at e2
  have e3 := k 3 h3
  rw [show (3 : Int32).toInt = 3 by decide] at e3
  have e4 := k 4 h4
  rw [show (4 : Int32).toInt = 4 by decide] at e4
  have e5 := k 5 h5
  rw [show (5 : Int32).toInt = 5 by decide] at e5
  have e6 := k 6 h6
  rw [show (6 : Int32).toInt = 6 by decide] at e6
  have e7 := k 7 h7
  rw [show (7 : Int32).toInt = 7 by decide] at e7
  have e8 := k 8 h8
  rw [show (8 : Int32).toInt = 8 by decide] at e8
  have e9 := k 9 h9
  rw [show (9 : Int32).toInt = 9 by decide] at e9
  have e10 := k 10 h10
  rw [show (10 : Int32).toInt = 10 by decide] at e10
  have e11 := k 11 h11
  rw [show (11 : Int32).toInt = 11 by decide] at e11
  have e12 := k 12 h12
  rw [show (12 : Int32).toInt = 12 by decide] at e12
  have e13 := k 13 h13
  rw [show (13 : Int32).toInt = 13 by decide] at e13
  have e14 := k 14 h14
  rw [show (14 : Int32).toInt = 14 by decide] at e14
  have e15 := k 15 h15
  rw [show (15 : Int32).toInt = 15 by decide] at e15
  have e16 := k 16 h16
  rw [show (16 : Int32).toInt = 16 by decide] at e16
  have e17 := k 17 h17
  rw [show (17 : Int32).toInt = 17 by decide] at e17
  omega

