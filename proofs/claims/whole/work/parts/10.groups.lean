theorem wd_517 : Cond.methodLink cn_Chain 45 ⟨cn_Stage, "clear", "()V"⟩ ∈ fq_TB := fq_in 517 (by decide +kernel) rfl
theorem wn_518 : Cond.declares ⟨cn_Stage, "clear", "()V"⟩ ∈ lw_tbl := List.mem_of_getElem? (i := 518) (by decide +kernel)
theorem wd_519 : Cond.sameMethod cn_Stage cn_Stage "clear" "()V" ∈ fq_TB := fq_in 519 (by decide +kernel) rfl
theorem wd_520 : Cond.selects cn_Gain ⟨cn_Stage, "clear", "()V"⟩ my_Gain_clear ∈ fq_TB := fq_in 520 (by decide +kernel) rfl
theorem wd_523 : Cond.selects cn_Resampler ⟨cn_Stage, "clear", "()V"⟩ my_Resampler_clear ∈ fq_TB := fq_in 523 (by decide +kernel) rfl
theorem wd_530 : Cond.selects cn_Section ⟨cn_Stage, "clear", "()V"⟩ my_Section_clear ∈ fq_TB := fq_in 530 (by decide +kernel) rfl
theorem wd_533 : Cond.selects cn_Window ⟨cn_Stage, "clear", "()V"⟩ my_Window_clear ∈ fq_TB := fq_in 533 (by decide +kernel) rfl
theorem wd_613 : Cond.methodLink cn_Chain 65 ⟨cn_Stage, "take", "(I)I"⟩ ∈ fq_TB := fq_in 613 (by decide +kernel) rfl
theorem wn_614 : Cond.declares ⟨cn_Stage, "take", "(I)I"⟩ ∈ lw_tbl := List.mem_of_getElem? (i := 614) (by decide +kernel)
theorem wd_615 : Cond.sameMethod cn_Stage cn_Stage "take" "(I)I" ∈ fq_TB := fq_in 615 (by decide +kernel) rfl
theorem wd_616 : Cond.selects cn_Gain ⟨cn_Stage, "take", "(I)I"⟩ my_Gain_take ∈ fq_TB := fq_in 616 (by decide +kernel) rfl
theorem wd_619 : Cond.selects cn_Resampler ⟨cn_Stage, "take", "(I)I"⟩ my_Resampler_take ∈ fq_TB := fq_in 619 (by decide +kernel) rfl
theorem wd_634 : Cond.selects cn_Section ⟨cn_Stage, "take", "(I)I"⟩ my_Section_take ∈ fq_TB := fq_in 634 (by decide +kernel) rfl
theorem wd_637 : Cond.selects cn_Window ⟨cn_Stage, "take", "(I)I"⟩ my_Window_take ∈ fq_TB := fq_in 637 (by decide +kernel) rfl
theorem wd_645 : Cond.methodLink cn_Chain 69 ⟨cn_Stage, "make", "()I"⟩ ∈ fq_TB := fq_in 645 (by decide +kernel) rfl
theorem wn_646 : Cond.declares ⟨cn_Stage, "make", "()I"⟩ ∈ lw_tbl := List.mem_of_getElem? (i := 646) (by decide +kernel)
theorem wd_647 : Cond.sameMethod cn_Stage cn_Stage "make" "()I" ∈ fq_TB := fq_in 647 (by decide +kernel) rfl
theorem wd_648 : Cond.selects cn_Gain ⟨cn_Stage, "make", "()I"⟩ my_Gain_make ∈ fq_TB := fq_in 648 (by decide +kernel) rfl
theorem wd_664 : Cond.selects cn_Resampler ⟨cn_Stage, "make", "()I"⟩ my_Resampler_make ∈ fq_TB := fq_in 664 (by decide +kernel) rfl
theorem wd_676 : Cond.selects cn_Section ⟨cn_Stage, "make", "()I"⟩ my_Section_make ∈ fq_TB := fq_in 676 (by decide +kernel) rfl
theorem wd_681 : Cond.selects cn_Window ⟨cn_Stage, "make", "()I"⟩ my_Window_make ∈ fq_TB := fq_in 681 (by decide +kernel) rfl
theorem wd_691 : Cond.methodLink cn_Chain 54 ⟨cn_Stage, "finish", "()I"⟩ ∈ fq_TB := fq_in 691 (by decide +kernel) rfl
theorem wn_692 : Cond.declares ⟨cn_Stage, "finish", "()I"⟩ ∈ lw_tbl := List.mem_of_getElem? (i := 692) (by decide +kernel)
theorem wd_693 : Cond.sameMethod cn_Stage cn_Stage "finish" "()I" ∈ fq_TB := fq_in 693 (by decide +kernel) rfl
theorem wd_694 : Cond.selects cn_Gain ⟨cn_Stage, "finish", "()I"⟩ my_Gain_finish ∈ fq_TB := fq_in 694 (by decide +kernel) rfl
theorem wd_697 : Cond.selects cn_Resampler ⟨cn_Stage, "finish", "()I"⟩ my_Resampler_finish ∈ fq_TB := fq_in 697 (by decide +kernel) rfl
theorem wd_700 : Cond.selects cn_Section ⟨cn_Stage, "finish", "()I"⟩ my_Section_finish ∈ fq_TB := fq_in 700 (by decide +kernel) rfl
theorem wd_703 : Cond.selects cn_Window ⟨cn_Stage, "finish", "()I"⟩ my_Window_finish ∈ fq_TB := fq_in 703 (by decide +kernel) rfl

/-! rearranged worlds -/
theorem fq_permP {D : va_G} {H : Heap} {ws ws' : va_W} (p : ws.Perm ws') (h : va_P D fq_cl ws H) : va_P D fq_cl ws' H := fun k q hk => by
  obtain ⟨j, hj⟩ := List.getElem?_of_mem (p.mem_iff.mpr (List.mem_of_getElem? hk))
  exact h j q hj
theorem fq_Dc {A : Nat → Prop} {x : Nat × va_E} {l : va_W} : va_D A (x :: l) ↔ A x.1 ∧ (∀ q ∈ l, q.1 ≠ x.1) ∧ va_D A l := by
  constructor
  · intro h
    refine ⟨h.2 0 x rfl, fun q hq e => ?_, fun i j p q hi hj e => ?_, fun k q hk => h.2 (k + 1) q hk⟩
    · obtain ⟨j, hj⟩ := List.getElem?_of_mem hq
      have := h.1 0 (j + 1) x q rfl hj e.symm
      omega
    · have := h.1 (i + 1) (j + 1) p q hi hj e
      omega
  · intro ⟨h1, h2, h3⟩
    refine ⟨fun i j p q hi hj e => ?_, fun k q hk => ?_⟩
    · cases i with
      | zero =>
        cases j with
        | zero => rfl
        | succ j =>
          have e1 : x = p := Option.some.inj hi
          subst e1
          exact absurd e.symm (h2 q (List.mem_of_getElem? (i := j) hj))
      | succ i =>
        cases j with
        | zero =>
          have e1 : x = q := Option.some.inj hj
          subst e1
          exact absurd e (h2 p (List.mem_of_getElem? (i := i) hi))
        | succ j => rw [h3.1 i j p q hi hj e]
    · cases k with
      | zero =>
        have e1 : x = q := Option.some.inj hk
        exact e1 ▸ h1
      | succ k => exact h3.2 k q hk
theorem fq_permD {A : Nat → Prop} {ws ws' : va_W} (p : ws.Perm ws') : va_D A ws → va_D A ws' := by
  induction p with
  | nil => exact id
  | cons x p ih =>
    intro h
    obtain ⟨h1, h2, h3⟩ := fq_Dc.mp h
    exact fq_Dc.mpr ⟨h1, fun q hq => h2 q (p.mem_iff.mpr hq), ih h3⟩
  | swap x y l =>
    intro h
    obtain ⟨h1, h2, h3⟩ := fq_Dc.mp h
    obtain ⟨k1, k2, k3⟩ := fq_Dc.mp h3
    refine fq_Dc.mpr ⟨k1, fun q hq => ?_, fq_Dc.mpr ⟨h1, fun q hq => h2 q (List.mem_cons_of_mem _ hq), k3⟩⟩
    rcases List.mem_cons.mp hq with rfl | hq
    · exact (h2 _ List.mem_cons_self).symm
    · exact k2 q hq
  | trans _ _ i1 i2 => exact fun h => i2 (i1 h)
theorem fq_Pl {D : va_G} {H : Heap} {a b : va_W} (h : va_P D fq_cl (a ++ b) H) : va_P D fq_cl a H := fun k q hk => h k q (by rw [List.getElem?_append_left (List.getElem?_eq_some_iff.mp hk).1]; exact hk)
theorem fq_Dl {A : Nat → Prop} {a b : va_W} (h : va_D A (a ++ b)) : va_D A a :=
  ⟨fun i j p q hi hj e => h.1 i j p q (by rw [List.getElem?_append_left (List.getElem?_eq_some_iff.mp hi).1]; exact hi) (by rw [List.getElem?_append_left (List.getElem?_eq_some_iff.mp hj).1]; exact hj) e,
   fun k q hk => h.2 k q (by rw [List.getElem?_append_left (List.getElem?_eq_some_iff.mp hk).1]; exact hk)⟩
section FP
variable {p : Program} {l : Launch} {e : Env} {R : Room} {s : State} {m : MethodId} {args : Array Value} {below : List Frame} {meth : Method} {c : Code} {H : Heap} {locs : List Loc} {cells slots : Nat} {Q : State → Prop}
variable {cc : ByteArray} {nL pc : Nat} {ls : Array Slot} {rest st0 : List Value} {D : va_G} {cI cO : ClassId} {tE : Nat} {A : Nat → Prop} {w ws wc wr X cx T : va_W} {mc ms : Nat} {own : String}
theorem fq_cutR (pm : ws.Perm (wc ++ wr)) (hP : va_P D fq_cl ws H) (hD : va_D A ws) (hS : va_S A s.heap H locs) (hA : ∀ q, s.heap.size ≤ q → A q) : fq_cut D A H wc := by
  refine ⟨fq_Pl (fq_permP pm hP), fq_Dl (fq_permD pm hD), fun q h => ?_⟩
  rcases h with ⟨k, e, h⟩ | h
  · exact (fq_Dl (fq_permD pm hD)).2 k _ h
  · exact hA q (Nat.le_trans hS.1 h)
theorem fq_cutT (hP : va_P D fq_cl (X ++ T) H) (hD : va_D A (X ++ T)) (hS : va_S A s.heap H locs) (hA : ∀ q, s.heap.size ≤ q → A q) (is : List Nat) (hn : va_nd is = true) (hs : is.map (fun i => X[i]?) = cx.map some) : fq_cut D A H cx :=
  fq_cut.of (fq_Pl hP) (fq_Dl hD) hS hA is hn hs
theorem fq_joinR {H1 : Heap} (hP : va_P D fq_cl (wc ++ wr) H) (hD : va_D A (wc ++ wr)) (hk : ∀ q : Nat, q < H.size → ¬ va_A wc H.size q → H1[q]? = H[q]?) (hF : ∀ q, va_A wc H.size q → A q) (hP1 : va_P D fq_cl w H1) (hD1 : va_D (va_A wc H.size) w) : va_P D fq_cl (w ++ wr) H1 ∧ va_D A (w ++ wr) := by
  have hC : (List.range wc.length).map (fun i => wc[i]?) = wc.map some := List.ext_getElem (by simp) (fun i h1 h2 => by simp)
  have h := va_joinQ (X := wc) (cx := wc) (wr := []) (w1 := w) (pl := wr) hP hD (List.range wc.length) [] hC rfl rfl (fun i hi => absurd hi List.not_mem_nil) hk hF hP1 hD1
  rw [List.nil_append] at h
  exact h
theorem fq_ciR {post : Int32 → va_W → Prop} {a : Array Value} (hr : va_Run p l e R s m args below meth c H locs cells slots mc ms (F0 m pc ls st0) rest (va_Qi (S := va_W) post (fq_Bw D (va_A wc H.size)) (va_A wc H.size) a) (va_A wc H.size))
    (hP : va_P D fq_cl ws H) (hD : va_D A ws) (hS : va_S A s.heap H locs) (hc : fq_cut D A H wc) (pm : ws.Perm (wc ++ wr))
    (kk : ∀ (r : Int32) (w : va_W) (H1 : Heap) (locs1 : List Loc), post r w → va_P D fq_cl (w ++ wr) H1 → va_D A (w ++ wr) → va_S A s.heap H1 locs1 → W p l e R s m args below meth c H1 locs1 (cells + mc) (slots + ms) Q (F0 m (pc + 3) ls (.int r :: rest))) : W p l e R s m args below meth c H locs cells slots Q (F0 m pc ls st0) := by
  refine va_calli hr hS (fun q _ h => hc.2.2 q h) hc.2.2 (fun r u t H1 locs1 ht hvm hp hB hz hk hS1 => ?_)
  obtain ⟨hP1, hD1⟩ := hB
  rw [ht] at hP1
  obtain ⟨hP2, hD2⟩ := fq_joinR (fq_permP pm hP) (fq_permD pm hD) hk hc.2.2 hP1 hD1
  exact kk r u H1 locs1 hp hP2 hD2 hS1
theorem fq_cvR {post : va_W → Prop} {a : Array Value} (hr : va_Run p l e R s m args below meth c H locs cells slots mc ms (F0 m pc ls st0) rest (va_Qv (S := va_W) post (fq_Bw D (va_A wc H.size)) (va_A wc H.size) a) (va_A wc H.size))
    (hP : va_P D fq_cl ws H) (hD : va_D A ws) (hS : va_S A s.heap H locs) (hc : fq_cut D A H wc) (pm : ws.Perm (wc ++ wr))
    (kk : ∀ (w : va_W) (H1 : Heap) (locs1 : List Loc), post w → va_P D fq_cl (w ++ wr) H1 → va_D A (w ++ wr) → va_S A s.heap H1 locs1 → W p l e R s m args below meth c H1 locs1 (cells + mc) (slots + ms) Q (F0 m (pc + 3) ls rest)) : W p l e R s m args below meth c H locs cells slots Q (F0 m pc ls st0) := by
  refine va_callv hr hS (fun q _ h => hc.2.2 q h) hc.2.2 (fun u t H1 locs1 ht hvm hp hB hz hk hS1 => ?_)
  obtain ⟨hP1, hD1⟩ := hB
  rw [ht] at hP1
  obtain ⟨hP2, hD2⟩ := fq_joinR (fq_permP pm hP) (fq_permD pm hD) hk hc.2.2 hP1 hD1
  exact kk u H1 locs1 hp hP2 hD2 hS1
theorem fq_cqR {post : Option Nat → va_W → Prop} {a : Array Value} (hr : va_Run p l e R s m args below meth c H locs cells slots mc ms (F0 m pc ls st0) rest (va_Qq (S := va_W) post (fq_Bw D (va_A wc H.size)) (va_A wc H.size) a) (va_A wc H.size))
    (hP : va_P D fq_cl ws H) (hD : va_D A ws) (hS : va_S A s.heap H locs) (hc : fq_cut D A H wc) (pm : ws.Perm (wc ++ wr))
    (kk : ∀ (r : Option Nat) (w : va_W) (H1 : Heap) (locs1 : List Loc), post r w → va_P D fq_cl (w ++ wr) H1 → va_D A (w ++ wr) → va_S A s.heap H1 locs1 → W p l e R s m args below meth c H1 locs1 (cells + mc) (slots + ms) Q (F0 m (pc + 3) ls (va_rf r :: rest))) : W p l e R s m args below meth c H locs cells slots Q (F0 m pc ls st0) := by
  refine va_callq hr hS (fun q _ h => hc.2.2 q h) hc.2.2 (fun r u t H1 locs1 ht hvm hp hB hz hk hS1 => ?_)
  obtain ⟨hP1, hD1⟩ := hB
  rw [ht] at hP1
  obtain ⟨hP2, hD2⟩ := fq_joinR (fq_permP pm hP) (fq_permD pm hD) hk hc.2.2 hP1 hD1
  exact kk r u H1 locs1 hp hP2 hD2 hS1
theorem fq_ciT {post : Int32 → va_W → Prop} {a : Array Value} (hr : va_Run p l e R s m args below meth c H locs cells slots mc ms (F0 m pc ls st0) rest (va_Qi (S := va_W) post (fq_Bw D (va_A cx H.size)) (va_A cx H.size) a) (va_A cx H.size))
    (hP : va_P D fq_cl (X ++ T) H) (hD : va_D A (X ++ T)) (hS : va_S A s.heap H locs) (hc : fq_cut D A H cx) (isC isR : List Nat) (hC : isC.map (fun i => X[i]?) = cx.map some) (hR : isR.map (fun i => X[i]?) = wr.map some) (hn : va_nd isR = true) (hdis : ∀ i ∈ isR, i ∉ isC)
    (kk : ∀ (r : Int32) (w : va_W) (H1 : Heap) (locs1 : List Loc), post r w → va_P D fq_cl ((wr ++ w) ++ T) H1 → va_D A ((wr ++ w) ++ T) → va_S A s.heap H1 locs1 → W p l e R s m args below meth c H1 locs1 (cells + mc) (slots + ms) Q (F0 m (pc + 3) ls (.int r :: rest))) : W p l e R s m args below meth c H locs cells slots Q (F0 m pc ls st0) := by
  refine va_calli hr hS (fun q _ h => hc.2.2 q h) hc.2.2 (fun r u t H1 locs1 ht hvm hp hB hz hk hS1 => ?_)
  obtain ⟨hP1, hD1⟩ := hB
  rw [ht] at hP1
  obtain ⟨hP2, hD2⟩ := va_joinQ hP hD isC isR hC hR hn hdis hk hc.2.2 hP1 hD1
  exact kk r u H1 locs1 hp hP2 hD2 hS1
theorem fq_cvT {post : va_W → Prop} {a : Array Value} (hr : va_Run p l e R s m args below meth c H locs cells slots mc ms (F0 m pc ls st0) rest (va_Qv (S := va_W) post (fq_Bw D (va_A cx H.size)) (va_A cx H.size) a) (va_A cx H.size))
    (hP : va_P D fq_cl (X ++ T) H) (hD : va_D A (X ++ T)) (hS : va_S A s.heap H locs) (hc : fq_cut D A H cx) (isC isR : List Nat) (hC : isC.map (fun i => X[i]?) = cx.map some) (hR : isR.map (fun i => X[i]?) = wr.map some) (hn : va_nd isR = true) (hdis : ∀ i ∈ isR, i ∉ isC)
    (kk : ∀ (w : va_W) (H1 : Heap) (locs1 : List Loc), post w → va_P D fq_cl ((wr ++ w) ++ T) H1 → va_D A ((wr ++ w) ++ T) → va_S A s.heap H1 locs1 → W p l e R s m args below meth c H1 locs1 (cells + mc) (slots + ms) Q (F0 m (pc + 3) ls rest)) : W p l e R s m args below meth c H locs cells slots Q (F0 m pc ls st0) := by
  refine va_callv hr hS (fun q _ h => hc.2.2 q h) hc.2.2 (fun u t H1 locs1 ht hvm hp hB hz hk hS1 => ?_)
  obtain ⟨hP1, hD1⟩ := hB
  rw [ht] at hP1
  obtain ⟨hP2, hD2⟩ := va_joinQ hP hD isC isR hC hR hn hdis hk hc.2.2 hP1 hD1
  exact kk u H1 locs1 hp hP2 hD2 hS1
variable {x y : MethodName} {bytes : ByteArray} {maxL index k : Nat} {ret : Option FieldType} {rm : Room} {Qc : Array Value → State → Outcome → State → Prop} {free : Addr → Prop} {b : Addr} {As : List Value} {C : String}
/-- a call whose named method is abstract -/
theorem fq_rA (K : fq_Ctx p m c cc nL s args own) (hK : fq_K D cI cO s) (hZ : fq_Z tE A s s.heap) (hS : va_S A s.heap H locs) (hc : fq_cut D A H wc)
    (hM : Met l y (fq_w y bytes maxL ret) rm (va_Pc (.ref b :: As) (fq_Pre D cI cO tE H.size wc)) Qc mc ms free) (hY : fq_Y y bytes maxL ret As.length) (hin : Cond.instanceMethod y ∈ fq_TB) (hse : Cond.selects C x y ∈ fq_TB) (hlink : Cond.methodLink own index x ∈ fq_TB) (hsame : Cond.sameMethod x.cls x.cls x.name x.desc ∈ fq_TB) (hdec : Cond.declares x ∈ lw_tbl)
    (hdx : x.cls ≠ "java/lang/invoke/MethodHandle" ∧ x.cls ≠ "java/lang/invoke/VarHandle" ∧ (parseMethodDescriptor x.desc).map (fun d => d.parameters.length) = some As.length)
    (q0 : Nat) {ci : Nat} {fs : List Value} {q : vw_C} (he : wc[q0]? = some (b, .inr (ci, fs))) (hq : fq_cl[ci]? = some q) (hqc : q.1 = C)
    (hfit : fq_fit rm R maxL cells slots mc ms) (hsz : ls.size = nL) (hstack : st0 = As.reverse ++ .ref b :: rest) (hrest : (rest.map fun v => v.category).sum ≤ 8) (hdg : decode cc pc = .ok (.invokevirtual index, 3)) :
    va_Run p l e R s m args below meth c H locs cells slots mc ms (F0 m pc ls st0) rest (Qc (Value.ref b :: As).toArray) free := by
  obtain ⟨h1, h2, h3⟩ := hfit
  have hts := K.2.2.2.2
  have hrv := va_recv hK.1 hc.1 hq he
  rw [hqc] at hrv
  have gd : ∀ {w : Cond}, w ∈ fq_TB → w ∈ fq_TB ∧ ((w.onTables && w.keeps) = true ∨ ∃ ty, w = .arrayClass ty) := fun h => ⟨h, good_of_word (List.mem_filter.mp h).2⟩
  have hT : GoodIn fq_TB (va_wsU own index C x.cls x y (fq_w y bytes maxL ret)) := by
    intro w hw
    unfold va_wsU at hw
    rcases List.mem_append.mp hw with h | h
    · simp only [List.mem_cons, List.not_mem_nil, or_false] at h
      rcases h with rfl | rfl | rfl | rfl | rfl
      · exact gd hlink
      · exact gd hsame
      · exact gd hse
      · exact gd hin
      · exact gd hY.2.1
    · exact fq_gi hY.1 w h
  have hz : va_Nw (.declares ⟨x.cls, x.name, x.desc⟩) s := hK.2.1 _ hdec rfl
  exact va_runU K hM (va_cwA As.length hts hT rfl h1.1 h1.2 hz hdx h2) ⟨fq_blind, hrv, fq_pre hK hZ hS hc.1 hc.2.1 hc.2.2⟩ rfl rfl hsz hstack (lv_room hrest) hdg h3
theorem fq_weaki {post post' : Int32 → va_W → Prop} {B : va_W → State → Prop} {A1 : Nat → Prop} {a : Array Value} {g : JFrame} (h : ∀ r w, post r w → post' r w) (hr : va_Run p l e R s m args below meth c H locs cells slots mc ms g rest (va_Qi (S := va_W) post B A1 a) free) : va_Run p l e R s m args below meth c H locs cells slots mc ms g rest (va_Qi (S := va_W) post' B A1 a) free := by
  intro T hT X
  obtain ⟨v, st₀, t, T', L, h0, X', hL, e1, e2, ⟨⟨r, u, hv, hp, hb⟩, hf⟩, st⟩ := hr T hT X
  exact ⟨v, st₀, t, T', L, h0, X', hL, e1, e2, ⟨⟨r, u, hv, h r u hp, hb⟩, hf⟩, st⟩
theorem fq_weakv {post post' : va_W → Prop} {B : va_W → State → Prop} {A1 : Nat → Prop} {a : Array Value} {g : JFrame} (h : ∀ w, post w → post' w) (hr : va_Run p l e R s m args below meth c H locs cells slots mc ms g rest (va_Qv (S := va_W) post B A1 a) free) : va_Run p l e R s m args below meth c H locs cells slots mc ms g rest (va_Qv (S := va_W) post' B A1 a) free := by
  intro T hT X
  obtain ⟨v, st₀, t, T', L, h0, X', hL, e1, e2, ⟨⟨u, hv, hp, hb⟩, hf⟩, st⟩ := hr T hT X
  exact ⟨v, st₀, t, T', L, h0, X', hL, e1, e2, ⟨⟨u, hv, h u hp, hb⟩, hf⟩, st⟩
end FP
/-! groups of cells behind each other -/
theorem fq_fl : ∀ {L : List va_W} {i : Nat} {g : va_W}, L[i]? = some g → L.flatten.Perm (g ++ (L.eraseIdx i).flatten)
  | [], i, g, h => by simp at h
  | a :: L, 0, g, h => by
    have e : a = g := Option.some.inj h
    subst e
    exact List.Perm.refl _
  | a :: L, i + 1, g, h => by
    have ih := fq_fl (L := L) (i := i) (g := g) h
    show (a ++ L.flatten).Perm (g ++ (a ++ (L.eraseIdx i).flatten))
    exact (ih.append_left a).trans (List.perm_append_comm_assoc a g _)
theorem fq_fs : ∀ {L : List va_W} {i : Nat} {g g' : va_W}, L[i]? = some g → (L.set i g').flatten.Perm (g' ++ (L.eraseIdx i).flatten)
  | [], i, g, g', h => by simp at h
  | a :: L, 0, g, g', h => List.Perm.refl _
  | a :: L, i + 1, g, g', h => by
    have ih := fq_fs (L := L) (i := i) (g := g) (g' := g') h
    show (a ++ (L.set i g').flatten).Perm (g' ++ (a ++ (L.eraseIdx i).flatten))
    exact (ih.append_left a).trans (List.perm_append_comm_assoc a g' _)
/-- group i, and explicit cells beside it -/
theorem fq_gout {X : va_W} {L : List va_W} {i : Nat} {g : va_W} (h : L[i]? = some g) : (X ++ L.flatten).Perm ((X ++ g) ++ (L.eraseIdx i).flatten) := by
  rw [List.append_assoc]; exact (fq_fl h).append_left X
theorem fq_gin {X : va_W} {L : List va_W} {i : Nat} {g g' : va_W} (h : L[i]? = some g) : ((X ++ g') ++ (L.eraseIdx i).flatten).Perm (X ++ (L.set i g').flatten) := by
  rw [List.append_assoc]; exact ((fq_fs h).symm).append_left X
theorem fq_gone {X : va_W} {L : List va_W} {i : Nat} {g : va_W} (h : L[i]? = some g) : (X ++ L.flatten).Perm (g ++ (X ++ (L.eraseIdx i).flatten)) := ((fq_fl h).append_left X).trans (List.perm_append_comm_assoc X g _)
theorem fq_gback {X : va_W} {L : List va_W} {i : Nat} {g g' : va_W} (h : L[i]? = some g) : (g' ++ (X ++ (L.eraseIdx i).flatten)).Perm (X ++ (L.set i g').flatten) := (((fq_fs h).append_left X).trans (List.perm_append_comm_assoc X g' _)).symm
/-! a stage of any kind -/
def sg_ok (cI : ClassId) (h : Nat) (sp : fm_S) (xs : List Int) (m : Nat) (g : va_W) : Prop := sg_sec h sp xs m g ∨ sg_gain h sp xs m g ∨ sg_win cI h sp xs m g ∨ sg_res cI h sp xs m g
theorem sg_facts {cI : ClassId} {h : Nat} {sp : fm_S} {xs : List Int} {m : Nat} {g : va_W} (hs : sg_ok cI h sp xs m g) : fm_ok sp ∧ ∀ v ∈ xs, fm_in v := by
  rcases hs with ⟨_, _, _, _, _, _, _, _, _, _, -, k⟩ | ⟨_, _, -, k⟩ | ⟨_, _, _, _, _, _, _, -, k⟩ | ⟨_, _, _, _, _, -, k⟩ <;> exact ⟨k.2.1, k.2.2.1⟩
theorem sg_m {cI : ClassId} {h : Nat} {sp : fm_S} {xs : List Int} {m : Nat} {g : va_W} (hs : sg_ok cI h sp xs m g) : True := trivial
theorem sg_k0 {a b c d e : Int} {sp : fm_S} (h : sp = (0, a, b, c, d, e)) {fl : Bool} {n : Nat} : fm_m sp fl n = n := if_pos (Or.inr (by rw [h]; exact (by decide : 0 < 2)))
theorem sg_k1 {a b c d e : Int} {sp : fm_S} (h : sp = (1, a, b, c, d, e)) {fl : Bool} {n : Nat} : fm_m sp fl n = n := if_pos (Or.inr (by rw [h]; exact (by decide : 1 < 2)))
theorem sg_k2 {len : Nat} {tt : Int32} {f g : Nat → Int32} {sp : fm_S} {xs : List Int} {m : Nat} (h : wn_ok len tt f g sp xs m) {n : Nat} : fm_m sp false n = n := by
  have k2 : sp.1 = 2 := by rw [h.1]
  unfold fm_m
  by_cases hz : n = 0 ∨ sp.1 < 2
  · rw [if_pos hz]
  · rw [if_neg hz, if_pos k2, if_neg (by decide)]
theorem sg_sg0 {a b c d e : Int} {sp : fm_S} {m n : Nat} (h : sp = (0, a, b, c, d, e)) (h1 : fm_m sp false (n - 1) ≤ m) (h2 : m < fm_m sp true n) : m + 1 = n := by
  rw [sg_k0 h] at h1 h2; omega
theorem sg_sg1 {a b c d e : Int} {sp : fm_S} {m n : Nat} (h : sp = (1, a, b, c, d, e)) (h1 : fm_m sp false (n - 1) ≤ m) (h2 : m < fm_m sp true n) : m + 1 = n := by
  rw [sg_k1 h] at h1 h2; omega
theorem sg_sg2 {len : Nat} {tt : Int32} {f g : Nat → Int32} {sp : fm_S} {xs : List Int} {m : Nat} (h : wn_ok len tt f g sp xs m) (h1 : fm_m sp false (xs.length - 1) ≤ m) : xs.length ≤ m + 1 := by
  rw [sg_k2 h] at h1; omega
theorem sg_sg3 {u d : Nat} {f : Nat → Int32} {sp : fm_S} {xs : List Int} {m : Nat} (h : rs_ok u d f sp xs m) (h1 : fm_m sp false (xs.length - 1) ≤ m) : xs.length * u ≤ m * d + u := by
  have hud := rs_ud h
  by_cases c : xs.length ≤ 1
  · have : xs.length * u ≤ 1 * u := Nat.mul_le_mul_right u c
    omega
  · rw [rs_mk h false (by omega), if_neg (by decide)] at h1
    have h2 : (xs.length - 1) * u ≤ m * d := by
      have h3 := Nat.div_mul_le_self ((xs.length - 1) * u + d - 1) d
      have h4 := Nat.mod_lt ((xs.length - 1) * u + d - 1) (show 0 < d by omega)
      have h5 := Nat.div_add_mod ((xs.length - 1) * u + d - 1) d
      have h6 : ((xs.length - 1) * u + d - 1) / d * d ≤ m * d := Nat.mul_le_mul_right d h1
      rw [Nat.mul_comm] at h5
      omega
    have h7 : xs.length * u = (xs.length - 1) * u + u := by
      rw [← Nat.succ_mul]; congr 1; omega
    omega

theorem sx_take : (⟨cn_Stage, "take", "(I)I"⟩ : MethodName).cls ≠ "java/lang/invoke/MethodHandle" ∧ (⟨cn_Stage, "take", "(I)I"⟩ : MethodName).cls ≠ "java/lang/invoke/VarHandle" ∧ (parseMethodDescriptor (⟨cn_Stage, "take", "(I)I"⟩ : MethodName).desc).map (fun d => d.parameters.length) = some 1 := by decide +kernel
set_option maxHeartbeats 4000000 in
theorem sg_run_take {p : Program} {l : Launch} {e : Env} {R : Room} {s : State} {mt : MethodId} {args : Array Value} {below : List Frame} {meth : Method} {cd : Code} {H : Heap} {locs : List Loc} {cells slots : Nat} {cc : ByteArray} {nL pc : Nat} {ls : Array Slot} {rest : List Value} {D : va_G} {cI cO : ClassId} {tE : Nat} {A : Nat → Prop} {g : va_W} (K : fq_Ctx p mt cd cc nL s args cn_Chain) (hK : fq_K D cI cO s) (hZ : fq_Z tE A s s.heap) (hS : va_S A s.heap H locs) (hc : fq_cut D A H g) {h : Nat} {sp : fm_S} {xs : List Int} {m : Nat} (hsg : sg_ok cI h sp xs m g) (x : Int32) (hm : m = fm_m sp false xs.length) (hx : fm_in x.toInt) (hlt : xs.length < 100000) (hmx : m + 1 < 300000) (hfr : 2 ≤ R.frames) (hlo : 42 ≤ R.locals) (hce : cells ≤ R.cells) (hsl : slots ≤ R.slots) (hsz : ls.size = nL) (hrest : (rest.map fun v => v.category).sum ≤ 8) (hdg : decode cc pc = .ok (.invokevirtual 65, 3)) : va_Run p l e R s mt args below meth cd H locs cells slots 0 0 (F0 mt pc ls (.int x :: .ref h :: rest)) rest (va_Qi (S := va_W) (fun r w => r = nI (fm_m sp false (xs.length + 1) - m) ∧ sg_ok cI h sp (xs ++ [x.toInt]) m w) (fq_Bw D (va_A g H.size)) (va_A g H.size) (Value.ref h :: [.int x]).toArray) (va_A g H.size) := by
  have hfm := sg_m hsg
  rcases hsg with ⟨b0, b1, b2, a1, a2, x0, x1, x2, y1, y2, rfl, hsc⟩ | ⟨fa, la, rfl, hgn⟩ | ⟨hw, hr, ha, len, tt, f, gg, rfl, hwn⟩ | ⟨u, d, hr, ha, f, rfl, hrs⟩
  · refine fq_weaki (fun r w hw => ⟨by rw [hw.1, sg_k0 hsc.1, hm, sg_k0 hsc.1, Nat.add_sub_cancel_left]; rfl, Or.inl hw.2⟩) (fq_rA (x := ⟨cn_Stage, "take", "(I)I"⟩) (C := cn_Section) K hK hZ hS hc (ct_Section_take l D cI cO tE h b0 b1 b2 a1 a2 x0 x1 x2 y1 y2 sp xs m x hsc hx _) yk_Section_take wd_635 wd_634 wd_613 wd_615 wn_614 sx_take 0 rfl rfl rfl ⟨⟨rfl, rfl⟩, ⟨Nat.le_trans (Nat.le_of_ble_eq_true rfl) hfr, Nat.le_trans (Nat.le_of_ble_eq_true rfl) hlo⟩, ⟨hce, hsl⟩⟩ hsz rfl hrest hdg)
  · refine fq_weaki (fun r w hw => ⟨by rw [hw.1, sg_k1 hgn.1, hm, sg_k1 hgn.1, Nat.add_sub_cancel_left]; rfl, Or.inr (Or.inl hw.2)⟩) (fq_rA (x := ⟨cn_Stage, "take", "(I)I"⟩) (C := cn_Gain) K hK hZ hS hc (ct_Gain_take l D cI cO tE h fa la sp xs m x hgn hx _) yk_Gain_take wd_617 wd_616 wd_613 wd_615 wn_614 sx_take 0 rfl rfl rfl ⟨⟨rfl, rfl⟩, ⟨Nat.le_trans (Nat.le_of_ble_eq_true rfl) hfr, Nat.le_trans (Nat.le_of_ble_eq_true rfl) hlo⟩, ⟨hce, hsl⟩⟩ hsz rfl hrest hdg)
  · refine fq_weaki (fun r w hw => ⟨by rw [hw.1, sg_k2 hwn, hm, sg_k2 hwn, Nat.add_sub_cancel_left]; rfl, Or.inr (Or.inr (Or.inl hw.2))⟩) (fq_rA (x := ⟨cn_Stage, "take", "(I)I"⟩) (C := cn_Window) K hK hZ hS hc (ct_Window_take l D cI cO tE h hw hr ha len tt f gg sp xs m hwn x hx (by omega) _) yk_Window_take wd_638 wd_637 wd_613 wd_615 wn_614 sx_take 0 rfl rfl rfl ⟨⟨rfl, rfl⟩, ⟨Nat.le_trans (Nat.le_of_ble_eq_true rfl) hfr, Nat.le_trans (Nat.le_of_ble_eq_true rfl) hlo⟩, ⟨hce, hsl⟩⟩ hsz rfl hrest hdg)
  · refine fq_weaki (fun r w hw => ⟨hw.1, Or.inr (Or.inr (Or.inr hw.2))⟩) (fq_rA (x := ⟨cn_Stage, "take", "(I)I"⟩) (C := cn_Resampler) K hK hZ hS hc (ct_Resampler_take l D cI cO tE h u d hr ha f sp xs m hrs x hx (by omega) _) yk_Resampler_take wd_620 wd_619 wd_613 wd_615 wn_614 sx_take 0 rfl rfl rfl ⟨⟨rfl, rfl⟩, ⟨Nat.le_trans (Nat.le_of_ble_eq_true rfl) hfr, Nat.le_trans (Nat.le_of_ble_eq_true rfl) hlo⟩, ⟨hce, hsl⟩⟩ hsz rfl hrest hdg)
theorem sx_finish : (⟨cn_Stage, "finish", "()I"⟩ : MethodName).cls ≠ "java/lang/invoke/MethodHandle" ∧ (⟨cn_Stage, "finish", "()I"⟩ : MethodName).cls ≠ "java/lang/invoke/VarHandle" ∧ (parseMethodDescriptor (⟨cn_Stage, "finish", "()I"⟩ : MethodName).desc).map (fun d => d.parameters.length) = some 0 := by decide +kernel
set_option maxHeartbeats 4000000 in
theorem sg_run_finish {p : Program} {l : Launch} {e : Env} {R : Room} {s : State} {mt : MethodId} {args : Array Value} {below : List Frame} {meth : Method} {cd : Code} {H : Heap} {locs : List Loc} {cells slots : Nat} {cc : ByteArray} {nL pc : Nat} {ls : Array Slot} {rest : List Value} {D : va_G} {cI cO : ClassId} {tE : Nat} {A : Nat → Prop} {g : va_W} (K : fq_Ctx p mt cd cc nL s args cn_Chain) (hK : fq_K D cI cO s) (hZ : fq_Z tE A s s.heap) (hS : va_S A s.heap H locs) (hc : fq_cut D A H g) {h : Nat} {sp : fm_S} {xs : List Int} {m : Nat} (hsg : sg_ok cI h sp xs m g) (hm : m = fm_m sp false xs.length) (hfr : 2 ≤ R.frames) (hlo : 41 ≤ R.locals) (hce : cells ≤ R.cells) (hsl : slots ≤ R.slots) (hsz : ls.size = nL) (hrest : (rest.map fun v => v.category).sum ≤ 8) (hdg : decode cc pc = .ok (.invokevirtual 54, 3)) : va_Run p l e R s mt args below meth cd H locs cells slots 0 0 (F0 mt pc ls (.ref h :: rest)) rest (va_Qi (S := va_W) (fun r w => r = nI (fm_m sp true xs.length - m) ∧ sg_ok cI h sp xs m w) (fq_Bw D (va_A g H.size)) (va_A g H.size) (Value.ref h :: []).toArray) (va_A g H.size) := by
  have hfm := sg_m hsg
  rcases hsg with ⟨b0, b1, b2, a1, a2, x0, x1, x2, y1, y2, rfl, hsc⟩ | ⟨fa, la, rfl, hgn⟩ | ⟨hw, hr, ha, len, tt, f, gg, rfl, hwn⟩ | ⟨u, d, hr, ha, f, rfl, hrs⟩
  · refine fq_weaki (fun r w hw => ⟨by rw [hw.1, hm, sg_k0 hsc.1, sg_k0 hsc.1, Nat.sub_self, nI_0], Or.inl hw.2⟩) (fq_rA (x := ⟨cn_Stage, "finish", "()I"⟩) (C := cn_Section) K hK hZ hS hc (ct_Section_finish l D cI cO tE h b0 b1 b2 a1 a2 x0 x1 x2 y1 y2 sp xs m hsc _) yk_Section_finish wd_701 wd_700 wd_691 wd_693 wn_692 sx_finish 0 rfl rfl rfl ⟨⟨rfl, rfl⟩, ⟨Nat.le_trans (Nat.le_of_ble_eq_true rfl) hfr, Nat.le_trans (Nat.le_of_ble_eq_true rfl) hlo⟩, ⟨hce, hsl⟩⟩ hsz rfl hrest hdg)
  · refine fq_weaki (fun r w hw => ⟨by rw [hw.1, hm, sg_k1 hgn.1, sg_k1 hgn.1, Nat.sub_self, nI_0], Or.inr (Or.inl hw.2)⟩) (fq_rA (x := ⟨cn_Stage, "finish", "()I"⟩) (C := cn_Gain) K hK hZ hS hc (ct_Gain_finish l D cI cO tE h fa la sp xs m hgn _) yk_Gain_finish wd_695 wd_694 wd_691 wd_693 wn_692 sx_finish 0 rfl rfl rfl ⟨⟨rfl, rfl⟩, ⟨Nat.le_trans (Nat.le_of_ble_eq_true rfl) hfr, Nat.le_trans (Nat.le_of_ble_eq_true rfl) hlo⟩, ⟨hce, hsl⟩⟩ hsz rfl hrest hdg)
  · refine fq_weaki (fun r w hw => ⟨by rw [hm]; exact hw.1, Or.inr (Or.inr (Or.inl hw.2))⟩) (fq_rA (x := ⟨cn_Stage, "finish", "()I"⟩) (C := cn_Window) K hK hZ hS hc (ct_Window_finish l D cI cO tE h hw hr ha len tt f gg sp xs m hwn  _) yk_Window_finish wd_704 wd_703 wd_691 wd_693 wn_692 sx_finish 0 rfl rfl rfl ⟨⟨rfl, rfl⟩, ⟨Nat.le_trans (Nat.le_of_ble_eq_true rfl) hfr, Nat.le_trans (Nat.le_of_ble_eq_true rfl) hlo⟩, ⟨hce, hsl⟩⟩ hsz rfl hrest hdg)
  · refine fq_weaki (fun r w hw => ⟨hw.1, Or.inr (Or.inr (Or.inr hw.2))⟩) (fq_rA (x := ⟨cn_Stage, "finish", "()I"⟩) (C := cn_Resampler) K hK hZ hS hc (ct_Resampler_finish l D cI cO tE h u d hr ha f sp xs m hrs  _) yk_Resampler_finish wd_698 wd_697 wd_691 wd_693 wn_692 sx_finish 0 rfl rfl rfl ⟨⟨rfl, rfl⟩, ⟨Nat.le_trans (Nat.le_of_ble_eq_true rfl) hfr, Nat.le_trans (Nat.le_of_ble_eq_true rfl) hlo⟩, ⟨hce, hsl⟩⟩ hsz rfl hrest hdg)
theorem sx_make : (⟨cn_Stage, "make", "()I"⟩ : MethodName).cls ≠ "java/lang/invoke/MethodHandle" ∧ (⟨cn_Stage, "make", "()I"⟩ : MethodName).cls ≠ "java/lang/invoke/VarHandle" ∧ (parseMethodDescriptor (⟨cn_Stage, "make", "()I"⟩ : MethodName).desc).map (fun d => d.parameters.length) = some 0 := by decide +kernel
set_option maxHeartbeats 4000000 in
theorem sg_run_make {p : Program} {l : Launch} {e : Env} {R : Room} {s : State} {mt : MethodId} {args : Array Value} {below : List Frame} {meth : Method} {cd : Code} {H : Heap} {locs : List Loc} {cells slots : Nat} {cc : ByteArray} {nL pc : Nat} {ls : Array Slot} {rest : List Value} {D : va_G} {cI cO : ClassId} {tE : Nat} {A : Nat → Prop} {g : va_W} (K : fq_Ctx p mt cd cc nL s args cn_Chain) (hK : fq_K D cI cO s) (hZ : fq_Z tE A s s.heap) (hS : va_S A s.heap H locs) (hc : fq_cut D A H g) {h : Nat} {sp : fm_S} {xs : List Int} {m : Nat} (hsg : sg_ok cI h sp xs m g) (hm : fm_m sp false (xs.length - 1) ≤ m) (hm2 : m < fm_m sp true xs.length) (hmx : m + 1 < 300000) (hfr : 3 ≤ R.frames) (hlo : 63 ≤ R.locals) (hce : cells ≤ R.cells) (hsl : slots ≤ R.slots) (hsz : ls.size = nL) (hrest : (rest.map fun v => v.category).sum ≤ 8) (hdg : decode cc pc = .ok (.invokevirtual 69, 3)) : va_Run p l e R s mt args below meth cd H locs cells slots 0 0 (F0 mt pc ls (.ref h :: rest)) rest (va_Qi (S := va_W) (fun r w => r.toInt = fm_y sp xs m ∧ sg_ok cI h sp xs (m + 1) w) (fq_Bw D (va_A g H.size)) (va_A g H.size) (Value.ref h :: []).toArray) (va_A g H.size) := by
  have hfm := sg_m hsg
  rcases hsg with ⟨b0, b1, b2, a1, a2, x0, x1, x2, y1, y2, rfl, hsc⟩ | ⟨fa, la, rfl, hgn⟩ | ⟨hw, hr, ha, len, tt, f, gg, rfl, hwn⟩ | ⟨u, d, hr, ha, f, rfl, hrs⟩
  · refine fq_weaki (fun r w hw => ⟨hw.1, Or.inl hw.2⟩) (fq_rA (x := ⟨cn_Stage, "make", "()I"⟩) (C := cn_Section) K hK hZ hS hc (ct_Section_make l D cI cO tE h b0 b1 b2 a1 a2 x0 x1 x2 y1 y2 sp xs m hsc (sg_sg0 hsc.1 hm hm2) _) yk_Section_make wd_677 wd_676 wd_645 wd_647 wn_646 sx_make 0 rfl rfl rfl ⟨⟨rfl, rfl⟩, ⟨Nat.le_trans (Nat.le_of_ble_eq_true rfl) hfr, Nat.le_trans (Nat.le_of_ble_eq_true rfl) hlo⟩, ⟨hce, hsl⟩⟩ hsz rfl hrest hdg)
  · refine fq_weaki (fun r w hw => ⟨hw.1, Or.inr (Or.inl hw.2)⟩) (fq_rA (x := ⟨cn_Stage, "make", "()I"⟩) (C := cn_Gain) K hK hZ hS hc (ct_Gain_make l D cI cO tE h fa la sp xs m hgn (sg_sg1 hgn.1 hm hm2) _) yk_Gain_make wd_649 wd_648 wd_645 wd_647 wn_646 sx_make 0 rfl rfl rfl ⟨⟨rfl, rfl⟩, ⟨Nat.le_trans (Nat.le_of_ble_eq_true rfl) hfr, Nat.le_trans (Nat.le_of_ble_eq_true rfl) hlo⟩, ⟨hce, hsl⟩⟩ hsz rfl hrest hdg)
  · refine fq_weaki (fun r w hw => ⟨hw.1, Or.inr (Or.inr (Or.inl hw.2))⟩) (fq_rA (x := ⟨cn_Stage, "make", "()I"⟩) (C := cn_Window) K hK hZ hS hc (ct_Window_make l D cI cO tE h hw hr ha len tt f gg sp xs m hwn (sg_sg2 hwn hm) hmx _) yk_Window_make wd_682 wd_681 wd_645 wd_647 wn_646 sx_make 0 rfl rfl rfl ⟨⟨rfl, rfl⟩, ⟨Nat.le_trans (Nat.le_of_ble_eq_true rfl) hfr, Nat.le_trans (Nat.le_of_ble_eq_true rfl) hlo⟩, ⟨hce, hsl⟩⟩ hsz rfl hrest hdg)
  · refine fq_weaki (fun r w hw => ⟨hw.1, Or.inr (Or.inr (Or.inr hw.2))⟩) (fq_rA (x := ⟨cn_Stage, "make", "()I"⟩) (C := cn_Resampler) K hK hZ hS hc (ct_Resampler_make l D cI cO tE h u d hr ha f sp xs m hrs (sg_sg3 hrs hm) hmx _) yk_Resampler_make wd_665 wd_664 wd_645 wd_647 wn_646 sx_make 0 rfl rfl rfl ⟨⟨rfl, rfl⟩, ⟨Nat.le_trans (Nat.le_of_ble_eq_true rfl) hfr, Nat.le_trans (Nat.le_of_ble_eq_true rfl) hlo⟩, ⟨hce, hsl⟩⟩ hsz rfl hrest hdg)
theorem sx_clear : (⟨cn_Stage, "clear", "()V"⟩ : MethodName).cls ≠ "java/lang/invoke/MethodHandle" ∧ (⟨cn_Stage, "clear", "()V"⟩ : MethodName).cls ≠ "java/lang/invoke/VarHandle" ∧ (parseMethodDescriptor (⟨cn_Stage, "clear", "()V"⟩ : MethodName).desc).map (fun d => d.parameters.length) = some 0 := by decide +kernel
set_option maxHeartbeats 4000000 in
theorem sg_run_clear {p : Program} {l : Launch} {e : Env} {R : Room} {s : State} {mt : MethodId} {args : Array Value} {below : List Frame} {meth : Method} {cd : Code} {H : Heap} {locs : List Loc} {cells slots : Nat} {cc : ByteArray} {nL pc : Nat} {ls : Array Slot} {rest : List Value} {D : va_G} {cI cO : ClassId} {tE : Nat} {A : Nat → Prop} {g : va_W} (K : fq_Ctx p mt cd cc nL s args cn_Chain) (hK : fq_K D cI cO s) (hZ : fq_Z tE A s s.heap) (hS : va_S A s.heap H locs) (hc : fq_cut D A H g) {h : Nat} {sp : fm_S} {xs : List Int} {m : Nat} (hsg : sg_ok cI h sp xs m g)  (hfr : 2 ≤ R.frames) (hlo : 40 ≤ R.locals) (hce : cells ≤ R.cells) (hsl : slots ≤ R.slots) (hsz : ls.size = nL) (hrest : (rest.map fun v => v.category).sum ≤ 8) (hdg : decode cc pc = .ok (.invokevirtual 45, 3)) : va_Run p l e R s mt args below meth cd H locs cells slots 0 0 (F0 mt pc ls (.ref h :: rest)) rest (va_Qv (S := va_W) (fun w => sg_ok cI h sp [] 0 w) (fq_Bw D (va_A g H.size)) (va_A g H.size) (Value.ref h :: []).toArray) (va_A g H.size) := by
  have hfm := sg_m hsg
  rcases hsg with ⟨b0, b1, b2, a1, a2, x0, x1, x2, y1, y2, rfl, hsc⟩ | ⟨fa, la, rfl, hgn⟩ | ⟨hw, hr, ha, len, tt, f, gg, rfl, hwn⟩ | ⟨u, d, hr, ha, f, rfl, hrs⟩
  · refine fq_weakv (fun  w hw => Or.inl hw) (fq_rA (x := ⟨cn_Stage, "clear", "()V"⟩) (C := cn_Section) K hK hZ hS hc (ct_Section_clear l D cI cO tE h b0 b1 b2 a1 a2 x0 x1 x2 y1 y2 sp xs m hsc _) yk_Section_clear wd_531 wd_530 wd_517 wd_519 wn_518 sx_clear 0 rfl rfl rfl ⟨⟨rfl, rfl⟩, ⟨Nat.le_trans (Nat.le_of_ble_eq_true rfl) hfr, Nat.le_trans (Nat.le_of_ble_eq_true rfl) hlo⟩, ⟨hce, hsl⟩⟩ hsz rfl hrest hdg)
  · refine fq_weakv (fun  w hw => Or.inr (Or.inl hw)) (fq_rA (x := ⟨cn_Stage, "clear", "()V"⟩) (C := cn_Gain) K hK hZ hS hc (ct_Gain_clear l D cI cO tE h fa la sp xs m hgn _) yk_Gain_clear wd_521 wd_520 wd_517 wd_519 wn_518 sx_clear 0 rfl rfl rfl ⟨⟨rfl, rfl⟩, ⟨Nat.le_trans (Nat.le_of_ble_eq_true rfl) hfr, Nat.le_trans (Nat.le_of_ble_eq_true rfl) hlo⟩, ⟨hce, hsl⟩⟩ hsz rfl hrest hdg)
  · refine fq_weakv (fun  w hw => Or.inr (Or.inr (Or.inl hw))) (fq_rA (x := ⟨cn_Stage, "clear", "()V"⟩) (C := cn_Window) K hK hZ hS hc (ct_Window_clear l D cI cO tE h hw hr ha len tt f gg sp xs m hwn  _) yk_Window_clear wd_534 wd_533 wd_517 wd_519 wn_518 sx_clear 0 rfl rfl rfl ⟨⟨rfl, rfl⟩, ⟨Nat.le_trans (Nat.le_of_ble_eq_true rfl) hfr, Nat.le_trans (Nat.le_of_ble_eq_true rfl) hlo⟩, ⟨hce, hsl⟩⟩ hsz rfl hrest hdg)
  · refine fq_weakv (fun  w hw => Or.inr (Or.inr (Or.inr hw))) (fq_rA (x := ⟨cn_Stage, "clear", "()V"⟩) (C := cn_Resampler) K hK hZ hS hc (ct_Resampler_clear l D cI cO tE h u d hr ha f sp xs m hrs  _) yk_Resampler_clear wd_524 wd_523 wd_517 wd_519 wn_518 sx_clear 0 rfl rfl rfl ⟨⟨rfl, rfl⟩, ⟨Nat.le_trans (Nat.le_of_ble_eq_true rfl) hfr, Nat.le_trans (Nat.le_of_ble_eq_true rfl) hlo⟩, ⟨hce, hsl⟩⟩ hsz rfl hrest hdg)
