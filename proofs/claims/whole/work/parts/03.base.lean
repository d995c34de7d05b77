/-! One word list for all methods, one form of contract, and the rows that open a method, call one, and return from one. -/
def fq_TB : List Cond := lw_tbl.filter goodWord
theorem fq_in {w : Cond} (i : Nat) (h : lw_tbl[i]? = some w) (hg : goodWord w = true) : w ∈ fq_TB := List.mem_filter.mpr ⟨List.mem_of_getElem? h, hg⟩
def fq_w (y : MethodName) (b : ByteArray) (n : Nat) (r : Option FieldType) : List Cond := Cond.code y b n r :: fq_TB
theorem fq_gi {y : MethodName} {b : ByteArray} {n : Nat} {r : Option FieldType} (h : Cond.code y b n r ∈ fq_TB) : GoodIn fq_TB (fq_w y b n r) := by
  intro w hw
  rcases List.mem_cons.mp hw with rfl | hw
  · exact ⟨h, good_of_word (List.mem_filter.mp h).2⟩
  · exact ⟨hw, good_of_word (List.mem_filter.mp hw).2⟩
/-- the words that are not kept by the kit's rule, but by rows of their own -/
def fq_okw : Cond → Bool
  | .fieldLinkNest .. => true
  | .methodLinkNest .. => true
  | .declares _ => true
  | .castable .. => true
  | _ => false
theorem fq_okw_tab {w : Cond} (h : fq_okw w = true) : w.onTables = true := by
  cases w <;> first | rfl | (simp [fq_okw] at h)
theorem fq_okw_warm {w : Cond} (h : fq_okw w = true) {s U : State} (hW : s.WarmedH U.vm) (hZ : va_Nw w s) : va_Nw w U := by
  cases w <;> first | exact va_Nw.warmF hW hZ | exact va_Nw.warmM hW hZ | exact va_Nw.warmD hW hZ | exact va_Nw.warmC hW hZ | (simp [fq_okw] at h)
/-- what holds of the tables, at every state of the run -/
def fq_K (D : va_G) (cI cO : ClassId) (U : State) : Prop :=
  va_K D fq_cl [(cI, .int), (cO, .object "java/lang/Object")] U ∧ (∀ w ∈ lw_tbl, fq_okw w = true → va_Nw w U) ∧ (va_Nc cn_Gain cn_Section U ∧ va_Nc cn_Window cn_Section U ∧ va_Nc cn_Resampler cn_Section U ∧ va_AO "java/lang/Object" U)
theorem fq_K.warm {D : va_G} {cI cO : ClassId} {s U : State} (hW : s.WarmedH U.vm) (h : fq_K D cI cO s) : fq_K D cI cO U :=
  ⟨va_K.moved hW.alike h.1, fun w hw hk => fq_okw_warm hk hW (h.2.1 w hw hk), h.2.2.1.moved hW.alike, h.2.2.2.1.moved hW.alike, h.2.2.2.2.1.moved hW.alike, h.2.2.2.2.2.moved hW.alike⟩
theorem fq_K.call {D : va_G} {cI cO : ClassId} {U : State} {g : JFrame} {mk : MethodId} {a : Array Value} (h : fq_K D cI cO U) : fq_K D cI cO (U.calling g mk a) :=
  ⟨va_K.moved (u := U) (U := U.calling g mk a) (Vm.Alike.refl U.vm) h.1, fun w hw hk => va_Nw.same (u := U) (U := U.calling g mk a) (fq_okw_tab hk) rfl (h.2.1 w hw hk), va_Nc.moved (u := U) (U := U.calling g mk a) (Vm.Alike.refl U.vm) h.2.2.1, va_Nc.moved (u := U) (U := U.calling g mk a) (Vm.Alike.refl U.vm) h.2.2.2.1, va_Nc.moved (u := U) (U := U.calling g mk a) (Vm.Alike.refl U.vm) h.2.2.2.2.1, va_AO.moved (u := U) (U := U.calling g mk a) (Vm.Alike.refl U.vm) h.2.2.2.2.2⟩
/-- ArrayList's static that an empty list shares -/
def fq_Z (tE : Nat) (A : Nat → Prop) (U : State) (H : Heap) : Prop := va_Z "java/util/ArrayList" "DEFAULTCAPACITY_EMPTY_ELEMENTDATA" "[Ljava/lang/Object;" (.ref tE) A U H ∧ va_T (.object "java/lang/Object") tE 0 (fun _ => .null) A U H
theorem fq_Z.moved {tE : Nat} {A : Nat → Prop} {u U : State} {H : Heap} (hvm : u.vm.Alike U.vm) (h : fq_Z tE A u H) : fq_Z tE A U H := ⟨h.1.moved hvm, h.2.moved hvm⟩
theorem fq_Z.kept {tE : Nat} {A : Nat → Prop} {U : State} {H H1 : Heap} (h : fq_Z tE A U H) (hq : ∀ a : Nat, a < H.size → ¬ A a → H1[a]? = H[a]?) : fq_Z tE A U H1 := ⟨h.1.kept hq, h.2.kept hq⟩
theorem fq_Z.narrow {tE : Nat} {A B : Nat → Prop} {U : State} {H : Heap} (h : fq_Z tE A U H) (hAB : ∀ q, B q → A q) : fq_Z tE B U H := ⟨h.1.narrow hAB, h.2.narrow hAB⟩
def fq_Pre (D : va_G) (cI cO : ClassId) (tE : Nat) (sz : Nat) (ws : va_W) (U : State) : Prop :=
  U.heap.size = sz ∧ va_P D fq_cl ws U.heap ∧ fq_K D cI cO U ∧ va_D (fun _ => True) ws ∧ fq_Z tE (va_A ws sz) U U.heap
def fq_Bw (D : va_G) (A : Nat → Prop) (w : va_W) (t : State) : Prop := va_P D fq_cl w t.heap ∧ va_D A w
abbrev fq_Ctx (p : Program) (m : MethodId) (c : Code) (cc : ByteArray) (nL : Nat) (s : State) (args : Array Value) (own : String) : Prop := CallFix p m c cc nL s args fq_TB own
/-- the contract of a method that answers an int (a boolean is one) -/
def fq_Ci (l : Launch) (D : va_G) (cI cO : ClassId) (tE : Nat) (y : MethodName) (b : ByteArray) (n : Nat) (ret : FieldType) (rm : Room) (av : List Value) (ws : va_W) (mc ms : Nat) (post : Int32 → va_W → Prop) : Prop :=
  ∀ sz : Nat, Met l y (fq_w y b n (some ret)) rm (va_Pc av (fq_Pre D cI cO tE sz ws)) (va_Qi (S := va_W) post (fq_Bw D (va_A ws sz)) (va_A ws sz)) mc ms (va_A ws sz)
def fq_Cl (l : Launch) (D : va_G) (cI cO : ClassId) (tE : Nat) (y : MethodName) (b : ByteArray) (n : Nat) (rm : Room) (av : List Value) (ws : va_W) (mc ms : Nat) (post : Int64 → va_W → Prop) : Prop :=
  ∀ sz : Nat, Met l y (fq_w y b n (some .long)) rm (va_Pc av (fq_Pre D cI cO tE sz ws)) (va_Ql (S := va_W) post (fq_Bw D (va_A ws sz)) (va_A ws sz)) mc ms (va_A ws sz)
def fq_Cv (l : Launch) (D : va_G) (cI cO : ClassId) (tE : Nat) (y : MethodName) (b : ByteArray) (n : Nat) (rm : Room) (av : List Value) (ws : va_W) (mc ms : Nat) (post : va_W → Prop) : Prop :=
  ∀ sz : Nat, Met l y (fq_w y b n none) rm (va_Pc av (fq_Pre D cI cO tE sz ws)) (va_Qv (S := va_W) post (fq_Bw D (va_A ws sz)) (va_A ws sz)) mc ms (va_A ws sz)
def fq_Cq (l : Launch) (D : va_G) (cI cO : ClassId) (tE : Nat) (y : MethodName) (b : ByteArray) (n : Nat) (ret : FieldType) (rm : Room) (av : List Value) (ws : va_W) (mc ms : Nat) (post : Option Nat → va_W → Prop) : Prop :=
  ∀ sz : Nat, Met l y (fq_w y b n (some ret)) rm (va_Pc av (fq_Pre D cI cO tE sz ws)) (va_Qq (S := va_W) post (fq_Bw D (va_A ws sz)) (va_A ws sz)) mc ms (va_A ws sz)
theorem fq_open {l : Launch} {D : va_G} {cI cO : ClassId} {tE : Nat} {y : MethodName} {b : ByteArray} {n : Nat} {ret : Option FieldType} {rm : Room} {av : List Value} {ws : va_W} {sz mc ms : Nat} {Qc : Array Value → State → Outcome → State → Prop}
    (hy : plainFor y = true) (hn : (lg_sl av).length ≤ n)
    (body : ∀ (p : Program) (e : Env) (s : State) (m : MethodId) (below : List Frame) (meth : Method) (c : Code) (ls : Array Slot), fq_Ctx p m c b n s av.toArray y.cls → meth.sig.returnType = ret → meth.locks = false → meth.name = y.name →
      fq_K D cI cO s → fq_Z tE (va_A ws sz) s s.heap → va_P D fq_cl ws s.heap → va_D (va_A ws sz) ws → (∀ q : Nat, s.heap.size ≤ q → va_A ws sz q) → va_S (va_A ws sz) s.heap s.heap [] → lv_has ls n (lv_args 0 av) →
      W p l e rm s m av.toArray below meth c s.heap [] 0 0 (MQ below Qc av.toArray s mc ms (va_A ws sz)) (F0 m 0 ls [])) :
    Met l y (fq_w y b n ret) rm (va_Pc av (fq_Pre D cI cO tE sz ws)) Qc mc ms (va_A ws sz) := by
  refine va_MetF (cc := b) (maxL := n) (ret := ret) hy rfl ?_
  intro p e s m args below meth c s₁ B hml hv
  obtain ⟨rfl, rfl, hP, hK, hD, hZ⟩ := hv
  have hts := atoms_spec (ws := fq_w y b n ret) B.pre
  have hown : s.vm.findClass y.cls = some m.cls := findClass_of_methodNamed B.named
  have hl := lv_entry av (n := n) hn
  rw [lg_entry_eq]
  generalize (lg_sl av ++ List.replicate (n - (lg_sl av).length) Slot.unset).toArray = ls at hl ⊢
  exact body p e s m below meth c ls ⟨B.exec, B.bytes, hml, hown, fun w hw => hts w (List.mem_cons_of_mem _ hw)⟩ B.returns B.notSynchronized (name_of_methodNamed B.named B.method).1 hK hZ hP hD.self (fun q h => Or.inr h) va_S.rf hl
section FQ
variable {p : Program} {l : Launch} {e : Env} {R : Room} {s : State} {m : MethodId} {args : Array Value} {below : List Frame} {meth : Method} {c : Code} {H : Heap} {locs : List Loc} {cells slots : Nat} {Q : State → Prop}
variable {cc : ByteArray} {nL pc : Nat} {ls : Array Slot} {rest st0 : List Value} {D : va_G} {cI cO : ClassId} {tE : Nat} {A : Nat → Prop} {w ws wc wr : va_W} {mc ms : Nat} {own : String}
theorem fq_reti {post : Int32 → va_W → Prop} {v : Int32} (K : fq_Ctx p m c cc nL s args own) (hr : meth.sig.returnType = some .int) (hlk : meth.locks = false) (hS : va_S A s.heap H locs) (hP : va_P D fq_cl w H) (hD : va_D A w) (hpost : post v w)
    (hdg : decode cc pc = .ok (.ireturn, 1)) (h1 : cells ≤ mc) (h2 : slots ≤ ms) : W p l e R s m args below meth c H locs cells slots (MQ below (va_Qi (S := va_W) post (fq_Bw D A) A) args s mc ms A) (F0 m pc ls [.int v]) :=
  W.widen h1 h2 (W.iret K.1 K.2.1 hr (fun t ht hW => ⟨⟨v, w, rfl, hpost, by rw [ht]; exact hP, hD⟩, hS.F ht⟩) hS.2.2 hdg hlk)
theorem fq_retz {post : Int32 → va_W → Prop} {v : Int32} (K : fq_Ctx p m c cc nL s args own) (hr : meth.sig.returnType = some .boolean) (hlk : meth.locks = false) (hS : va_S A s.heap H locs) (hP : va_P D fq_cl w H) (hD : va_D A w) (hv : v = 0 ∨ v = 1) (hpost : post v w)
    (hdg : decode cc pc = .ok (.ireturn, 1)) (h1 : cells ≤ mc) (h2 : slots ≤ ms) : W p l e R s m args below meth c H locs cells slots (MQ below (va_Qi (S := va_W) post (fq_Bw D A) A) args s mc ms A) (F0 m pc ls [.int v]) :=
  W.widen h1 h2 (W.zret K.1 K.2.1 hr (by rcases hv with rfl | rfl <;> rfl) (fun t ht hW => ⟨⟨v, w, rfl, hpost, by rw [ht]; exact hP, hD⟩, hS.F ht⟩) hS.2.2 hdg hlk)
theorem fq_retl {post : Int64 → va_W → Prop} {v : Int64} (K : fq_Ctx p m c cc nL s args own) (hr : meth.sig.returnType = some .long) (hlk : meth.locks = false) (hS : va_S A s.heap H locs) (hP : va_P D fq_cl w H) (hD : va_D A w) (hpost : post v w)
    (hdg : decode cc pc = .ok (.lreturn, 1)) (h1 : cells ≤ mc) (h2 : slots ≤ ms) : W p l e R s m args below meth c H locs cells slots (MQ below (va_Ql (S := va_W) post (fq_Bw D A) A) args s mc ms A) (F0 m pc ls [.long v]) :=
  W.widen h1 h2 (W.lret K.1 K.2.1 hr (fun t ht hW => ⟨⟨v, w, rfl, hpost, by rw [ht]; exact hP, hD⟩, hS.F ht⟩) hS.2.2 hdg hlk)
theorem fq_retv {post : va_W → Prop} (K : fq_Ctx p m c cc nL s args own) (hr : meth.sig.returnType = none) (hlk : meth.locks = false) (hS : va_S A s.heap H locs) (hP : va_P D fq_cl w H) (hD : va_D A w) (hpost : post w)
    (hdg : decode cc pc = .ok (.return_, 1)) (h1 : cells ≤ mc) (h2 : slots ≤ ms) : W p l e R s m args below meth c H locs cells slots (MQ below (va_Qv (S := va_W) post (fq_Bw D A) A) args s mc ms A) (F0 m pc ls []) :=
  W.widen h1 h2 (W.vret K.1 K.2.1 hr (fun t ht hW => ⟨⟨w, rfl, hpost, by rw [ht]; exact hP, hD⟩, hS.F ht⟩) hS.2.2 hdg hlk)
theorem fq_retq {post : Option Nat → va_W → Prop} {r : Option Nat} {rt : FieldType} (K : fq_Ctx p m c cc nL s args own) (hr : meth.sig.returnType = some rt) (hrt : (∃ n, rt = .object n) ∨ ∃ t, rt = .array t) (hlk : meth.locks = false) (hS : va_S A s.heap H locs) (hP : va_P D fq_cl w H) (hD : va_D A w) (hpost : post r w)
    (hdg : decode cc pc = .ok (.areturn, 1)) (h1 : cells ≤ mc) (h2 : slots ≤ ms) : W p l e R s m args below meth c H locs cells slots (MQ below (va_Qq (S := va_W) post (fq_Bw D A) A) args s mc ms A) (F0 m pc ls [va_rf r]) :=
  W.widen h1 h2 (W.aret K.1 K.2.1 hr hrt (va_rf_or r) (fun t ht hW => ⟨⟨r, w, rfl, hpost, by rw [ht]; exact hP, hD⟩, hS.F ht⟩) hS.2.2 hdg hlk)
/-- the start of a callee, out of the caller's world -/
theorem fq_blind {av : List Value} {sz : Nat} : FrameBlind (va_Pc av (fq_Pre D cI cO tE sz wc)) := by
  intro a U g mk q
  obtain ⟨q0, q1, q2, q3, q4, q5⟩ := q
  exact ⟨q0, q1, q2, q3.call, q4, fq_Z.moved (u := U) (U := U.calling g mk a) (Vm.Alike.refl U.vm) q5⟩
theorem fq_pre {av : List Value} (hK : fq_K D cI cO s) (hZ : fq_Z tE A s s.heap) (hS : va_S A s.heap H locs) (hP : va_P D fq_cl wc H) (hD : va_D A wc) (hF : ∀ q, va_A wc H.size q → A q) :
    ∀ U : State, U.heap = H → s.WarmedH U.vm → va_Pc av (fq_Pre D cI cO tE H.size wc) av.toArray U := by
  intro U hU hW
  subst hU
  exact ⟨rfl, rfl, hP, hK.warm hW, hD.weaken (fun _ _ _ _ => trivial), ((fq_Z.kept hZ hS.2.1).narrow hF).moved hW.alike⟩
end FQ
/-- what a method's own rows of the tables say: an instance method that its own class selects -/
def fq_Y (y : MethodName) (b : ByteArray) (n : Nat) (r : Option FieldType) (k : Nat) : Prop :=
  Cond.code y b n r ∈ fq_TB ∧ Cond.initialized y.cls ∈ fq_TB ∧ (y.cls ≠ "java/lang/invoke/MethodHandle" ∧ y.cls ≠ "java/lang/invoke/VarHandle" ∧ (parseMethodDescriptor y.desc).map (fun d => d.parameters.length) = some k)
section FR
variable {p : Program} {l : Launch} {e : Env} {R : Room} {s : State} {m : MethodId} {args : Array Value} {below : List Frame} {meth : Method} {c : Code} {H : Heap} {locs : List Loc} {cells slots : Nat} {Q : State → Prop}
variable {cc : ByteArray} {nL pc : Nat} {ls : Array Slot} {rest st0 : List Value} {D : va_G} {cI cO : ClassId} {tE : Nat} {A : Nat → Prop} {w ws wc wr : va_W} {mc ms : Nat} {own : String}
variable {y : MethodName} {bytes : ByteArray} {maxL index k : Nat} {ret : Option FieldType} {rm : Room} {Qc : Array Value → State → Outcome → State → Prop} {free : Addr → Prop} {b : Addr} {As : List Value}
/-- a callee's cells out of the caller's world -/
def fq_cut (D : va_G) (A : Nat → Prop) (H : Heap) (wc : va_W) : Prop := va_P D fq_cl wc H ∧ va_D A wc ∧ ∀ q, va_A wc H.size q → A q
theorem fq_cut.of (hP : va_P D fq_cl ws H) (hD : va_D A ws) (hS : va_S A s.heap H locs) (hA : ∀ q, s.heap.size ≤ q → A q) (is : List Nat) (hn : va_nd is = true) (hs : is.map (fun i => ws[i]?) = wc.map some) : fq_cut D A H wc :=
  ⟨hP.sub is (by
    have h := congrArg (List.filterMap id) hs
    simpa [List.filterMap_map] using h), hD.sub is hn hs, va_free hD hS hA is hs⟩
/-- the room that a callee takes of its caller's -/
abbrev fq_fit (rm R : Room) (maxL cells slots mc ms : Nat) : Prop := (rm.cells = mc ∧ rm.slots = ms) ∧ (rm.frames + 1 ≤ R.frames ∧ 8 + (maxL + 11) + rm.locals ≤ R.locals) ∧ (cells + mc ≤ R.cells ∧ slots + ms ≤ R.slots)
theorem fq_rV (K : fq_Ctx p m c cc nL s args own) (hK : fq_K D cI cO s) (hZ : fq_Z tE A s s.heap) (hS : va_S A s.heap H locs) (hc : fq_cut D A H wc)
    (hM : Met l y (fq_w y bytes maxL ret) rm (va_Pc (.ref b :: As) (fq_Pre D cI cO tE H.size wc)) Qc mc ms free) (hY : fq_Y y bytes maxL ret As.length) (hin : Cond.instanceMethod y ∈ fq_TB) (hse : Cond.selects y.cls y y ∈ fq_TB) (hlink : Cond.methodLink own index y ∈ fq_TB)
    (q0 : Nat) {ci : Nat} {fs : List Value} {q : vw_C} (he : wc[q0]? = some (b, .inr (ci, fs))) (hq : fq_cl[ci]? = some q) (hqc : q.1 = y.cls)
    (hfit : fq_fit rm R maxL cells slots mc ms) (hsz : ls.size = nL) (hstack : st0 = As.reverse ++ .ref b :: rest) (hrest : (rest.map fun v => v.category).sum ≤ 8) (hdg : decode cc pc = .ok (.invokevirtual index, 3)) :
    va_Run p l e R s m args below meth c H locs cells slots mc ms (F0 m pc ls st0) rest (Qc (Value.ref b :: As).toArray) free := by
  obtain ⟨h1, h2, h3⟩ := hfit
  have hts := K.2.2.2.2
  have hcb := callB_of (own := own) (index := index) (R := R) (mc := mc) (ms := ms) As.length hts (fq_gi hY.1) rfl h1.1 h1.2 (hts _ hY.2.1) (hts _ hlink) hY.2.2 h2
  have hrv := va_recv hK.1 hc.1 hq he
  rw [hqc] at hrv
  exact va_runV K hM ⟨hcb, hts _ hin, hts _ hse⟩ ⟨fq_blind, hrv, fq_pre hK hZ hS hc.1 hc.2.1 hc.2.2⟩ rfl rfl hsz hstack (lv_room hrest) hdg h3
theorem fq_rI (K : fq_Ctx p m c cc nL s args own) (hK : fq_K D cI cO s) (hZ : fq_Z tE A s s.heap) (hS : va_S A s.heap H locs) (hc : fq_cut D A H wc)
    (hM : Met l y (fq_w y bytes maxL none) rm (va_Pc (.ref b :: As) (fq_Pre D cI cO tE H.size wc)) Qc mc ms free) (hY : fq_Y y bytes maxL none As.length) (hin : Cond.instanceMethod y ∈ fq_TB) (hy : y.name = "<init>") (hlink : Cond.methodLink own index y ∈ fq_TB)
    (hfit : fq_fit rm R maxL cells slots mc ms) (hsz : ls.size = nL) (hstack : st0 = As.reverse ++ .ref b :: rest) (hrest : (rest.map fun v => v.category).sum ≤ 8) (hdg : decode cc pc = .ok (.invokespecial index, 3)) :
    va_Run p l e R s m args below meth c H locs cells slots mc ms (F0 m pc ls st0) rest (Qc (Value.ref b :: As).toArray) free := by
  obtain ⟨h1, h2, h3⟩ := hfit
  have hts := K.2.2.2.2
  have hcb := callB_of (own := own) (index := index) (R := R) (mc := mc) (ms := ms) As.length hts (fq_gi hY.1) rfl h1.1 h1.2 (hts _ hY.2.1) (hts _ hlink) hY.2.2 h2
  exact va_runI K hM ⟨hcb, hy, hts _ hin⟩ ⟨fq_blind, fq_pre hK hZ hS hc.1 hc.2.1 hc.2.2⟩ rfl rfl hsz hstack (lv_room hrest) hdg h3
theorem fq_rS (K : fq_Ctx p m c cc nL s args own) (hK : fq_K D cI cO s) (hZ : fq_Z tE A s s.heap) (hS : va_S A s.heap H locs) (hc : fq_cut D A H wc)
    (hM : Met l y (fq_w y bytes maxL ret) rm (va_Pc As (fq_Pre D cI cO tE H.size wc)) Qc mc ms free) (hY : fq_Y y bytes maxL ret As.length) (hst : Cond.static y ∈ fq_TB) (hlink : Cond.methodLink own index y ∈ fq_TB)
    (hfit : fq_fit rm R maxL cells slots mc ms) (hsz : ls.size = nL) (hstack : st0 = As.reverse ++ rest) (hrest : (rest.map fun v => v.category).sum ≤ 8) (hdg : decode cc pc = .ok (.invokestatic index, 3)) :
    va_Run p l e R s m args below meth c H locs cells slots mc ms (F0 m pc ls st0) rest (Qc As.toArray) free := by
  obtain ⟨h1, h2, h3⟩ := hfit
  have hts := K.2.2.2.2
  have hcb := callB_of (own := own) (index := index) (R := R) (mc := mc) (ms := ms) As.length hts (fq_gi hY.1) rfl h1.1 h1.2 (hts _ hY.2.1) (hts _ hlink) hY.2.2 h2
  exact va_runS K hM ⟨hcb, hts _ hst⟩ ⟨fq_blind, fq_pre hK hZ hS hc.1 hc.2.1 hc.2.2⟩ rfl rfl hsz hstack (lv_room hrest) hdg h3
/-- the same, where the link goes to a private method of a nest mate -/
theorem fq_cn {host : String} (K : fq_Ctx p m c cc nL s args own) (hK : fq_K D cI cO s) (hY : fq_Y y bytes maxL ret k) (hlink : Cond.methodLinkNest own index y host ∈ lw_tbl) (h1 : rm.cells = mc ∧ rm.slots = ms) (h2 : rm.frames + 1 ≤ R.frames ∧ 8 + (maxL + 11) + rm.locals ≤ R.locals) :
    va_CN R s args own index y host bytes maxL ret (fq_w y bytes maxL ret) rm mc ms k :=
  va_cnB k K.2.2.2.2 (fq_gi hY.1) rfl h1.1 h1.2 (hK.2.1 _ hlink rfl) (K.2.2.2.2 _ hY.2.1) hY.2.2 h2
theorem fq_rSN {host : String} (K : fq_Ctx p m c cc nL s args own) (hK : fq_K D cI cO s) (hZ : fq_Z tE A s s.heap) (hS : va_S A s.heap H locs) (hc : fq_cut D A H wc)
    (hM : Met l y (fq_w y bytes maxL ret) rm (va_Pc As (fq_Pre D cI cO tE H.size wc)) Qc mc ms free) (hY : fq_Y y bytes maxL ret As.length) (hst : Cond.static y ∈ fq_TB) (hlink : Cond.methodLinkNest own index y host ∈ lw_tbl)
    (hfit : fq_fit rm R maxL cells slots mc ms) (hsz : ls.size = nL) (hstack : st0 = As.reverse ++ rest) (hrest : (rest.map fun v => v.category).sum ≤ 8) (hdg : decode cc pc = .ok (.invokestatic index, 3)) :
    va_Run p l e R s m args below meth c H locs cells slots mc ms (F0 m pc ls st0) rest (Qc As.toArray) free := by
  obtain ⟨h1, h2, h3⟩ := hfit
  exact va_runSN K hM ⟨fq_cn K hK hY hlink h1 h2, K.2.2.2.2 _ hst, trivial⟩ ⟨fq_blind, fq_pre hK hZ hS hc.1 hc.2.1 hc.2.2⟩ rfl rfl hsz hstack (lv_room hrest) hdg h3
theorem fq_rVN {host : String} (K : fq_Ctx p m c cc nL s args own) (hK : fq_K D cI cO s) (hZ : fq_Z tE A s s.heap) (hS : va_S A s.heap H locs) (hc : fq_cut D A H wc)
    (hM : Met l y (fq_w y bytes maxL ret) rm (va_Pc (.ref b :: As) (fq_Pre D cI cO tE H.size wc)) Qc mc ms free) (hY : fq_Y y bytes maxL ret As.length) (hin : Cond.instanceMethod y ∈ fq_TB) (hse : Cond.selects y.cls y y ∈ fq_TB) (hlink : Cond.methodLinkNest own index y host ∈ lw_tbl)
    (q0 : Nat) {ci : Nat} {fs : List Value} {q : vw_C} (he : wc[q0]? = some (b, .inr (ci, fs))) (hq : fq_cl[ci]? = some q) (hqc : q.1 = y.cls)
    (hfit : fq_fit rm R maxL cells slots mc ms) (hsz : ls.size = nL) (hstack : st0 = As.reverse ++ .ref b :: rest) (hrest : (rest.map fun v => v.category).sum ≤ 8) (hdg : decode cc pc = .ok (.invokevirtual index, 3)) :
    va_Run p l e R s m args below meth c H locs cells slots mc ms (F0 m pc ls st0) rest (Qc (Value.ref b :: As).toArray) free := by
  obtain ⟨h1, h2, h3⟩ := hfit
  have hrv := va_recv hK.1 hc.1 hq he
  rw [hqc] at hrv
  exact va_runVN K hM ⟨fq_cn K hK hY hlink h1 h2, K.2.2.2.2 _ hin, K.2.2.2.2 _ hse⟩ ⟨fq_blind, hrv, fq_pre hK hZ hS hc.1 hc.2.1 hc.2.2⟩ rfl rfl hsz hstack (lv_room hrest) hdg h3
theorem fq_rIN {host : String} (K : fq_Ctx p m c cc nL s args own) (hK : fq_K D cI cO s) (hZ : fq_Z tE A s s.heap) (hS : va_S A s.heap H locs) (hc : fq_cut D A H wc)
    (hM : Met l y (fq_w y bytes maxL none) rm (va_Pc (.ref b :: As) (fq_Pre D cI cO tE H.size wc)) Qc mc ms free) (hY : fq_Y y bytes maxL none As.length) (hin : Cond.instanceMethod y ∈ fq_TB) (hy : y.name = "<init>") (hlink : Cond.methodLinkNest own index y host ∈ lw_tbl)
    (hfit : fq_fit rm R maxL cells slots mc ms) (hsz : ls.size = nL) (hstack : st0 = As.reverse ++ .ref b :: rest) (hrest : (rest.map fun v => v.category).sum ≤ 8) (hdg : decode cc pc = .ok (.invokespecial index, 3)) :
    va_Run p l e R s m args below meth c H locs cells slots mc ms (F0 m pc ls st0) rest (Qc (Value.ref b :: As).toArray) free := by
  obtain ⟨h1, h2, h3⟩ := hfit
  exact va_runIN K hM ⟨fq_cn K hK hY hlink h1 h2, hy, K.2.2.2.2 _ hin⟩ ⟨fq_blind, fq_pre hK hZ hS hc.1 hc.2.1 hc.2.2⟩ rfl rfl hsz hstack (lv_room hrest) hdg h3
/-- behind a call: the rest, and the callee's new world -/
theorem fq_ci {post : Int32 → va_W → Prop} {a : Array Value} (hr : va_Run p l e R s m args below meth c H locs cells slots mc ms (F0 m pc ls st0) rest (va_Qi (S := va_W) post (fq_Bw D (va_A wc H.size)) (va_A wc H.size) a) (va_A wc H.size))
    (hP : va_P D fq_cl ws H) (hD : va_D A ws) (hS : va_S A s.heap H locs) (hc : fq_cut D A H wc) (isC isR : List Nat) (hC : isC.map (fun i => ws[i]?) = wc.map some) (hR : isR.map (fun i => ws[i]?) = wr.map some) (hn : va_nd isR = true) (hdis : ∀ i ∈ isR, i ∉ isC)
    (kk : ∀ (r : Int32) (w : va_W) (H1 : Heap) (locs1 : List Loc), post r w → va_P D fq_cl (wr ++ w) H1 → va_D A (wr ++ w) → va_S A s.heap H1 locs1 → W p l e R s m args below meth c H1 locs1 (cells + mc) (slots + ms) Q (F0 m (pc + 3) ls (.int r :: rest))) : W p l e R s m args below meth c H locs cells slots Q (F0 m pc ls st0) := by
  refine va_calli hr hS (fun q _ h => hc.2.2 q h) hc.2.2 (fun r u t H1 locs1 ht hvm hp hB hz hk hS1 => ?_)
  obtain ⟨hP1, hD1⟩ := hB
  rw [ht] at hP1
  obtain ⟨hP2, hD2⟩ := va_join hP hD isC isR hC hR hn hdis hk hc.2.2 hP1 hD1
  exact kk r u H1 locs1 hp hP2 hD2 hS1
theorem fq_cl_ {post : Int64 → va_W → Prop} {a : Array Value} (hr : va_Run p l e R s m args below meth c H locs cells slots mc ms (F0 m pc ls st0) rest (va_Ql (S := va_W) post (fq_Bw D (va_A wc H.size)) (va_A wc H.size) a) (va_A wc H.size))
    (hP : va_P D fq_cl ws H) (hD : va_D A ws) (hS : va_S A s.heap H locs) (hc : fq_cut D A H wc) (isC isR : List Nat) (hC : isC.map (fun i => ws[i]?) = wc.map some) (hR : isR.map (fun i => ws[i]?) = wr.map some) (hn : va_nd isR = true) (hdis : ∀ i ∈ isR, i ∉ isC)
    (kk : ∀ (r : Int64) (w : va_W) (H1 : Heap) (locs1 : List Loc), post r w → va_P D fq_cl (wr ++ w) H1 → va_D A (wr ++ w) → va_S A s.heap H1 locs1 → W p l e R s m args below meth c H1 locs1 (cells + mc) (slots + ms) Q (F0 m (pc + 3) ls (.long r :: rest))) : W p l e R s m args below meth c H locs cells slots Q (F0 m pc ls st0) := by
  refine va_calll hr hS (fun q _ h => hc.2.2 q h) hc.2.2 (fun r u t H1 locs1 ht hvm hp hB hz hk hS1 => ?_)
  obtain ⟨hP1, hD1⟩ := hB
  rw [ht] at hP1
  obtain ⟨hP2, hD2⟩ := va_join hP hD isC isR hC hR hn hdis hk hc.2.2 hP1 hD1
  exact kk r u H1 locs1 hp hP2 hD2 hS1
theorem fq_cv {post : va_W → Prop} {a : Array Value} (hr : va_Run p l e R s m args below meth c H locs cells slots mc ms (F0 m pc ls st0) rest (va_Qv (S := va_W) post (fq_Bw D (va_A wc H.size)) (va_A wc H.size) a) (va_A wc H.size))
    (hP : va_P D fq_cl ws H) (hD : va_D A ws) (hS : va_S A s.heap H locs) (hc : fq_cut D A H wc) (isC isR : List Nat) (hC : isC.map (fun i => ws[i]?) = wc.map some) (hR : isR.map (fun i => ws[i]?) = wr.map some) (hn : va_nd isR = true) (hdis : ∀ i ∈ isR, i ∉ isC)
    (kk : ∀ (w : va_W) (H1 : Heap) (locs1 : List Loc), post w → va_P D fq_cl (wr ++ w) H1 → va_D A (wr ++ w) → va_S A s.heap H1 locs1 → W p l e R s m args below meth c H1 locs1 (cells + mc) (slots + ms) Q (F0 m (pc + 3) ls rest)) : W p l e R s m args below meth c H locs cells slots Q (F0 m pc ls st0) := by
  refine va_callv hr hS (fun q _ h => hc.2.2 q h) hc.2.2 (fun u t H1 locs1 ht hvm hp hB hz hk hS1 => ?_)
  obtain ⟨hP1, hD1⟩ := hB
  rw [ht] at hP1
  obtain ⟨hP2, hD2⟩ := va_join hP hD isC isR hC hR hn hdis hk hc.2.2 hP1 hD1
  exact kk u H1 locs1 hp hP2 hD2 hS1
theorem fq_cq {post : Option Nat → va_W → Prop} {a : Array Value} (hr : va_Run p l e R s m args below meth c H locs cells slots mc ms (F0 m pc ls st0) rest (va_Qq (S := va_W) post (fq_Bw D (va_A wc H.size)) (va_A wc H.size) a) (va_A wc H.size))
    (hP : va_P D fq_cl ws H) (hD : va_D A ws) (hS : va_S A s.heap H locs) (hc : fq_cut D A H wc) (isC isR : List Nat) (hC : isC.map (fun i => ws[i]?) = wc.map some) (hR : isR.map (fun i => ws[i]?) = wr.map some) (hn : va_nd isR = true) (hdis : ∀ i ∈ isR, i ∉ isC)
    (kk : ∀ (r : Option Nat) (w : va_W) (H1 : Heap) (locs1 : List Loc), post r w → va_P D fq_cl (wr ++ w) H1 → va_D A (wr ++ w) → va_S A s.heap H1 locs1 → W p l e R s m args below meth c H1 locs1 (cells + mc) (slots + ms) Q (F0 m (pc + 3) ls (va_rf r :: rest))) : W p l e R s m args below meth c H locs cells slots Q (F0 m pc ls st0) := by
  refine va_callq hr hS (fun q _ h => hc.2.2 q h) hc.2.2 (fun r u t H1 locs1 ht hvm hp hB hz hk hS1 => ?_)
  obtain ⟨hP1, hD1⟩ := hB
  rw [ht] at hP1
  obtain ⟨hP2, hD2⟩ := va_join hP hD isC isR hC hR hn hdis hk hc.2.2 hP1 hD1
  exact kk r u H1 locs1 hp hP2 hD2 hS1
end FR
/-- what the tables say of a class whose objects the worlds hold -/
def fq_L (ci : Nat) (C : String) (T : u_T) (N : Nat) (ty : Nat → FieldType) : Prop :=
  fq_cl[ci]? = some (C, T, N) ∧ (∀ w ∈ u_ws C T N, w ∈ fq_TB) ∧ (∀ k, k < N → parseFieldDescriptor (T k).2.2.1 = some (ty k)) ∧ (∀ a, a < N → ∀ b, b < N → a ≠ b → (T a).2.1 ≠ (T b).2.1)
section FG
variable {p : Program} {l : Launch} {e : Env} {R : Room} {s : State} {m : MethodId} {args : Array Value} {below : List Frame} {meth : Method} {c : Code} {H : Heap} {locs : List Loc} {cells slots : Nat} {Q : State → Prop}
variable {cc : ByteArray} {nL pc : Nat} {ls : Array Slot} {rest : List Value} {D : va_G} {cI cO : ClassId} {tE : Nat} {A : Nat → Prop} {ws : va_W} {own : String} {ci index : Nat} {C : String} {T : u_T} {N : Nat} {ty : Nat → FieldType} {a : Nat} {fs : List Value} {v : Value}
theorem fq_get (K : fq_Ctx p m c cc nL s args own) (hK : fq_K D cI cO s) (hL : fq_L ci C T N ty) (hP : va_P D fq_cl ws H) (q0 k : Nat) (he : ws[q0]? = some (a, .inr (ci, fs))) (hk : k < N) (hlink : Cond.fieldLink own index (T k).1 (T k).2.1 (T k).2.2.1 ∈ fq_TB) (hv : fs[k]? = some v) (hdg : decode cc pc = .ok (.getfield index, 3))
    (kk : W p l e R s m args below meth c H locs cells slots Q (F0 m (pc + 3) ls (v :: rest))) : W p l e R s m args below meth c H locs cells slots Q (F0 m pc ls (.ref a :: rest)) :=
  va_get K.1 K.2.1 K.2.2.2.2 hL.2.1 K.2.2.2.1 hK.1 hP q0 he hL.1 k hk (K.2.2.2.2 _ hlink) (fun _ h => h) hv hdg kk
theorem fq_getN {host : String} (K : fq_Ctx p m c cc nL s args own) (hK : fq_K D cI cO s) (hL : fq_L ci C T N ty) (hP : va_P D fq_cl ws H) (q0 k : Nat) (he : ws[q0]? = some (a, .inr (ci, fs))) (hk : k < N) (hlink : Cond.fieldLinkNest own index (T k).1 (T k).2.1 (T k).2.2.1 host ∈ lw_tbl) (hv : fs[k]? = some v) (hdg : decode cc pc = .ok (.getfield index, 3))
    (kk : W p l e R s m args below meth c H locs cells slots Q (F0 m (pc + 3) ls (v :: rest))) : W p l e R s m args below meth c H locs cells slots Q (F0 m pc ls (.ref a :: rest)) :=
  va_getN K.1 K.2.1 K.2.2.2.2 hL.2.1 K.2.2.2.1 hK.1 hP q0 he hL.1 k hk (va_Nw.use rfl (hK.2.1 _ hlink rfl)) (fun _ h => h) hv hdg kk
theorem fq_put (K : fq_Ctx p m c cc nL s args own) (hK : fq_K D cI cO s) (hL : fq_L ci C T N ty) (hP : va_P D fq_cl ws H) (hD : va_D A ws) (hS : va_S A s.heap H locs) (q0 k : Nat) (he : ws[q0]? = some (a, .inr (ci, fs))) (hk : k < N) (hlink : Cond.fieldLink own index (T k).1 (T k).2.1 (T k).2.2.1 ∈ fq_TB) (hfin : (T k).2.2.2 = false) (hn : narrow (ty k) v = v) (hfit : fits (ty k) v = true) (hl : k < fs.length) (hdg : decode cc pc = .ok (.putfield index, 3))
    (kk : ∀ (H1 : Heap) (locs1 : List Loc), va_P D fq_cl (ws.set q0 (a, .inr (ci, fs.set k v))) H1 → va_D A (ws.set q0 (a, .inr (ci, fs.set k v))) → va_S A s.heap H1 locs1 → W p l e R s m args below meth c H1 locs1 cells slots Q (F0 m (pc + 3) ls rest)) : W p l e R s m args below meth c H locs cells slots Q (F0 m pc ls (v :: .ref a :: rest)) :=
  va_put K.1 K.2.1 K.2.2.2.2 hL.2.1 ty hL.2.2.1 hL.2.2.2 K.2.2.2.1 hK.1 hP hD hS q0 he hL.1 k hk (K.2.2.2.2 _ hlink) (fun _ h => h) hfin (hL.2.2.1 k hk) hn hfit hl hdg kk
theorem fq_putN {host : String} (K : fq_Ctx p m c cc nL s args own) (hK : fq_K D cI cO s) (hL : fq_L ci C T N ty) (hP : va_P D fq_cl ws H) (hD : va_D A ws) (hS : va_S A s.heap H locs) (q0 k : Nat) (he : ws[q0]? = some (a, .inr (ci, fs))) (hk : k < N) (hlink : Cond.fieldLinkNest own index (T k).1 (T k).2.1 (T k).2.2.1 host ∈ lw_tbl) (hfin : (T k).2.2.2 = false) (hn : narrow (ty k) v = v) (hfit : fits (ty k) v = true) (hl : k < fs.length) (hdg : decode cc pc = .ok (.putfield index, 3))
    (kk : ∀ (H1 : Heap) (locs1 : List Loc), va_P D fq_cl (ws.set q0 (a, .inr (ci, fs.set k v))) H1 → va_D A (ws.set q0 (a, .inr (ci, fs.set k v))) → va_S A s.heap H1 locs1 → W p l e R s m args below meth c H1 locs1 cells slots Q (F0 m (pc + 3) ls rest)) : W p l e R s m args below meth c H locs cells slots Q (F0 m pc ls (v :: .ref a :: rest)) :=
  va_putN K.1 K.2.1 K.2.2.2.2 hL.2.1 ty hL.2.2.1 hL.2.2.2 K.2.2.2.1 hK.1 hP hD hS q0 he hL.1 k hk (va_Nw.use rfl (hK.2.1 _ hlink rfl)) (fun _ h => h) hfin (hL.2.2.1 k hk) hn hfit hl hdg kk
theorem fq_putF (K : fq_Ctx p m c cc nL s args own) (hK : fq_K D cI cO s) (hL : fq_L ci C T N ty) (hP : va_P D fq_cl ws H) (hD : va_D A ws) (hS : va_S A s.heap H locs) (hin : meth.name = "<init>") (q0 k : Nat) (he : ws[q0]? = some (a, .inr (ci, fs))) (hk : k < N) (hlink : Cond.fieldLink own index (T k).1 (T k).2.1 (T k).2.2.1 ∈ fq_TB) (hfin : (T k).2.2.2 = true) (hdecl : (T k).1 = own) (hn : narrow (ty k) v = v) (hfit : fits (ty k) v = true) (hl : k < fs.length) (hdg : decode cc pc = .ok (.putfield index, 3))
    (kk : ∀ (H1 : Heap) (locs1 : List Loc), va_P D fq_cl (ws.set q0 (a, .inr (ci, fs.set k v))) H1 → va_D A (ws.set q0 (a, .inr (ci, fs.set k v))) → va_S A s.heap H1 locs1 → W p l e R s m args below meth c H1 locs1 cells slots Q (F0 m (pc + 3) ls rest)) : W p l e R s m args below meth c H locs cells slots Q (F0 m pc ls (v :: .ref a :: rest)) :=
  va_putF K.1 K.2.1 K.2.2.2.2 hL.2.1 ty hL.2.2.1 hL.2.2.2 K.2.2.2.1 hK.1 hP hD hS q0 he hL.1 k hk (K.2.2.2.2 _ hlink) (fun _ h => h) hfin hin hdecl (hL.2.2.1 k hk) hn hfit hl hdg kk
theorem fq_ald (K : fq_Ctx p m c cc nL s args own) (hK : fq_K D cI cO s) (hP : va_P D fq_cl ws H) (q0 : Nat) {n : Nat} {f : Nat → Int32} (ha : ws[q0]? = some (a, .inl (cI, n, .inl f))) {i : Int32} (hin : vp_in i n) (hdg : decode cc pc = .ok (.iaload, 1))
    (kk : W p l e R s m args below meth c H locs cells slots Q (F0 m (pc + 1) ls (.int (f i.toNatClampNeg) :: rest))) : W p l e R s m args below meth c H locs cells slots Q (F0 m pc ls (.int i :: .ref a :: rest)) :=
  va_iald K.1 K.2.1 hK.1 hP q0 0 ha rfl hin hdg kk
theorem fq_ast (K : fq_Ctx p m c cc nL s args own) (hK : fq_K D cI cO s) (hP : va_P D fq_cl ws H) (hD : va_D A ws) (hS : va_S A s.heap H locs) (q0 : Nat) {n : Nat} {f : Nat → Int32} (ha : ws[q0]? = some (a, .inl (cI, n, .inl f))) {i x : Int32} (hin : vp_in i n) (hdg : decode cc pc = .ok (.iastore, 1))
    (kk : ∀ (H1 : Heap) (locs1 : List Loc), va_P D fq_cl (ws.set q0 (a, .inl (cI, n, .inl (upd f i.toNatClampNeg x)))) H1 → va_D A (ws.set q0 (a, .inl (cI, n, .inl (upd f i.toNatClampNeg x)))) → va_S A s.heap H1 locs1 → W p l e R s m args below meth c H1 locs1 cells slots Q (F0 m (pc + 1) ls rest)) : W p l e R s m args below meth c H locs cells slots Q (F0 m pc ls (.int x :: .int i :: .ref a :: rest)) :=
  va_iast K.1 K.2.1 hK.1 hP hD hS q0 0 ha rfl hin hdg kk
theorem fq_len (K : fq_Ctx p m c cc nL s args own) (hK : fq_K D cI cO s) (hP : va_P D fq_cl ws H) (q0 : Nat) {n : Nat} {f : Nat → Int32} (ha : ws[q0]? = some (a, .inl (cI, n, .inl f))) (hdg : decode cc pc = .ok (.arraylength, 1))
    (kk : W p l e R s m args below meth c H locs cells slots Q (F0 m (pc + 1) ls (.int (nI n) :: rest))) : W p l e R s m args below meth c H locs cells slots Q (F0 m pc ls (.ref a :: rest)) :=
  va_alen K.1 K.2.1 hK.1 hP q0 0 ha rfl rfl hdg kk
theorem fq_newI (K : fq_Ctx p m c cc nL s args own) (hK : fq_K D cI cO s) (harr : Cond.arrayClass .int ∈ fq_TB) (hP : va_P D fq_cl ws H) (hD : va_D A ws) (hS : va_S A s.heap H locs) (hA : ∀ q, s.heap.size ≤ q → A q) {i : Int32} (n : Nat) (hi : i = nI n) (hn : n < 100000) (h1 : cells + 1 ≤ R.cells) (h2 : slots + n ≤ R.slots) (hdg : decode cc pc = .ok (.newarray .int, 2))
    (kk : ∀ (q : Nat) (H1 : Heap), va_P D fq_cl (ws ++ [(q, .inl (cI, n, .inl (fun _ => 0)))]) H1 → va_D A (ws ++ [(q, .inl (cI, n, .inl (fun _ => 0)))]) → va_S A s.heap H1 locs → W p l e R s m args below meth c H1 locs (cells + 1) (slots + n) Q (F0 m (pc + 2) ls (.ref q :: rest))) : W p l e R s m args below meth c H locs cells slots Q (F0 m pc ls (.int i :: rest)) := by
  subst hi
  have hn2 : n < 2 ^ 31 := by omega
  refine va_newa (atype := .int) (ty := .int) (N' := n) (a0 := (n, .inl (fun _ => 0))) K.1 K.2.1 (K.2.2.2.2 _ harr) rfl hK.1 hP hD hS hA (fun _ => rfl) (nI_pos hn2) (nI_clamp hn2) (by show n * 4 ≤ _; omega) h1 h2 hdg (fun q cA H1 hK1 hP1 hD1 hS1 => ?_)
  have e1 := va_nm_int (hK1.2 2 (cA, .int) rfl).2
  have e2 := va_nm_int (hK.1.2 0 (cI, .int) rfl).2
  have e3 : cA = cI := Option.some.inj (e1.symm.trans e2)
  subst e3
  exact kk q H1 hP1 hD1 hS1
theorem fq_new (K : fq_Ctx p m c cc nL s args own) (hK : fq_K D cI cO s) (hL : fq_L ci C T N ty) (hcl : Cond.classLink own index C ∈ fq_TB) (hinst : Cond.instantiable C N ∈ fq_TB) (hini : Cond.initialized C ∈ fq_TB) (hP : va_P D fq_cl ws H) (hD : va_D A ws) (hS : va_S A s.heap H locs) (hA : ∀ q, s.heap.size ≤ q → A q) (hfs : ∀ j, j < N → defaultValue (ty j) = vp_V fs j) (h1 : cells + 1 ≤ R.cells) (h2 : slots + N ≤ R.slots) (hdg : decode cc pc = .ok (.new index, 3))
    (kk : ∀ (q : Nat) (H1 : Heap), va_P D fq_cl (ws ++ [(q, .inr (ci, fs))]) H1 → va_D A (ws ++ [(q, .inr (ci, fs))]) → va_S A s.heap H1 locs → W p l e R s m args below meth c H1 locs (cells + 1) (slots + N) Q (F0 m (pc + 3) ls (.ref q :: rest))) : W p l e R s m args below meth c H locs cells slots Q (F0 m pc ls rest) :=
  va_new K.1 K.2.1 K.2.2.2.2 hL.2.1 ty hL.2.2.1 K.2.2.2.1 (K.2.2.2.2 _ hcl) (K.2.2.2.2 _ hinst) (K.2.2.2.2 _ hini) hK.1 hP hD hS hA hL.1 hfs h1 h2 hdg kk
end FG
