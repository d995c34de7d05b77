theorem wd_2 : Cond.selects cn_AL my_AL_add2 my_AL_add2 ∈ fq_TB := fq_in 2 (by decide +kernel) rfl
theorem wd_3 : Cond.selects cn_AL my_AL_grow my_AL_grow ∈ fq_TB := fq_in 3 (by decide +kernel) rfl
theorem wd_4 : Cond.selects cn_AL my_AL_grow2 my_AL_grow2 ∈ fq_TB := fq_in 4 (by decide +kernel) rfl
theorem wd_28 : Cond.initialized cn_AbC ∈ fq_TB := fq_in 28 (by decide +kernel) rfl
theorem wd_29 : Cond.initialized cn_AbL ∈ fq_TB := fq_in 29 (by decide +kernel) rfl
theorem wd_30 : Cond.initialized cn_AL ∈ fq_TB := fq_in 30 (by decide +kernel) rfl
theorem wd_46 : Cond.initialized cn_Ob ∈ fq_TB := fq_in 46 (by decide +kernel) rfl
theorem wd_47 : Cond.initialized cn_Pr ∈ fq_TB := fq_in 47 (by decide +kernel) rfl
theorem wd_65 : Cond.instanceMethod my_AL_init ∈ fq_TB := fq_in 65 (by decide +kernel) rfl
theorem wd_66 : Cond.code my_AL_init cb_AL_init 1 none ∈ fq_TB := fq_in 66 (by decide +kernel) rfl
theorem wd_67 : Cond.methodLink cn_AL 1 my_AbL_init ∈ fq_TB := fq_in 67 (by decide +kernel) rfl
theorem wd_68 : Cond.instanceMethod my_AbL_init ∈ fq_TB := fq_in 68 (by decide +kernel) rfl
theorem wd_69 : Cond.code my_AbL_init cb_AbL_init 1 none ∈ fq_TB := fq_in 69 (by decide +kernel) rfl
theorem wd_70 : Cond.methodLink cn_AbL 1 my_AbC_init ∈ fq_TB := fq_in 70 (by decide +kernel) rfl
theorem wd_71 : Cond.instanceMethod my_AbC_init ∈ fq_TB := fq_in 71 (by decide +kernel) rfl
theorem wd_72 : Cond.code my_AbC_init cb_AbC_init 1 none ∈ fq_TB := fq_in 72 (by decide +kernel) rfl
theorem wd_73 : Cond.methodLink cn_AbC 1 my_Oj_init ∈ fq_TB := fq_in 73 (by decide +kernel) rfl
theorem wd_74 : Cond.fieldLink cn_AL 39 cn_AL "DEFAULTCAPACITY_EMPTY_ELEMENTDATA" "[Ljava/lang/Object;" ∈ fq_TB := fq_in 74 (by decide +kernel) rfl
theorem wd_76 : Cond.fieldLink cn_AL 9 cn_AL "elementData" "[Ljava/lang/Object;" ∈ fq_TB := fq_in 76 (by decide +kernel) rfl
theorem wd_77 : Cond.fieldLink cn_AL 48 cn_AL "size" "I" ∈ fq_TB := fq_in 77 (by decide +kernel) rfl
theorem wd_78 : Cond.fieldLink cn_AbL 7 cn_AbL "modCount" "I" ∈ fq_TB := fq_in 78 (by decide +kernel) rfl
theorem wd_79 : Cond.fieldLink cn_AL 63 cn_AL "modCount" "I" ∈ fq_TB := fq_in 79 (by decide +kernel) rfl
theorem wd_80 : Cond.sameField cn_AL cn_AbL "modCount" "I" ∈ fq_TB := fq_in 80 (by decide +kernel) rfl
theorem wd_229 : Cond.instanceMethod my_AL_size ∈ fq_TB := fq_in 229 (by decide +kernel) rfl
theorem wd_230 : Cond.selects cn_AL my_AL_size my_AL_size ∈ fq_TB := fq_in 230 (by decide +kernel) rfl
theorem wd_231 : Cond.code my_AL_size cb_AL_size 1 (some .int) ∈ fq_TB := fq_in 231 (by decide +kernel) rfl
theorem wd_277 : Cond.instanceMethod my_AL_add ∈ fq_TB := fq_in 277 (by decide +kernel) rfl
theorem wd_278 : Cond.selects cn_AL my_AL_add my_AL_add ∈ fq_TB := fq_in 278 (by decide +kernel) rfl
theorem wd_279 : Cond.code my_AL_add cb_AL_add 2 (some .boolean) ∈ fq_TB := fq_in 279 (by decide +kernel) rfl
theorem wd_280 : Cond.methodLink cn_AL 131 my_AL_add2 ∈ fq_TB := fq_in 280 (by decide +kernel) rfl
theorem wd_282 : Cond.instanceMethod my_AL_add2 ∈ fq_TB := fq_in 282 (by decide +kernel) rfl
theorem wd_283 : Cond.code my_AL_add2 cb_AL_add2 4 none ∈ fq_TB := fq_in 283 (by decide +kernel) rfl
theorem wd_284 : Cond.methodLink cn_AL 129 my_AL_grow ∈ fq_TB := fq_in 284 (by decide +kernel) rfl
theorem wd_286 : Cond.instanceMethod my_AL_grow ∈ fq_TB := fq_in 286 (by decide +kernel) rfl
theorem wd_287 : Cond.code my_AL_grow cb_AL_grow 1 (some (.array (.object "java/lang/Object"))) ∈ fq_TB := fq_in 287 (by decide +kernel) rfl
theorem wd_288 : Cond.methodLink cn_AL 69 my_AL_grow2 ∈ fq_TB := fq_in 288 (by decide +kernel) rfl
theorem wd_290 : Cond.instanceMethod my_AL_grow2 ∈ fq_TB := fq_in 290 (by decide +kernel) rfl
theorem wd_291 : Cond.code my_AL_grow2 cb_AL_grow2 4 (some (.array (.object "java/lang/Object"))) ∈ fq_TB := fq_in 291 (by decide +kernel) rfl
theorem wd_330 : Cond.methodLink cn_AL 79 my_Ma_max ∈ fq_TB := fq_in 330 (by decide +kernel) rfl
theorem wd_331 : Cond.classLink cn_AL 7 cn_Oj ∈ fq_TB := fq_in 331 (by decide +kernel) rfl
theorem wd_467 : Cond.instanceMethod my_AL_get ∈ fq_TB := fq_in 467 (by decide +kernel) rfl
theorem wd_468 : Cond.selects cn_AL my_AL_get my_AL_get ∈ fq_TB := fq_in 468 (by decide +kernel) rfl
theorem wd_469 : Cond.code my_AL_get cb_AL_get 2 (some (.object "java/lang/Object")) ∈ fq_TB := fq_in 469 (by decide +kernel) rfl
theorem wd_470 : Cond.methodLink cn_AL 118 my_Ob_checkIndex ∈ fq_TB := fq_in 470 (by decide +kernel) rfl
theorem wd_471 : Cond.static my_Ob_checkIndex ∈ fq_TB := fq_in 471 (by decide +kernel) rfl
theorem wd_472 : Cond.code my_Ob_checkIndex cb_Ob_checkIndex 2 (some .int) ∈ fq_TB := fq_in 472 (by decide +kernel) rfl
theorem wd_473 : Cond.methodLink cn_Ob 105 my_Pr_checkIndex ∈ fq_TB := fq_in 473 (by decide +kernel) rfl
theorem wd_474 : Cond.static my_Pr_checkIndex ∈ fq_TB := fq_in 474 (by decide +kernel) rfl
theorem wd_475 : Cond.code my_Pr_checkIndex cb_Pr_checkIndex 3 (some .int) ∈ fq_TB := fq_in 475 (by decide +kernel) rfl
theorem wd_476 : Cond.methodLink cn_AL 123 my_AL_elementData ∈ fq_TB := fq_in 476 (by decide +kernel) rfl
theorem wd_477 : Cond.instanceMethod my_AL_elementData ∈ fq_TB := fq_in 477 (by decide +kernel) rfl
theorem wd_478 : Cond.selects cn_AL my_AL_elementData my_AL_elementData ∈ fq_TB := fq_in 478 (by decide +kernel) rfl
theorem wd_479 : Cond.code my_AL_elementData cb_AL_elementData 2 (some (.object "java/lang/Object")) ∈ fq_TB := fq_in 479 (by decide +kernel) rfl

section FO
variable {p : Program} {l : Launch} {e : Env} {R : Room} {s : State} {m : MethodId} {args : Array Value} {below : List Frame} {meth : Method} {c : Code} {H : Heap} {locs : List Loc} {cells slots : Nat} {Q : State → Prop}
variable {cc : ByteArray} {nL pc : Nat} {ls : Array Slot} {rest : List Value} {D : va_G} {cI cO : ClassId} {tE : Nat} {A : Nat → Prop} {ws : va_W} {own : String} {ci index : Nat} {C ref : String} {T : u_T} {N : Nat} {ty : Nat → FieldType} {a : Nat} {fs : List Value} {v : Value}
theorem fq_getS (K : fq_Ctx p m c cc nL s args own) (hK : fq_K D cI cO s) (hL : fq_L ci C T N ty) (hP : va_P D fq_cl ws H) (q0 k : Nat) (he : ws[q0]? = some (a, .inr (ci, fs))) (hk : k < N) (hlink : Cond.fieldLink own index ref (T k).2.1 (T k).2.2.1 ∈ fq_TB) (hsame : Cond.sameField ref (T k).1 (T k).2.1 (T k).2.2.1 ∈ fq_TB) (hv : fs[k]? = some v) (hdg : decode cc pc = .ok (.getfield index, 3))
    (kk : W p l e R s m args below meth c H locs cells slots Q (F0 m (pc + 3) ls (v :: rest))) : W p l e R s m args below meth c H locs cells slots Q (F0 m pc ls (.ref a :: rest)) :=
  va_get K.1 K.2.1 K.2.2.2.2 hL.2.1 K.2.2.2.1 hK.1 hP q0 he hL.1 k hk (K.2.2.2.2 _ hlink) (fun x9 h9 => u_same (K.2.2.2.2 _ hsame) x9 h9) hv hdg kk
theorem fq_putS (K : fq_Ctx p m c cc nL s args own) (hK : fq_K D cI cO s) (hL : fq_L ci C T N ty) (hP : va_P D fq_cl ws H) (hD : va_D A ws) (hS : va_S A s.heap H locs) (q0 k : Nat) (he : ws[q0]? = some (a, .inr (ci, fs))) (hk : k < N) (hlink : Cond.fieldLink own index ref (T k).2.1 (T k).2.2.1 ∈ fq_TB) (hsame : Cond.sameField ref (T k).1 (T k).2.1 (T k).2.2.1 ∈ fq_TB) (hfin : (T k).2.2.2 = false) (hn : narrow (ty k) v = v) (hfit : fits (ty k) v = true) (hl : k < fs.length) (hdg : decode cc pc = .ok (.putfield index, 3))
    (kk : ∀ (H1 : Heap) (locs1 : List Loc), va_P D fq_cl (ws.set q0 (a, .inr (ci, fs.set k v))) H1 → va_D A (ws.set q0 (a, .inr (ci, fs.set k v))) → va_S A s.heap H1 locs1 → W p l e R s m args below meth c H1 locs1 cells slots Q (F0 m (pc + 3) ls rest)) : W p l e R s m args below meth c H locs cells slots Q (F0 m pc ls (v :: .ref a :: rest)) :=
  va_put K.1 K.2.1 K.2.2.2.2 hL.2.1 ty hL.2.2.1 hL.2.2.2 K.2.2.2.1 hK.1 hP hD hS q0 he hL.1 k hk (K.2.2.2.2 _ hlink) (fun x9 h9 => u_same (K.2.2.2.2 _ hsame) x9 h9) hfin (hL.2.2.1 k hk) hn hfit hl hdg kk
theorem fq_newO (K : fq_Ctx p m c cc nL s args own) (hK : fq_K D cI cO s) (hcl : Cond.classLink own index "java/lang/Object" ∈ fq_TB) (hP : va_P D fq_cl ws H) (hD : va_D A ws) (hS : va_S A s.heap H locs) (hA : ∀ q, s.heap.size ≤ q → A q) {i : Int32} (n : Nat) (hi : i = nI n) (hn : n < 100000) (h1 : cells + 1 ≤ R.cells) (h2 : slots + n ≤ R.slots) (hdg : decode cc pc = .ok (.anewarray index, 3))
    (kk : ∀ (q : Nat) (H1 : Heap), va_P D fq_cl (ws ++ [(q, .inl (cO, n, .inr (.inr (.inr (.inr (fun _ => none))))))]) H1 → va_D A (ws ++ [(q, .inl (cO, n, .inr (.inr (.inr (.inr (fun _ => none))))))]) → va_S A s.heap H1 locs → W p l e R s m args below meth c H1 locs (cells + 1) (slots + n) Q (F0 m (pc + 3) ls (.ref q :: rest))) : W p l e R s m args below meth c H locs cells slots Q (F0 m pc ls (.int i :: rest)) := by
  subst hi
  have hn2 : n < 2 ^ 31 := by omega
  refine va_newq K.1 K.2.1 K.2.2.2.1 (K.2.2.2.2 _ hcl) hK.2.2.2.2.2 hK.1 hP hD hS hA (nI_pos hn2) (nI_clamp hn2) (by omega) h1 h2 hdg (fun q cA H1 hK1 hP1 hD1 hS1 => ?_)
  obtain ⟨_, _, _, _, _, e1⟩ := (hK1.2 2 (cA, .object "java/lang/Object") rfl).2
  obtain ⟨_, _, _, _, _, e2⟩ := (hK.1.2 1 (cO, .object "java/lang/Object") rfl).2
  have e3 : cA = cO := Option.some.inj (e1.symm.trans e2)
  subst e3
  exact kk q H1 hP1 hD1 hS1
end FO

theorem dc_AbC_init_0 : decode cb_AbC_init 0 = .ok (.aload_n 0, 1) := by decide +kernel
theorem dc_AbC_init_1 : decode cb_AbC_init 1 = .ok (.invokespecial 1, 3) := by decide +kernel
theorem dc_AbC_init_4 : decode cb_AbC_init 4 = .ok (.return_, 1) := by decide +kernel
theorem yk_AbC_init : fq_Y my_AbC_init cb_AbC_init 1 none 0 := ⟨wd_72, wd_28, by decide +kernel⟩
theorem dc_AbL_init_0 : decode cb_AbL_init 0 = .ok (.aload_n 0, 1) := by decide +kernel
theorem dc_AbL_init_1 : decode cb_AbL_init 1 = .ok (.invokespecial 1, 3) := by decide +kernel
theorem dc_AbL_init_4 : decode cb_AbL_init 4 = .ok (.aload_n 0, 1) := by decide +kernel
theorem dc_AbL_init_5 : decode cb_AbL_init 5 = .ok (.iconst 0, 1) := by decide +kernel
theorem dc_AbL_init_6 : decode cb_AbL_init 6 = .ok (.putfield 7, 3) := by decide +kernel
theorem dc_AbL_init_9 : decode cb_AbL_init 9 = .ok (.return_, 1) := by decide +kernel
theorem yk_AbL_init : fq_Y my_AbL_init cb_AbL_init 1 none 0 := ⟨wd_69, wd_29, by decide +kernel⟩
theorem dc_AL_init_0 : decode cb_AL_init 0 = .ok (.aload_n 0, 1) := by decide +kernel
theorem dc_AL_init_1 : decode cb_AL_init 1 = .ok (.invokespecial 1, 3) := by decide +kernel
theorem dc_AL_init_4 : decode cb_AL_init 4 = .ok (.aload_n 0, 1) := by decide +kernel
theorem dc_AL_init_5 : decode cb_AL_init 5 = .ok (.getstatic 39, 3) := by decide +kernel
theorem dc_AL_init_8 : decode cb_AL_init 8 = .ok (.putfield 9, 3) := by decide +kernel
theorem dc_AL_init_11 : decode cb_AL_init 11 = .ok (.return_, 1) := by decide +kernel
theorem yk_AL_init : fq_Y my_AL_init cb_AL_init 1 none 0 := ⟨wd_66, wd_30, by decide +kernel⟩
theorem dc_AL_size_0 : decode cb_AL_size 0 = .ok (.aload_n 0, 1) := by decide +kernel
theorem dc_AL_size_1 : decode cb_AL_size 1 = .ok (.getfield 48, 3) := by decide +kernel
theorem dc_AL_size_4 : decode cb_AL_size 4 = .ok (.ireturn, 1) := by decide +kernel
theorem yk_AL_size : fq_Y my_AL_size cb_AL_size 1 (some .int) 0 := ⟨wd_231, wd_30, by decide +kernel⟩
theorem dc_Pr_checkIndex_0 : decode cb_Pr_checkIndex 0 = .ok (.iload_n 0, 1) := by decide +kernel
theorem dc_Pr_checkIndex_1 : decode cb_Pr_checkIndex 1 = .ok (.ifCond .lt 8, 3) := by decide +kernel
theorem dc_Pr_checkIndex_4 : decode cb_Pr_checkIndex 4 = .ok (.iload_n 0, 1) := by decide +kernel
theorem dc_Pr_checkIndex_5 : decode cb_Pr_checkIndex 5 = .ok (.iload_n 1, 1) := by decide +kernel
theorem dc_Pr_checkIndex_6 : decode cb_Pr_checkIndex 6 = .ok (.if_icmp .lt 10, 3) := by decide +kernel
theorem dc_Pr_checkIndex_9 : decode cb_Pr_checkIndex 9 = .ok (.aload_n 2, 1) := by decide +kernel
theorem dc_Pr_checkIndex_10 : decode cb_Pr_checkIndex 10 = .ok (.iload_n 0, 1) := by decide +kernel
theorem dc_Pr_checkIndex_11 : decode cb_Pr_checkIndex 11 = .ok (.iload_n 1, 1) := by decide +kernel
theorem dc_Pr_checkIndex_12 : decode cb_Pr_checkIndex 12 = .ok (.invokestatic 95, 3) := by decide +kernel
theorem dc_Pr_checkIndex_15 : decode cb_Pr_checkIndex 15 = .ok (.athrow, 1) := by decide +kernel
theorem dc_Pr_checkIndex_16 : decode cb_Pr_checkIndex 16 = .ok (.iload_n 0, 1) := by decide +kernel
theorem dc_Pr_checkIndex_17 : decode cb_Pr_checkIndex 17 = .ok (.ireturn, 1) := by decide +kernel
theorem yk_Pr_checkIndex : fq_Y my_Pr_checkIndex cb_Pr_checkIndex 3 (some .int) 3 := ⟨wd_475, wd_47, by decide +kernel⟩
theorem dc_Ob_checkIndex_0 : decode cb_Ob_checkIndex 0 = .ok (.iload_n 0, 1) := by decide +kernel
theorem dc_Ob_checkIndex_1 : decode cb_Ob_checkIndex 1 = .ok (.iload_n 1, 1) := by decide +kernel
theorem dc_Ob_checkIndex_2 : decode cb_Ob_checkIndex 2 = .ok (.aconst_null, 1) := by decide +kernel
theorem dc_Ob_checkIndex_3 : decode cb_Ob_checkIndex 3 = .ok (.invokestatic 105, 3) := by decide +kernel
theorem dc_Ob_checkIndex_6 : decode cb_Ob_checkIndex 6 = .ok (.ireturn, 1) := by decide +kernel
theorem yk_Ob_checkIndex : fq_Y my_Ob_checkIndex cb_Ob_checkIndex 2 (some .int) 2 := ⟨wd_472, wd_46, by decide +kernel⟩
theorem dc_AL_elementData_0 : decode cb_AL_elementData 0 = .ok (.aload_n 0, 1) := by decide +kernel
theorem dc_AL_elementData_1 : decode cb_AL_elementData 1 = .ok (.getfield 9, 3) := by decide +kernel
theorem dc_AL_elementData_4 : decode cb_AL_elementData 4 = .ok (.iload_n 1, 1) := by decide +kernel
theorem dc_AL_elementData_5 : decode cb_AL_elementData 5 = .ok (.aaload, 1) := by decide +kernel
theorem dc_AL_elementData_6 : decode cb_AL_elementData 6 = .ok (.areturn, 1) := by decide +kernel
theorem yk_AL_elementData : fq_Y my_AL_elementData cb_AL_elementData 2 (some (.object "java/lang/Object")) 1 := ⟨wd_479, wd_30, by decide +kernel⟩
theorem dc_AL_get_0 : decode cb_AL_get 0 = .ok (.iload_n 1, 1) := by decide +kernel
theorem dc_AL_get_1 : decode cb_AL_get 1 = .ok (.aload_n 0, 1) := by decide +kernel
theorem dc_AL_get_2 : decode cb_AL_get 2 = .ok (.getfield 48, 3) := by decide +kernel
theorem dc_AL_get_5 : decode cb_AL_get 5 = .ok (.invokestatic 118, 3) := by decide +kernel
theorem dc_AL_get_8 : decode cb_AL_get 8 = .ok (.pop, 1) := by decide +kernel
theorem dc_AL_get_9 : decode cb_AL_get 9 = .ok (.aload_n 0, 1) := by decide +kernel
theorem dc_AL_get_10 : decode cb_AL_get 10 = .ok (.iload_n 1, 1) := by decide +kernel
theorem dc_AL_get_11 : decode cb_AL_get 11 = .ok (.invokevirtual 123, 3) := by decide +kernel
theorem dc_AL_get_14 : decode cb_AL_get 14 = .ok (.areturn, 1) := by decide +kernel
theorem yk_AL_get : fq_Y my_AL_get cb_AL_get 2 (some (.object "java/lang/Object")) 1 := ⟨wd_469, wd_30, by decide +kernel⟩
theorem dc_AL_grow2_0 : decode cb_AL_grow2 0 = .ok (.aload_n 0, 1) := by decide +kernel
theorem dc_AL_grow2_1 : decode cb_AL_grow2 1 = .ok (.getfield 9, 3) := by decide +kernel
theorem dc_AL_grow2_4 : decode cb_AL_grow2 4 = .ok (.arraylength, 1) := by decide +kernel
theorem dc_AL_grow2_5 : decode cb_AL_grow2 5 = .ok (.istore_n 2, 1) := by decide +kernel
theorem dc_AL_grow2_6 : decode cb_AL_grow2 6 = .ok (.iload_n 2, 1) := by decide +kernel
theorem dc_AL_grow2_7 : decode cb_AL_grow2 7 = .ok (.ifCond .gt 13, 3) := by decide +kernel
theorem dc_AL_grow2_10 : decode cb_AL_grow2 10 = .ok (.aload_n 0, 1) := by decide +kernel
theorem dc_AL_grow2_11 : decode cb_AL_grow2 11 = .ok (.getfield 9, 3) := by decide +kernel
theorem dc_AL_grow2_14 : decode cb_AL_grow2 14 = .ok (.getstatic 39, 3) := by decide +kernel
theorem dc_AL_grow2_17 : decode cb_AL_grow2 17 = .ok (.if_acmp .eq 28, 3) := by decide +kernel
theorem dc_AL_grow2_20 : decode cb_AL_grow2 20 = .ok (.iload_n 2, 1) := by decide +kernel
theorem dc_AL_grow2_21 : decode cb_AL_grow2 21 = .ok (.iload_n 1, 1) := by decide +kernel
theorem dc_AL_grow2_22 : decode cb_AL_grow2 22 = .ok (.iload_n 2, 1) := by decide +kernel
theorem dc_AL_grow2_23 : decode cb_AL_grow2 23 = .ok (.isub, 1) := by decide +kernel
theorem dc_AL_grow2_24 : decode cb_AL_grow2 24 = .ok (.iload_n 2, 1) := by decide +kernel
theorem dc_AL_grow2_25 : decode cb_AL_grow2 25 = .ok (.iconst 1, 1) := by decide +kernel
theorem dc_AL_grow2_26 : decode cb_AL_grow2 26 = .ok (.ishr, 1) := by decide +kernel
theorem dc_AL_grow2_27 : decode cb_AL_grow2 27 = .ok (.invokestatic 73, 3) := by decide +kernel
theorem dc_AL_grow2_30 : decode cb_AL_grow2 30 = .ok (.istore_n 3, 1) := by decide +kernel
theorem dc_AL_grow2_31 : decode cb_AL_grow2 31 = .ok (.aload_n 0, 1) := by decide +kernel
theorem dc_AL_grow2_32 : decode cb_AL_grow2 32 = .ok (.aload_n 0, 1) := by decide +kernel
theorem dc_AL_grow2_33 : decode cb_AL_grow2 33 = .ok (.getfield 9, 3) := by decide +kernel
theorem dc_AL_grow2_36 : decode cb_AL_grow2 36 = .ok (.iload_n 3, 1) := by decide +kernel
theorem dc_AL_grow2_37 : decode cb_AL_grow2 37 = .ok (.invokestatic 66, 3) := by decide +kernel
theorem dc_AL_grow2_40 : decode cb_AL_grow2 40 = .ok (.dup_x1, 1) := by decide +kernel
theorem dc_AL_grow2_41 : decode cb_AL_grow2 41 = .ok (.putfield 9, 3) := by decide +kernel
theorem dc_AL_grow2_44 : decode cb_AL_grow2 44 = .ok (.areturn, 1) := by decide +kernel
theorem dc_AL_grow2_45 : decode cb_AL_grow2 45 = .ok (.aload_n 0, 1) := by decide +kernel
theorem dc_AL_grow2_46 : decode cb_AL_grow2 46 = .ok (.bipush 10, 2) := by decide +kernel
theorem dc_AL_grow2_48 : decode cb_AL_grow2 48 = .ok (.iload_n 1, 1) := by decide +kernel
theorem dc_AL_grow2_49 : decode cb_AL_grow2 49 = .ok (.invokestatic 79, 3) := by decide +kernel
theorem dc_AL_grow2_52 : decode cb_AL_grow2 52 = .ok (.anewarray 7, 3) := by decide +kernel
theorem dc_AL_grow2_55 : decode cb_AL_grow2 55 = .ok (.dup_x1, 1) := by decide +kernel
theorem dc_AL_grow2_56 : decode cb_AL_grow2 56 = .ok (.putfield 9, 3) := by decide +kernel
theorem dc_AL_grow2_59 : decode cb_AL_grow2 59 = .ok (.areturn, 1) := by decide +kernel
theorem yk_AL_grow2 : fq_Y my_AL_grow2 cb_AL_grow2 4 (some (.array (.object "java/lang/Object"))) 1 := ⟨wd_291, wd_30, by decide +kernel⟩
theorem dc_AL_grow_0 : decode cb_AL_grow 0 = .ok (.aload_n 0, 1) := by decide +kernel
theorem dc_AL_grow_1 : decode cb_AL_grow 1 = .ok (.aload_n 0, 1) := by decide +kernel
theorem dc_AL_grow_2 : decode cb_AL_grow 2 = .ok (.getfield 48, 3) := by decide +kernel
theorem dc_AL_grow_5 : decode cb_AL_grow 5 = .ok (.iconst 1, 1) := by decide +kernel
theorem dc_AL_grow_6 : decode cb_AL_grow 6 = .ok (.iadd, 1) := by decide +kernel
theorem dc_AL_grow_7 : decode cb_AL_grow 7 = .ok (.invokevirtual 69, 3) := by decide +kernel
theorem dc_AL_grow_10 : decode cb_AL_grow 10 = .ok (.areturn, 1) := by decide +kernel
theorem yk_AL_grow : fq_Y my_AL_grow cb_AL_grow 1 (some (.array (.object "java/lang/Object"))) 0 := ⟨wd_287, wd_30, by decide +kernel⟩
theorem dc_AL_add2_0 : decode cb_AL_add2 0 = .ok (.iload_n 3, 1) := by decide +kernel
theorem dc_AL_add2_1 : decode cb_AL_add2 1 = .ok (.aload_n 2, 1) := by decide +kernel
theorem dc_AL_add2_2 : decode cb_AL_add2 2 = .ok (.arraylength, 1) := by decide +kernel
theorem dc_AL_add2_3 : decode cb_AL_add2 3 = .ok (.if_icmp .ne 8, 3) := by decide +kernel
theorem dc_AL_add2_6 : decode cb_AL_add2 6 = .ok (.aload_n 0, 1) := by decide +kernel
theorem dc_AL_add2_7 : decode cb_AL_add2 7 = .ok (.invokevirtual 129, 3) := by decide +kernel
theorem dc_AL_add2_10 : decode cb_AL_add2 10 = .ok (.astore_n 2, 1) := by decide +kernel
theorem dc_AL_add2_11 : decode cb_AL_add2 11 = .ok (.aload_n 2, 1) := by decide +kernel
theorem dc_AL_add2_12 : decode cb_AL_add2 12 = .ok (.iload_n 3, 1) := by decide +kernel
theorem dc_AL_add2_13 : decode cb_AL_add2 13 = .ok (.aload_n 1, 1) := by decide +kernel
theorem dc_AL_add2_14 : decode cb_AL_add2 14 = .ok (.aastore, 1) := by decide +kernel
theorem dc_AL_add2_15 : decode cb_AL_add2 15 = .ok (.aload_n 0, 1) := by decide +kernel
theorem dc_AL_add2_16 : decode cb_AL_add2 16 = .ok (.iload_n 3, 1) := by decide +kernel
theorem dc_AL_add2_17 : decode cb_AL_add2 17 = .ok (.iconst 1, 1) := by decide +kernel
theorem dc_AL_add2_18 : decode cb_AL_add2 18 = .ok (.iadd, 1) := by decide +kernel
theorem dc_AL_add2_19 : decode cb_AL_add2 19 = .ok (.putfield 48, 3) := by decide +kernel
theorem dc_AL_add2_22 : decode cb_AL_add2 22 = .ok (.return_, 1) := by decide +kernel
theorem yk_AL_add2 : fq_Y my_AL_add2 cb_AL_add2 4 none 3 := ⟨wd_283, wd_30, by decide +kernel⟩
theorem dc_AL_add_0 : decode cb_AL_add 0 = .ok (.aload_n 0, 1) := by decide +kernel
theorem dc_AL_add_1 : decode cb_AL_add 1 = .ok (.dup, 1) := by decide +kernel
theorem dc_AL_add_2 : decode cb_AL_add 2 = .ok (.getfield 63, 3) := by decide +kernel
theorem dc_AL_add_5 : decode cb_AL_add 5 = .ok (.iconst 1, 1) := by decide +kernel
theorem dc_AL_add_6 : decode cb_AL_add 6 = .ok (.iadd, 1) := by decide +kernel
theorem dc_AL_add_7 : decode cb_AL_add 7 = .ok (.putfield 63, 3) := by decide +kernel
theorem dc_AL_add_10 : decode cb_AL_add 10 = .ok (.aload_n 0, 1) := by decide +kernel
theorem dc_AL_add_11 : decode cb_AL_add 11 = .ok (.aload_n 1, 1) := by decide +kernel
theorem dc_AL_add_12 : decode cb_AL_add 12 = .ok (.aload_n 0, 1) := by decide +kernel
theorem dc_AL_add_13 : decode cb_AL_add 13 = .ok (.getfield 9, 3) := by decide +kernel
theorem dc_AL_add_16 : decode cb_AL_add 16 = .ok (.aload_n 0, 1) := by decide +kernel
theorem dc_AL_add_17 : decode cb_AL_add 17 = .ok (.getfield 48, 3) := by decide +kernel
theorem dc_AL_add_20 : decode cb_AL_add 20 = .ok (.invokevirtual 131, 3) := by decide +kernel
theorem dc_AL_add_23 : decode cb_AL_add 23 = .ok (.iconst 1, 1) := by decide +kernel
theorem dc_AL_add_24 : decode cb_AL_add 24 = .ok (.ireturn, 1) := by decide +kernel
theorem yk_AL_add : fq_Y my_AL_add cb_AL_add 2 (some .boolean) 1 := ⟨wd_279, wd_30, by decide +kernel⟩
set_option maxHeartbeats 4000000 in
set_option maxRecDepth 100000 in
theorem ct_AbC_init (l : Launch) (D : va_G) (cI cO : ClassId) (tE : Nat) (h : Nat) (sz : Nat) : Met l my_AbC_init (fq_w my_AbC_init cb_AbC_init 1 none) ({ frames := 1, cells := 0, slots := 0, locals := 12 }) (va_Pc ([.ref h]) (fq_Pre D cI cO tE sz ([]))) (va_Qv (S := va_W) (fun w => w = []) (fq_Bw D (va_A ([]) sz)) (va_A ([]) sz)) (0) (0) (va_A ([]) sz) := by
  refine fq_open (by decide +kernel) (Nat.le_of_ble_eq_true rfl) ?_
  intro pg ev s mt below meth cd ls K hret hlk hin hK hZ hP hD hA hS hl
  generalize va_A ([]) sz = A at hZ hD hA hS ⊢
  have K : fq_Ctx pg mt cd cb_AbC_init 1 s _ cn_AbC := K
  have hin : meth.name = "<init>" := hin
  have hl : lv_has ls 1 [(0, .ref h)] := hl
  refine lv_aload_n K.1 K.2.1 dc_AbC_init_0 rfl (lv_at hl 0 rfl) ?_
  refine W.objInit K.1 K.2.1 K.2.2.2.1 (K.2.2.2.2 _ wd_73) (K.2.2.2.2 _ wd_54) (K.2.2.2.2 _ wd_55) rfl (by rw [K.2.2.1]; exact hl.1) rfl dc_AbC_init_1 (Nat.le_of_ble_eq_true rfl) (Nat.le_of_ble_eq_true rfl) ?_
  refine W.eq (g2 := F0 mt 4 ls []) rfl ?_
  exact fq_retv K hret hlk hS hP hD rfl dc_AbC_init_4 (Nat.le_of_ble_eq_true rfl) (Nat.le_of_ble_eq_true rfl)
set_option maxHeartbeats 4000000 in
set_option maxRecDepth 100000 in
theorem ct_AbL_init (l : Launch) (D : va_G) (cI cO : ClassId) (tE : Nat) (h : Nat) (sz : Nat) : Met l my_AbL_init (fq_w my_AbL_init cb_AbL_init 1 none) ({ frames := 2, cells := 0, slots := 0, locals := 32 }) (va_Pc ([.ref h]) (fq_Pre D cI cO tE sz ([(h, .inr (11, [.null, .int 0, .int 0]))]))) (va_Qv (S := va_W) (fun w => w = [(h, .inr (11, [.null, .int 0, .int 0]))]) (fq_Bw D (va_A ([(h, .inr (11, [.null, .int 0, .int 0]))]) sz)) (va_A ([(h, .inr (11, [.null, .int 0, .int 0]))]) sz)) (0) (0) (va_A ([(h, .inr (11, [.null, .int 0, .int 0]))]) sz) := by
  refine fq_open (by decide +kernel) (Nat.le_of_ble_eq_true rfl) ?_
  intro pg ev s mt below meth cd ls K hret hlk hin hK hZ hP hD hA hS hl
  generalize va_A ([(h, .inr (11, [.null, .int 0, .int 0]))]) sz = A at hZ hD hA hS ⊢
  have K : fq_Ctx pg mt cd cb_AbL_init 1 s _ cn_AbL := K
  have hin : meth.name = "<init>" := hin
  have hl : lv_has ls 1 [(0, .ref h)] := hl
  refine lv_aload_n K.1 K.2.1 dc_AbL_init_0 rfl (lv_at hl 0 rfl) ?_
  have hc := fq_cut.of (wc := []) hP hD hS hA [] (by decide) rfl
  refine fq_cv (wr := [(h, .inr (11, [.null, .int 0, .int 0]))]) (fq_rI K hK hZ hS hc (ct_AbC_init l D cI cO tE h _) yk_AbC_init wd_71 rfl wd_70 ⟨⟨rfl, rfl⟩, ⟨Nat.le_of_ble_eq_true rfl, Nat.le_of_ble_eq_true rfl⟩, ⟨Nat.le_of_ble_eq_true rfl, Nat.le_of_ble_eq_true rfl⟩⟩ hl.1 rfl (Nat.le_of_ble_eq_true rfl) dc_AbL_init_1) hP hD hS hc [] [0] rfl rfl (by decide) (by decide) (fun  w H locs hw1 hP hD hS => ?_)
  subst hw1
  have hP : va_P D fq_cl ([(h, .inr (11, [.null, .int 0, .int 0]))]) _ := hP
  have hD : va_D A ([(h, .inr (11, [.null, .int 0, .int 0]))]) := hD
  refine lv_aload_n K.1 K.2.1 dc_AbL_init_4 rfl (lv_at hl 0 rfl) ?_
  refine lv_iconst (v := 0) K.1 K.2.1 dc_AbL_init_5 (by decide) ?_
  refine fq_put K hK cl_AL hP hD hS 0 2 rfl (by decide) wd_78 rfl rfl rfl (Nat.le_of_ble_eq_true rfl) dc_AbL_init_6 (fun H locs hP hD hS => ?_)
  have hP : va_P D fq_cl ([(h, .inr (11, [.null, .int 0, .int 0]))]) _ := hP
  have hD : va_D A ([(h, .inr (11, [.null, .int 0, .int 0]))]) := hD
  exact fq_retv K hret hlk hS hP hD rfl dc_AbL_init_9 (Nat.le_of_ble_eq_true rfl) (Nat.le_of_ble_eq_true rfl)
set_option maxHeartbeats 4000000 in
set_option maxRecDepth 100000 in
theorem ct_AL_init (l : Launch) (D : va_G) (cI cO : ClassId) (tE : Nat) (h : Nat) (sz : Nat) : Met l my_AL_init (fq_w my_AL_init cb_AL_init 1 none) ({ frames := 3, cells := 0, slots := 0, locals := 52 }) (va_Pc ([.ref h]) (fq_Pre D cI cO tE sz ([(h, .inr (11, [.null, .int 0, .int 0]))]))) (va_Qv (S := va_W) (fun w => w = [(h, .inr (11, [.ref tE, .int 0, .int 0]))]) (fq_Bw D (va_A ([(h, .inr (11, [.null, .int 0, .int 0]))]) sz)) (va_A ([(h, .inr (11, [.null, .int 0, .int 0]))]) sz)) (0) (0) (va_A ([(h, .inr (11, [.null, .int 0, .int 0]))]) sz) := by
  refine fq_open (by decide +kernel) (Nat.le_of_ble_eq_true rfl) ?_
  intro pg ev s mt below meth cd ls K hret hlk hin hK hZ hP hD hA hS hl
  generalize va_A ([(h, .inr (11, [.null, .int 0, .int 0]))]) sz = A at hZ hD hA hS ⊢
  have K : fq_Ctx pg mt cd cb_AL_init 1 s _ cn_AL := K
  have hin : meth.name = "<init>" := hin
  have hl : lv_has ls 1 [(0, .ref h)] := hl
  refine lv_aload_n K.1 K.2.1 dc_AL_init_0 rfl (lv_at hl 0 rfl) ?_
  have hc := fq_cut.of (wc := [(h, .inr (11, [.null, .int 0, .int 0]))]) hP hD hS hA [0] (by decide) rfl
  refine fq_cv (wr := []) (fq_rI K hK hZ hS hc (ct_AbL_init l D cI cO tE h _) yk_AbL_init wd_68 rfl wd_67 ⟨⟨rfl, rfl⟩, ⟨Nat.le_of_ble_eq_true rfl, Nat.le_of_ble_eq_true rfl⟩, ⟨Nat.le_of_ble_eq_true rfl, Nat.le_of_ble_eq_true rfl⟩⟩ hl.1 rfl (Nat.le_of_ble_eq_true rfl) dc_AL_init_1) hP hD hS hc [0] [] rfl rfl (by decide) (by decide) (fun  w H locs hw1 hP hD hS => ?_)
  subst hw1
  have hP : va_P D fq_cl ([(h, .inr (11, [.null, .int 0, .int 0]))]) _ := hP
  have hD : va_D A ([(h, .inr (11, [.null, .int 0, .int 0]))]) := hD
  refine lv_aload_n K.1 K.2.1 dc_AL_init_4 rfl (lv_at hl 0 rfl) ?_
  refine va_gets K.1 K.2.1 hZ.1 hS K.2.2.2.1 (K.2.2.2.2 _ wd_74) (fun _ z => z) dc_AL_init_5 ?_
  refine fq_put K hK cl_AL hP hD hS 0 0 rfl (by decide) wd_76 rfl rfl rfl (Nat.le_of_ble_eq_true rfl) dc_AL_init_8 (fun H locs hP hD hS => ?_)
  have hP : va_P D fq_cl ([(h, .inr (11, [.ref tE, .int 0, .int 0]))]) _ := hP
  have hD : va_D A ([(h, .inr (11, [.ref tE, .int 0, .int 0]))]) := hD
  exact fq_retv K hret hlk hS hP hD rfl dc_AL_init_11 (Nat.le_of_ble_eq_true rfl) (Nat.le_of_ble_eq_true rfl)
set_option maxHeartbeats 4000000 in
set_option maxRecDepth 100000 in
theorem ct_AL_size (l : Launch) (D : va_G) (cI cO : ClassId) (tE : Nat) (h e : Nat) (n mo : Int32) (sz : Nat) : Met l my_AL_size (fq_w my_AL_size cb_AL_size 1 (some .int)) ({ frames := 0, cells := 0, slots := 0, locals := 0 }) (va_Pc ([.ref h]) (fq_Pre D cI cO tE sz ([(h, .inr (11, [.ref e, .int n, .int mo]))]))) (va_Qi (S := va_W) (fun r w => w = [(h, .inr (11, [.ref e, .int n, .int mo]))] ∧ r = n) (fq_Bw D (va_A ([(h, .inr (11, [.ref e, .int n, .int mo]))]) sz)) (va_A ([(h, .inr (11, [.ref e, .int n, .int mo]))]) sz)) (0) (0) (va_A ([(h, .inr (11, [.ref e, .int n, .int mo]))]) sz) := by
  refine fq_open (by decide +kernel) (Nat.le_of_ble_eq_true rfl) ?_
  intro pg ev s mt below meth cd ls K hret hlk hin hK hZ hP hD hA hS hl
  generalize va_A ([(h, .inr (11, [.ref e, .int n, .int mo]))]) sz = A at hZ hD hA hS ⊢
  have K : fq_Ctx pg mt cd cb_AL_size 1 s _ cn_AL := K
  have hl : lv_has ls 1 [(0, .ref h)] := hl
  refine lv_aload_n K.1 K.2.1 dc_AL_size_0 rfl (lv_at hl 0 rfl) ?_
  refine fq_get K hK cl_AL hP 0 1 rfl (by decide) wd_77 rfl dc_AL_size_1 ?_
  exact fq_reti K hret hlk hS hP hD ⟨rfl, rfl⟩ dc_AL_size_4 (Nat.le_of_ble_eq_true rfl) (Nat.le_of_ble_eq_true rfl)
set_option maxHeartbeats 4000000 in
set_option maxRecDepth 100000 in
theorem ct_Pr_checkIndex (l : Launch) (D : va_G) (cI cO : ClassId) (tE : Nat) (k n : Nat) (hk : k < n) (hn : n ≤ 10) (sz : Nat) : Met l my_Pr_checkIndex (fq_w my_Pr_checkIndex cb_Pr_checkIndex 3 (some .int)) ({ frames := 0, cells := 0, slots := 0, locals := 0 }) (va_Pc ([.int (nI k), .int (nI n), .null]) (fq_Pre D cI cO tE sz ([]))) (va_Qi (S := va_W) (fun r w => w = [] ∧ r = nI k) (fq_Bw D (va_A ([]) sz)) (va_A ([]) sz)) (0) (0) (va_A ([]) sz) := by
  refine fq_open (by decide +kernel) (Nat.le_of_ble_eq_true rfl) ?_
  intro pg ev s mt below meth cd ls K hret hlk hin hK hZ hP hD hA hS hl
  generalize va_A ([]) sz = A at hZ hD hA hS ⊢
  have K : fq_Ctx pg mt cd cb_Pr_checkIndex 3 s _ cn_Pr := K
  have hl : lv_has ls 3 [(0, .int (nI k)), (1, .int (nI n)), (2, .null)] := hl
  refine lv_iload_n K.1 K.2.1 dc_Pr_checkIndex_0 rfl (lv_at hl 0 rfl) ?_
  refine lv_if_lt (tgt := 9) K.1 K.2.1 dc_Pr_checkIndex_1 rfl (fun b1 => absurd b1 (nI_pos (by omega))) (fun b1 => ?_)
  refine lv_iload_n K.1 K.2.1 dc_Pr_checkIndex_4 rfl (lv_at hl 0 rfl) ?_
  refine lv_iload_n K.1 K.2.1 dc_Pr_checkIndex_5 rfl (lv_at hl 1 rfl) ?_
  refine lv_icmp_lt (tgt := 16) K.1 K.2.1 dc_Pr_checkIndex_6 rfl (fun b6 => ?_) (fun b6 => absurd (nI_lt hk (by omega)) b6)
  refine lv_iload_n K.1 K.2.1 dc_Pr_checkIndex_16 rfl (lv_at hl 0 rfl) ?_
  exact fq_reti K hret hlk hS hP hD ⟨rfl, rfl⟩ dc_Pr_checkIndex_17 (Nat.le_of_ble_eq_true rfl) (Nat.le_of_ble_eq_true rfl)
set_option maxHeartbeats 4000000 in
set_option maxRecDepth 100000 in
theorem ct_Ob_checkIndex (l : Launch) (D : va_G) (cI cO : ClassId) (tE : Nat) (k n : Nat) (hk : k < n) (hn : n ≤ 10) (sz : Nat) : Met l my_Ob_checkIndex (fq_w my_Ob_checkIndex cb_Ob_checkIndex 2 (some .int)) ({ frames := 1, cells := 0, slots := 0, locals := 22 }) (va_Pc ([.int (nI k), .int (nI n)]) (fq_Pre D cI cO tE sz ([]))) (va_Qi (S := va_W) (fun r w => w = [] ∧ r = nI k) (fq_Bw D (va_A ([]) sz)) (va_A ([]) sz)) (0) (0) (va_A ([]) sz) := by
  refine fq_open (by decide +kernel) (Nat.le_of_ble_eq_true rfl) ?_
  intro pg ev s mt below meth cd ls K hret hlk hin hK hZ hP hD hA hS hl
  generalize va_A ([]) sz = A at hZ hD hA hS ⊢
  have K : fq_Ctx pg mt cd cb_Ob_checkIndex 2 s _ cn_Ob := K
  have hl : lv_has ls 2 [(0, .int (nI k)), (1, .int (nI n))] := hl
  refine lv_iload_n K.1 K.2.1 dc_Ob_checkIndex_0 rfl (lv_at hl 0 rfl) ?_
  refine lv_iload_n K.1 K.2.1 dc_Ob_checkIndex_1 rfl (lv_at hl 1 rfl) ?_
  refine lv_null K.1 K.2.1 dc_Ob_checkIndex_2 ?_
  have hc := fq_cut.of (wc := []) hP hD hS hA [] (by decide) rfl
  refine fq_ci (wr := []) (fq_rS K hK hZ hS hc (ct_Pr_checkIndex l D cI cO tE k n (by first | assumption | omega) (by first | assumption | omega) _) yk_Pr_checkIndex wd_474 wd_473 ⟨⟨rfl, rfl⟩, ⟨Nat.le_of_ble_eq_true rfl, Nat.le_of_ble_eq_true rfl⟩, ⟨Nat.le_of_ble_eq_true rfl, Nat.le_of_ble_eq_true rfl⟩⟩ hl.1 rfl (Nat.le_of_ble_eq_true rfl) dc_Ob_checkIndex_3) hP hD hS hc [] [] rfl rfl (by decide) (by decide) (fun r1 w H locs hw1 hP hD hS => ?_)
  obtain ⟨rfl, rfl⟩ := hw1
  have hP : va_P D fq_cl ([]) _ := hP
  have hD : va_D A ([]) := hD
  exact fq_reti K hret hlk hS hP hD ⟨rfl, rfl⟩ dc_Ob_checkIndex_6 (Nat.le_of_ble_eq_true rfl) (Nat.le_of_ble_eq_true rfl)
set_option maxHeartbeats 4000000 in
set_option maxRecDepth 100000 in
theorem ct_AL_elementData (l : Launch) (D : va_G) (cI cO : ClassId) (tE : Nat) (h e n : Nat) (mo : Int32) (f : Nat → Option Nat) (k q : Nat) (hk : k < n) (hn : n ≤ 10) (hf : f k = some q) (sz : Nat) : Met l my_AL_elementData (fq_w my_AL_elementData cb_AL_elementData 2 (some (.object "java/lang/Object"))) ({ frames := 0, cells := 0, slots := 0, locals := 0 }) (va_Pc ([.ref h, .int (nI k)]) (fq_Pre D cI cO tE sz ([(h, .inr (11, [.ref e, .int (nI n), .int mo])), (e, .inl (cO, 10, .inr (.inr (.inr (.inr f)))))]))) (va_Qq (S := va_W) (fun r w => w = [(h, .inr (11, [.ref e, .int (nI n), .int mo])), (e, .inl (cO, 10, .inr (.inr (.inr (.inr f)))))] ∧ r = some q) (fq_Bw D (va_A ([(h, .inr (11, [.ref e, .int (nI n), .int mo])), (e, .inl (cO, 10, .inr (.inr (.inr (.inr f)))))]) sz)) (va_A ([(h, .inr (11, [.ref e, .int (nI n), .int mo])), (e, .inl (cO, 10, .inr (.inr (.inr (.inr f)))))]) sz)) (0) (0) (va_A ([(h, .inr (11, [.ref e, .int (nI n), .int mo])), (e, .inl (cO, 10, .inr (.inr (.inr (.inr f)))))]) sz) := by
  refine fq_open (by decide +kernel) (Nat.le_of_ble_eq_true rfl) ?_
  intro pg ev s mt below meth cd ls K hret hlk hin hK hZ hP hD hA hS hl
  generalize va_A ([(h, .inr (11, [.ref e, .int (nI n), .int mo])), (e, .inl (cO, 10, .inr (.inr (.inr (.inr f)))))]) sz = A at hZ hD hA hS ⊢
  have K : fq_Ctx pg mt cd cb_AL_elementData 2 s _ cn_AL := K
  have hl : lv_has ls 2 [(0, .ref h), (1, .int (nI k))] := hl
  refine lv_aload_n K.1 K.2.1 dc_AL_elementData_0 rfl (lv_at hl 0 rfl) ?_
  refine fq_get K hK cl_AL hP 0 0 rfl (by decide) wd_76 rfl dc_AL_elementData_1 ?_
  refine lv_iload_n K.1 K.2.1 dc_AL_elementData_4 rfl (lv_at hl 1 rfl) ?_
  refine va_aldq K.1 K.2.1 hK.1 hP 1 1 rfl rfl (vp_in_nI (show k < 10 by omega) (by decide)) dc_AL_elementData_5 ?_
  refine fq_asv (y := .ref q) (by rw [nI_clamp (show k < 2 ^ 31 by omega), hf]; rfl) ?_
  exact fq_retq (r := some q) K hret (Or.inl ⟨_, rfl⟩) hlk hS hP hD ⟨rfl, rfl⟩ dc_AL_elementData_6 (Nat.le_of_ble_eq_true rfl) (Nat.le_of_ble_eq_true rfl)
set_option maxHeartbeats 4000000 in
set_option maxRecDepth 100000 in
theorem ct_AL_get (l : Launch) (D : va_G) (cI cO : ClassId) (tE : Nat) (h e n : Nat) (mo : Int32) (f : Nat → Option Nat) (k q : Nat) (hk : k < n) (hn : n ≤ 10) (hf : f k = some q) (sz : Nat) : Met l my_AL_get (fq_w my_AL_get cb_AL_get 2 (some (.object "java/lang/Object"))) ({ frames := 2, cells := 0, slots := 0, locals := 43 }) (va_Pc ([.ref h, .int (nI k)]) (fq_Pre D cI cO tE sz ([(h, .inr (11, [.ref e, .int (nI n), .int mo])), (e, .inl (cO, 10, .inr (.inr (.inr (.inr f)))))]))) (va_Qq (S := va_W) (fun r w => w = [(h, .inr (11, [.ref e, .int (nI n), .int mo])), (e, .inl (cO, 10, .inr (.inr (.inr (.inr f)))))] ∧ r = some q) (fq_Bw D (va_A ([(h, .inr (11, [.ref e, .int (nI n), .int mo])), (e, .inl (cO, 10, .inr (.inr (.inr (.inr f)))))]) sz)) (va_A ([(h, .inr (11, [.ref e, .int (nI n), .int mo])), (e, .inl (cO, 10, .inr (.inr (.inr (.inr f)))))]) sz)) (0) (0) (va_A ([(h, .inr (11, [.ref e, .int (nI n), .int mo])), (e, .inl (cO, 10, .inr (.inr (.inr (.inr f)))))]) sz) := by
  refine fq_open (by decide +kernel) (Nat.le_of_ble_eq_true rfl) ?_
  intro pg ev s mt below meth cd ls K hret hlk hin hK hZ hP hD hA hS hl
  generalize va_A ([(h, .inr (11, [.ref e, .int (nI n), .int mo])), (e, .inl (cO, 10, .inr (.inr (.inr (.inr f)))))]) sz = A at hZ hD hA hS ⊢
  have K : fq_Ctx pg mt cd cb_AL_get 2 s _ cn_AL := K
  have hl : lv_has ls 2 [(0, .ref h), (1, .int (nI k))] := hl
  refine lv_iload_n K.1 K.2.1 dc_AL_get_0 rfl (lv_at hl 1 rfl) ?_
  refine lv_aload_n K.1 K.2.1 dc_AL_get_1 rfl (lv_at hl 0 rfl) ?_
  refine fq_get K hK cl_AL hP 0 1 rfl (by decide) wd_77 rfl dc_AL_get_2 ?_
  have hc := fq_cut.of (wc := []) hP hD hS hA [] (by decide) rfl
  refine fq_ci (wr := [(h, .inr (11, [.ref e, .int (nI n), .int mo])), (e, .inl (cO, 10, .inr (.inr (.inr (.inr f)))))]) (fq_rS K hK hZ hS hc (ct_Ob_checkIndex l D cI cO tE k n hk hn _) yk_Ob_checkIndex wd_471 wd_470 ⟨⟨rfl, rfl⟩, ⟨Nat.le_of_ble_eq_true rfl, Nat.le_of_ble_eq_true rfl⟩, ⟨Nat.le_of_ble_eq_true rfl, Nat.le_of_ble_eq_true rfl⟩⟩ hl.1 rfl (Nat.le_of_ble_eq_true rfl) dc_AL_get_5) hP hD hS hc [] [0, 1] rfl rfl (by decide) (by decide) (fun r1 w H locs hw1 hP hD hS => ?_)
  obtain ⟨rfl, rfl⟩ := hw1
  have hP : va_P D fq_cl ([(h, .inr (11, [.ref e, .int (nI n), .int mo])), (e, .inl (cO, 10, .inr (.inr (.inr (.inr f)))))]) _ := hP
  have hD : va_D A ([(h, .inr (11, [.ref e, .int (nI n), .int mo])), (e, .inl (cO, 10, .inr (.inr (.inr (.inr f)))))]) := hD
  refine lv_pop K.1 K.2.1 dc_AL_get_8 rfl ?_
  refine lv_aload_n K.1 K.2.1 dc_AL_get_9 rfl (lv_at hl 0 rfl) ?_
  refine lv_iload_n K.1 K.2.1 dc_AL_get_10 rfl (lv_at hl 1 rfl) ?_
  have hc := fq_cut.of (wc := [(h, .inr (11, [.ref e, .int (nI n), .int mo])), (e, .inl (cO, 10, .inr (.inr (.inr (.inr f)))))]) hP hD hS hA [0, 1] (by decide) rfl
  refine fq_cq (wr := []) (fq_rV K hK hZ hS hc (ct_AL_elementData l D cI cO tE h e n mo f k q hk hn hf _) yk_AL_elementData wd_477 wd_478 wd_476 0 rfl rfl rfl ⟨⟨rfl, rfl⟩, ⟨Nat.le_of_ble_eq_true rfl, Nat.le_of_ble_eq_true rfl⟩, ⟨Nat.le_of_ble_eq_true rfl, Nat.le_of_ble_eq_true rfl⟩⟩ hl.1 rfl (Nat.le_of_ble_eq_true rfl) dc_AL_get_11) hP hD hS hc [0, 1] [] rfl rfl (by decide) (by decide) (fun r2 w H locs hw2 hP hD hS => ?_)
  obtain ⟨rfl, rfl⟩ := hw2
  have hP : va_P D fq_cl ([(h, .inr (11, [.ref e, .int (nI n), .int mo])), (e, .inl (cO, 10, .inr (.inr (.inr (.inr f)))))]) _ := hP
  have hD : va_D A ([(h, .inr (11, [.ref e, .int (nI n), .int mo])), (e, .inl (cO, 10, .inr (.inr (.inr (.inr f)))))]) := hD
  refine W.eq (g2 := F0 mt 14 ls [.ref q]) rfl ?_
  exact fq_retq (r := some q) K hret (Or.inl ⟨_, rfl⟩) hlk hS hP hD ⟨rfl, rfl⟩ dc_AL_get_14 (Nat.le_of_ble_eq_true rfl) (Nat.le_of_ble_eq_true rfl)
set_option maxHeartbeats 4000000 in
set_option maxRecDepth 100000 in
theorem ct_AL_grow2 (l : Launch) (D : va_G) (cI cO : ClassId) (tE : Nat) (h : Nat) (mo : Int32) (sz : Nat) : Met l my_AL_grow2 (fq_w my_AL_grow2 cb_AL_grow2 4 (some (.array (.object "java/lang/Object")))) ({ frames := 1, cells := 1, slots := 10, locals := 14 }) (va_Pc ([.ref h, .int (nI 1)]) (fq_Pre D cI cO tE sz ([(h, .inr (11, [.ref tE, .int (nI 0), .int mo]))]))) (va_Qq (S := va_W) (fun r w => ∃ qe : Nat, w = [(h, .inr (11, [.ref qe, .int (nI 0), .int mo])), (qe, .inl (cO, 10, .inr (.inr (.inr (.inr (fun _ => none))))))] ∧ r = some qe) (fq_Bw D (va_A ([(h, .inr (11, [.ref tE, .int (nI 0), .int mo]))]) sz)) (va_A ([(h, .inr (11, [.ref tE, .int (nI 0), .int mo]))]) sz)) (1) (10) (va_A ([(h, .inr (11, [.ref tE, .int (nI 0), .int mo]))]) sz) := by
  refine fq_open (by decide +kernel) (Nat.le_of_ble_eq_true rfl) ?_
  intro pg ev s mt below meth cd ls K hret hlk hin hK hZ hP hD hA hS hl
  generalize va_A ([(h, .inr (11, [.ref tE, .int (nI 0), .int mo]))]) sz = A at hZ hD hA hS ⊢
  have K : fq_Ctx pg mt cd cb_AL_grow2 4 s _ cn_AL := K
  have hl : lv_has ls 4 [(0, .ref h), (1, .int (nI 1))] := hl
  refine lv_aload_n K.1 K.2.1 dc_AL_grow2_0 rfl (lv_at hl 0 rfl) ?_
  refine fq_get K hK cl_AL hP 0 0 rfl (by decide) wd_76 rfl dc_AL_grow2_1 ?_
  refine va_tlen (v := nI 0) K.1 K.2.1 hZ.2 hS rfl dc_AL_grow2_4 ?_
  refine lv_istore_n K.1 K.2.1 dc_AL_grow2_5 rfl hl (by decide) rfl (fun ls hl => ?_)
  have hl : lv_has ls 4 [(2, .int (nI 0)), (0, .ref h), (1, .int (nI 1))] := hl
  refine lv_iload_n K.1 K.2.1 dc_AL_grow2_6 rfl (lv_at hl 0 rfl) ?_
  refine lv_if_gt (tgt := 20) K.1 K.2.1 dc_AL_grow2_7 rfl (fun b7 => absurd b7 (by decide)) (fun b7 => ?_)
  refine lv_aload_n K.1 K.2.1 dc_AL_grow2_10 rfl (lv_at hl 1 rfl) ?_
  refine fq_get K hK cl_AL hP 0 0 rfl (by decide) wd_76 rfl dc_AL_grow2_11 ?_
  refine va_gets K.1 K.2.1 hZ.1 hS K.2.2.2.1 (K.2.2.2.2 _ wd_74) (fun _ z => z) dc_AL_grow2_14 ?_
  refine lv_acmp_eq (rx := some tE) (ry := some tE) (tgt := 45) K.1 K.2.1 dc_AL_grow2_17 rfl (fun _ => ?_) (fun z => absurd rfl z)
  refine lv_aload_n K.1 K.2.1 dc_AL_grow2_45 rfl (lv_at hl 1 rfl) ?_
  refine lv_bipush (v := 10) K.1 K.2.1 dc_AL_grow2_46 (by decide) ?_
  refine lv_iload_n K.1 K.2.1 dc_AL_grow2_48 rfl (lv_at hl 2 rfl) ?_
  refine va_mmax K.1 K.2.1 (K.2.2.1.trans hl.1.symm) K.2.2.2.1 (K.2.2.2.2 _ wd_330) (K.2.2.2.2 _ wd_179) (K.2.2.2.2 _ wd_35) (K.2.2.2.2 _ wd_180) (Nat.le_of_ble_eq_true rfl) (Nat.le_of_ble_eq_true rfl) (Nat.le_of_ble_eq_true rfl) (Nat.le_of_ble_eq_true rfl) dc_AL_grow2_49 ?_
  refine fq_asi (y := nI 10) (by decide) ?_
  refine fq_newO K hK wd_331 hP hD hS hA 10 rfl (by decide) (Nat.le_of_ble_eq_true rfl) (Nat.le_of_ble_eq_true rfl) dc_AL_grow2_52 (fun q1 H hP hD hS => ?_)
  have hP : va_P D fq_cl ([(h, .inr (11, [.ref tE, .int (nI 0), .int mo])), (q1, .inl (cO, 10, .inr (.inr (.inr (.inr (fun _ => none))))))]) _ := hP
  have hD : va_D A ([(h, .inr (11, [.ref tE, .int (nI 0), .int mo])), (q1, .inl (cO, 10, .inr (.inr (.inr (.inr (fun _ => none))))))]) := hD
  refine lv_dup_x1 K.1 K.2.1 dc_AL_grow2_55 rfl rfl ?_
  refine fq_put K hK cl_AL hP hD hS 0 0 rfl (by decide) wd_76 rfl rfl rfl (Nat.le_of_ble_eq_true rfl) dc_AL_grow2_56 (fun H locs hP hD hS => ?_)
  have hP : va_P D fq_cl ([(h, .inr (11, [.ref q1, .int (nI 0), .int mo])), (q1, .inl (cO, 10, .inr (.inr (.inr (.inr (fun _ => none))))))]) _ := hP
  have hD : va_D A ([(h, .inr (11, [.ref q1, .int (nI 0), .int mo])), (q1, .inl (cO, 10, .inr (.inr (.inr (.inr (fun _ => none))))))]) := hD
  exact fq_retq (r := some q1) K hret (Or.inr ⟨_, rfl⟩) hlk hS hP hD ⟨_, rfl, rfl⟩ dc_AL_grow2_59 (Nat.le_of_ble_eq_true rfl) (Nat.le_of_ble_eq_true rfl)
set_option maxHeartbeats 4000000 in
set_option maxRecDepth 100000 in
theorem ct_AL_grow (l : Launch) (D : va_G) (cI cO : ClassId) (tE : Nat) (h : Nat) (mo : Int32) (sz : Nat) : Met l my_AL_grow (fq_w my_AL_grow cb_AL_grow 1 (some (.array (.object "java/lang/Object")))) ({ frames := 2, cells := 1, slots := 10, locals := 37 }) (va_Pc ([.ref h]) (fq_Pre D cI cO tE sz ([(h, .inr (11, [.ref tE, .int (nI 0), .int mo]))]))) (va_Qq (S := va_W) (fun r w => ∃ qe : Nat, w = [(h, .inr (11, [.ref qe, .int (nI 0), .int mo])), (qe, .inl (cO, 10, .inr (.inr (.inr (.inr (fun _ => none))))))] ∧ r = some qe) (fq_Bw D (va_A ([(h, .inr (11, [.ref tE, .int (nI 0), .int mo]))]) sz)) (va_A ([(h, .inr (11, [.ref tE, .int (nI 0), .int mo]))]) sz)) (1) (10) (va_A ([(h, .inr (11, [.ref tE, .int (nI 0), .int mo]))]) sz) := by
  refine fq_open (by decide +kernel) (Nat.le_of_ble_eq_true rfl) ?_
  intro pg ev s mt below meth cd ls K hret hlk hin hK hZ hP hD hA hS hl
  generalize va_A ([(h, .inr (11, [.ref tE, .int (nI 0), .int mo]))]) sz = A at hZ hD hA hS ⊢
  have K : fq_Ctx pg mt cd cb_AL_grow 1 s _ cn_AL := K
  have hl : lv_has ls 1 [(0, .ref h)] := hl
  refine lv_aload_n K.1 K.2.1 dc_AL_grow_0 rfl (lv_at hl 0 rfl) ?_
  refine lv_aload_n K.1 K.2.1 dc_AL_grow_1 rfl (lv_at hl 0 rfl) ?_
  refine fq_get K hK cl_AL hP 0 1 rfl (by decide) wd_77 rfl dc_AL_grow_2 ?_
  refine lv_iconst (v := 1) K.1 K.2.1 dc_AL_grow_5 (by decide) ?_
  refine lv_iadd K.1 K.2.1 dc_AL_grow_6 ?_
  refine fq_asi (y := nI 1) (by decide) ?_
  have hc := fq_cut.of (wc := [(h, .inr (11, [.ref tE, .int (nI 0), .int mo]))]) hP hD hS hA [0] (by decide) rfl
  refine fq_cq (wr := []) (fq_rV K hK hZ hS hc (ct_AL_grow2 l D cI cO tE h mo _) yk_AL_grow2 wd_290 wd_4 wd_288 0 rfl rfl rfl ⟨⟨rfl, rfl⟩, ⟨Nat.le_of_ble_eq_true rfl, Nat.le_of_ble_eq_true rfl⟩, ⟨Nat.le_of_ble_eq_true rfl, Nat.le_of_ble_eq_true rfl⟩⟩ hl.1 rfl (Nat.le_of_ble_eq_true rfl) dc_AL_grow_7) hP hD hS hc [0] [] rfl rfl (by decide) (by decide) (fun r1 w H locs hw1 hP hD hS => ?_)
  obtain ⟨qe1, rfl, rfl⟩ := hw1
  have hP : va_P D fq_cl ([(h, .inr (11, [.ref qe1, .int (nI 0), .int mo])), (qe1, .inl (cO, 10, .inr (.inr (.inr (.inr (fun _ => none))))))]) _ := hP
  have hD : va_D A ([(h, .inr (11, [.ref qe1, .int (nI 0), .int mo])), (qe1, .inl (cO, 10, .inr (.inr (.inr (.inr (fun _ => none))))))]) := hD
  refine W.eq (g2 := F0 mt 10 ls [.ref qe1]) rfl ?_
  exact fq_retq (r := some qe1) K hret (Or.inr ⟨_, rfl⟩) hlk hS hP hD ⟨_, rfl, rfl⟩ dc_AL_grow_10 (Nat.le_of_ble_eq_true rfl) (Nat.le_of_ble_eq_true rfl)
set_option maxHeartbeats 4000000 in
set_option maxRecDepth 100000 in
theorem ct_AL_add2A (l : Launch) (D : va_G) (cI cO : ClassId) (tE : Nat) (h : Nat) (mo : Int32) (q ci : Nat) (vs : List Value) (rc : vw_C) (hci : fq_cl[ci]? = some rc) (hcs : Cond.castable rc.1 cn_Oj ∈ lw_tbl) (sz : Nat) : Met l my_AL_add2 (fq_w my_AL_add2 cb_AL_add2 4 none) ({ frames := 3, cells := 1, slots := 10, locals := 57 }) (va_Pc ([.ref h, .ref q, .ref tE, .int (nI 0)]) (fq_Pre D cI cO tE sz ([(h, .inr (11, [.ref tE, .int (nI 0), .int mo])), (q, .inr (ci, vs))]))) (va_Qv (S := va_W) (fun w => ∃ qe : Nat, w = [(h, .inr (11, [.ref qe, .int (nI 1), .int mo])), (q, .inr (ci, vs)), (qe, .inl (cO, 10, .inr (.inr (.inr (.inr (va_up (fun _ => none) 0 (some q)))))))]) (fq_Bw D (va_A ([(h, .inr (11, [.ref tE, .int (nI 0), .int mo])), (q, .inr (ci, vs))]) sz)) (va_A ([(h, .inr (11, [.ref tE, .int (nI 0), .int mo])), (q, .inr (ci, vs))]) sz)) (1) (10) (va_A ([(h, .inr (11, [.ref tE, .int (nI 0), .int mo])), (q, .inr (ci, vs))]) sz) := by
  refine fq_open (by decide +kernel) (Nat.le_of_ble_eq_true rfl) ?_
  intro pg ev s mt below meth cd ls K hret hlk hin hK hZ hP hD hA hS hl
  generalize va_A ([(h, .inr (11, [.ref tE, .int (nI 0), .int mo])), (q, .inr (ci, vs))]) sz = A at hZ hD hA hS ⊢
  have K : fq_Ctx pg mt cd cb_AL_add2 4 s _ cn_AL := K
  have hl : lv_has ls 4 [(0, .ref h), (1, .ref q), (2, .ref tE), (3, .int (nI 0))] := hl
  refine lv_iload_n K.1 K.2.1 dc_AL_add2_0 rfl (lv_at hl 3 rfl) ?_
  refine lv_aload_n K.1 K.2.1 dc_AL_add2_1 rfl (lv_at hl 2 rfl) ?_
  refine va_tlen (v := nI 0) K.1 K.2.1 hZ.2 hS rfl dc_AL_add2_2 ?_
  refine lv_icmp_ne (tgt := 11) K.1 K.2.1 dc_AL_add2_3 rfl (fun b3 => absurd rfl b3) (fun b3 => ?_)
  refine lv_aload_n K.1 K.2.1 dc_AL_add2_6 rfl (lv_at hl 0 rfl) ?_
  have hc := fq_cut.of (wc := [(h, .inr (11, [.ref tE, .int (nI 0), .int mo]))]) hP hD hS hA [0] (by decide) rfl
  refine fq_cq (wr := [(q, .inr (ci, vs))]) (fq_rV K hK hZ hS hc (ct_AL_grow l D cI cO tE h mo _) yk_AL_grow wd_286 wd_3 wd_284 0 rfl rfl rfl ⟨⟨rfl, rfl⟩, ⟨Nat.le_of_ble_eq_true rfl, Nat.le_of_ble_eq_true rfl⟩, ⟨Nat.le_of_ble_eq_true rfl, Nat.le_of_ble_eq_true rfl⟩⟩ hl.1 rfl (Nat.le_of_ble_eq_true rfl) dc_AL_add2_7) hP hD hS hc [0] [1] rfl rfl (by decide) (by decide) (fun r1 w H locs hw1 hP hD hS => ?_)
  obtain ⟨qe1, rfl, rfl⟩ := hw1
  have hP : va_P D fq_cl ([(q, .inr (ci, vs)), (h, .inr (11, [.ref qe1, .int (nI 0), .int mo])), (qe1, .inl (cO, 10, .inr (.inr (.inr (.inr (fun _ => none))))))]) _ := hP
  have hD : va_D A ([(q, .inr (ci, vs)), (h, .inr (11, [.ref qe1, .int (nI 0), .int mo])), (qe1, .inl (cO, 10, .inr (.inr (.inr (.inr (fun _ => none))))))]) := hD
  refine W.eq (g2 := F0 mt 10 ls [.ref qe1]) rfl ?_
  refine lv_astore_n K.1 K.2.1 dc_AL_add2_10 rfl hl (by decide) rfl (fun ls hl => ?_)
  have hl : lv_has ls 4 [(2, .ref qe1), (0, .ref h), (1, .ref q), (3, .int (nI 0))] := hl
  refine lv_aload_n K.1 K.2.1 dc_AL_add2_11 rfl (lv_at hl 0 rfl) ?_
  refine lv_iload_n K.1 K.2.1 dc_AL_add2_12 rfl (lv_at hl 3 rfl) ?_
  refine lv_aload_n K.1 K.2.1 dc_AL_add2_13 rfl (lv_at hl 2 rfl) ?_
  refine va_astqO (E := "java/lang/Object") K.1 K.2.1 hK.1 hP hD hS 2 1 0 ci rfl rfl (hK.2.1 _ hcs rfl) rfl hci (vp_in_nI (show 0 < 10 by omega) (by decide)) dc_AL_add2_14 (fun H locs hP hD hS => ?_)
  rw [nI_clamp (show 0 < 2 ^ 31 by omega)] at hP hD
  have hP : va_P D fq_cl ([(q, .inr (ci, vs)), (h, .inr (11, [.ref qe1, .int (nI 0), .int mo])), (qe1, .inl (cO, 10, .inr (.inr (.inr (.inr (va_up (fun _ => none) 0 (some q)))))))]) _ := hP
  have hD : va_D A ([(q, .inr (ci, vs)), (h, .inr (11, [.ref qe1, .int (nI 0), .int mo])), (qe1, .inl (cO, 10, .inr (.inr (.inr (.inr (va_up (fun _ => none) 0 (some q)))))))]) := hD
  refine lv_aload_n K.1 K.2.1 dc_AL_add2_15 rfl (lv_at hl 1 rfl) ?_
  refine lv_iload_n K.1 K.2.1 dc_AL_add2_16 rfl (lv_at hl 3 rfl) ?_
  refine lv_iconst (v := 1) K.1 K.2.1 dc_AL_add2_17 (by decide) ?_
  refine lv_iadd K.1 K.2.1 dc_AL_add2_18 ?_
  refine fq_asi (y := nI 1) (by decide) ?_
  refine fq_put K hK cl_AL hP hD hS 1 1 rfl (by decide) wd_77 rfl rfl rfl (Nat.le_of_ble_eq_true rfl) dc_AL_add2_19 (fun H locs hP hD hS => ?_)
  have hP : va_P D fq_cl ([(q, .inr (ci, vs)), (h, .inr (11, [.ref qe1, .int (nI 1), .int mo])), (qe1, .inl (cO, 10, .inr (.inr (.inr (.inr (va_up (fun _ => none) 0 (some q)))))))]) _ := hP
  have hD : va_D A ([(q, .inr (ci, vs)), (h, .inr (11, [.ref qe1, .int (nI 1), .int mo])), (qe1, .inl (cO, 10, .inr (.inr (.inr (.inr (va_up (fun _ => none) 0 (some q)))))))]) := hD
  have hP := hP.sub (ws' := [(h, .inr (11, [.ref qe1, .int (nI 1), .int mo])), (q, .inr (ci, vs)), (qe1, .inl (cO, 10, .inr (.inr (.inr (.inr (va_up (fun _ => none) 0 (some q)))))))]) [1, 0, 2] rfl
  have hD := hD.sub (ws' := [(h, .inr (11, [.ref qe1, .int (nI 1), .int mo])), (q, .inr (ci, vs)), (qe1, .inl (cO, 10, .inr (.inr (.inr (.inr (va_up (fun _ => none) 0 (some q)))))))]) [1, 0, 2] (by decide) rfl
  exact fq_retv K hret hlk hS hP hD ⟨_, rfl⟩ dc_AL_add2_22 (Nat.le_of_ble_eq_true rfl) (Nat.le_of_ble_eq_true rfl)
set_option maxHeartbeats 4000000 in
set_option maxRecDepth 100000 in
theorem ct_AL_addA (l : Launch) (D : va_G) (cI cO : ClassId) (tE : Nat) (h : Nat) (mo : Int32) (q ci : Nat) (vs : List Value) (rc : vw_C) (hci : fq_cl[ci]? = some rc) (hcs : Cond.castable rc.1 cn_Oj ∈ lw_tbl) (sz : Nat) : Met l my_AL_add (fq_w my_AL_add cb_AL_add 2 (some .boolean)) ({ frames := 4, cells := 1, slots := 10, locals := 80 }) (va_Pc ([.ref h, .ref q]) (fq_Pre D cI cO tE sz ([(h, .inr (11, [.ref tE, .int (nI 0), .int mo])), (q, .inr (ci, vs))]))) (va_Qi (S := va_W) (fun r w => ∃ (mo2 : Int32) (qe : Nat), w = [(h, .inr (11, [.ref qe, .int (nI 1), .int mo2])), (q, .inr (ci, vs)), (qe, .inl (cO, 10, .inr (.inr (.inr (.inr (va_up (fun _ => none) 0 (some q)))))))] ∧ r = 1) (fq_Bw D (va_A ([(h, .inr (11, [.ref tE, .int (nI 0), .int mo])), (q, .inr (ci, vs))]) sz)) (va_A ([(h, .inr (11, [.ref tE, .int (nI 0), .int mo])), (q, .inr (ci, vs))]) sz)) (1) (10) (va_A ([(h, .inr (11, [.ref tE, .int (nI 0), .int mo])), (q, .inr (ci, vs))]) sz) := by
  refine fq_open (by decide +kernel) (Nat.le_of_ble_eq_true rfl) ?_
  intro pg ev s mt below meth cd ls K hret hlk hin hK hZ hP hD hA hS hl
  generalize va_A ([(h, .inr (11, [.ref tE, .int (nI 0), .int mo])), (q, .inr (ci, vs))]) sz = A at hZ hD hA hS ⊢
  have K : fq_Ctx pg mt cd cb_AL_add 2 s _ cn_AL := K
  have hl : lv_has ls 2 [(0, .ref h), (1, .ref q)] := hl
  refine lv_aload_n K.1 K.2.1 dc_AL_add_0 rfl (lv_at hl 0 rfl) ?_
  refine lv_dup K.1 K.2.1 dc_AL_add_1 rfl ?_
  refine fq_getS K hK cl_AL hP 0 2 rfl (by decide) wd_79 wd_80 rfl dc_AL_add_2 ?_
  refine lv_iconst (v := 1) K.1 K.2.1 dc_AL_add_5 (by decide) ?_
  refine lv_iadd K.1 K.2.1 dc_AL_add_6 ?_
  refine lv_topi (fun v1 e_v1 => ?_)
  refine fq_putS K hK cl_AL hP hD hS 0 2 rfl (by decide) wd_79 wd_80 rfl rfl rfl (Nat.le_of_ble_eq_true rfl) dc_AL_add_7 (fun H locs hP hD hS => ?_)
  have hP : va_P D fq_cl ([(h, .inr (11, [.ref tE, .int (nI 0), .int v1])), (q, .inr (ci, vs))]) _ := hP
  have hD : va_D A ([(h, .inr (11, [.ref tE, .int (nI 0), .int v1])), (q, .inr (ci, vs))]) := hD
  refine lv_aload_n K.1 K.2.1 dc_AL_add_10 rfl (lv_at hl 0 rfl) ?_
  refine lv_aload_n K.1 K.2.1 dc_AL_add_11 rfl (lv_at hl 1 rfl) ?_
  refine lv_aload_n K.1 K.2.1 dc_AL_add_12 rfl (lv_at hl 0 rfl) ?_
  refine fq_get K hK cl_AL hP 0 0 rfl (by decide) wd_76 rfl dc_AL_add_13 ?_
  refine lv_aload_n K.1 K.2.1 dc_AL_add_16 rfl (lv_at hl 0 rfl) ?_
  refine fq_get K hK cl_AL hP 0 1 rfl (by decide) wd_77 rfl dc_AL_add_17 ?_
  have hc := fq_cut.of (wc := [(h, .inr (11, [.ref tE, .int (nI 0), .int v1])), (q, .inr (ci, vs))]) hP hD hS hA [0, 1] (by decide) rfl
  refine fq_cv (wr := []) (fq_rV K hK hZ hS hc (ct_AL_add2A l D cI cO tE h v1 q ci vs rc hci hcs _) yk_AL_add2 wd_282 wd_2 wd_280 0 rfl rfl rfl ⟨⟨rfl, rfl⟩, ⟨Nat.le_of_ble_eq_true rfl, Nat.le_of_ble_eq_true rfl⟩, ⟨Nat.le_of_ble_eq_true rfl, Nat.le_of_ble_eq_true rfl⟩⟩ hl.1 rfl (Nat.le_of_ble_eq_true rfl) dc_AL_add_20) hP hD hS hc [0, 1] [] rfl rfl (by decide) (by decide) (fun  w H locs hw1 hP hD hS => ?_)
  obtain ⟨qe1, rfl⟩ := hw1
  have hP : va_P D fq_cl ([(h, .inr (11, [.ref qe1, .int (nI 1), .int v1])), (q, .inr (ci, vs)), (qe1, .inl (cO, 10, .inr (.inr (.inr (.inr (va_up (fun _ => none) 0 (some q)))))))]) _ := hP
  have hD : va_D A ([(h, .inr (11, [.ref qe1, .int (nI 1), .int v1])), (q, .inr (ci, vs)), (qe1, .inl (cO, 10, .inr (.inr (.inr (.inr (va_up (fun _ => none) 0 (some q)))))))]) := hD
  refine lv_iconst (v := 1) K.1 K.2.1 dc_AL_add_23 (by decide) ?_
  exact fq_retz K hret hlk hS hP hD (by first | exact Or.inl rfl | exact Or.inr rfl) ⟨_, _, rfl, rfl⟩ dc_AL_add_24 (Nat.le_of_ble_eq_true rfl) (Nat.le_of_ble_eq_true rfl)
set_option maxHeartbeats 4000000 in
set_option maxRecDepth 100000 in
theorem ct_AL_add2B (l : Launch) (D : va_G) (cI cO : ClassId) (tE : Nat) (h e n : Nat) (mo : Int32) (f : Nat → Option Nat) (q ci : Nat) (vs : List Value) (rc : vw_C) (hci : fq_cl[ci]? = some rc) (hcs : Cond.castable rc.1 cn_Oj ∈ lw_tbl) (hn : n < 10) (sz : Nat) : Met l my_AL_add2 (fq_w my_AL_add2 cb_AL_add2 4 none) ({ frames := 0, cells := 0, slots := 0, locals := 0 }) (va_Pc ([.ref h, .ref q, .ref e, .int (nI n)]) (fq_Pre D cI cO tE sz ([(h, .inr (11, [.ref e, .int (nI n), .int mo])), (q, .inr (ci, vs)), (e, .inl (cO, 10, .inr (.inr (.inr (.inr f)))))]))) (va_Qv (S := va_W) (fun w => w = [(h, .inr (11, [.ref e, .int (nI (n + 1)), .int mo])), (q, .inr (ci, vs)), (e, .inl (cO, 10, .inr (.inr (.inr (.inr (va_up f n (some q)))))))]) (fq_Bw D (va_A ([(h, .inr (11, [.ref e, .int (nI n), .int mo])), (q, .inr (ci, vs)), (e, .inl (cO, 10, .inr (.inr (.inr (.inr f)))))]) sz)) (va_A ([(h, .inr (11, [.ref e, .int (nI n), .int mo])), (q, .inr (ci, vs)), (e, .inl (cO, 10, .inr (.inr (.inr (.inr f)))))]) sz)) (0) (0) (va_A ([(h, .inr (11, [.ref e, .int (nI n), .int mo])), (q, .inr (ci, vs)), (e, .inl (cO, 10, .inr (.inr (.inr (.inr f)))))]) sz) := by
  refine fq_open (by decide +kernel) (Nat.le_of_ble_eq_true rfl) ?_
  intro pg ev s mt below meth cd ls K hret hlk hin hK hZ hP hD hA hS hl
  generalize va_A ([(h, .inr (11, [.ref e, .int (nI n), .int mo])), (q, .inr (ci, vs)), (e, .inl (cO, 10, .inr (.inr (.inr (.inr f)))))]) sz = A at hZ hD hA hS ⊢
  have K : fq_Ctx pg mt cd cb_AL_add2 4 s _ cn_AL := K
  have hl : lv_has ls 4 [(0, .ref h), (1, .ref q), (2, .ref e), (3, .int (nI n))] := hl
  refine lv_iload_n K.1 K.2.1 dc_AL_add2_0 rfl (lv_at hl 3 rfl) ?_
  refine lv_aload_n K.1 K.2.1 dc_AL_add2_1 rfl (lv_at hl 2 rfl) ?_
  refine va_alen (v := nI 10) K.1 K.2.1 hK.1 hP 2 1 rfl rfl rfl dc_AL_add2_2 ?_
  refine lv_icmp_ne (tgt := 11) K.1 K.2.1 dc_AL_add2_3 rfl (fun b3 => ?_) (fun b3 => absurd ((nI_eq (by omega) (by decide)).mp b3) (by omega))
  refine lv_aload_n K.1 K.2.1 dc_AL_add2_11 rfl (lv_at hl 2 rfl) ?_
  refine lv_iload_n K.1 K.2.1 dc_AL_add2_12 rfl (lv_at hl 3 rfl) ?_
  refine lv_aload_n K.1 K.2.1 dc_AL_add2_13 rfl (lv_at hl 1 rfl) ?_
  refine va_astqO (E := "java/lang/Object") K.1 K.2.1 hK.1 hP hD hS 2 1 1 ci rfl rfl (hK.2.1 _ hcs rfl) rfl hci (vp_in_nI (show n < 10 by omega) (by decide)) dc_AL_add2_14 (fun H locs hP hD hS => ?_)
  rw [nI_clamp (show n < 2 ^ 31 by omega)] at hP hD
  have hP : va_P D fq_cl ([(h, .inr (11, [.ref e, .int (nI n), .int mo])), (q, .inr (ci, vs)), (e, .inl (cO, 10, .inr (.inr (.inr (.inr (va_up f n (some q)))))))]) _ := hP
  have hD : va_D A ([(h, .inr (11, [.ref e, .int (nI n), .int mo])), (q, .inr (ci, vs)), (e, .inl (cO, 10, .inr (.inr (.inr (.inr (va_up f n (some q)))))))]) := hD
  refine lv_aload_n K.1 K.2.1 dc_AL_add2_15 rfl (lv_at hl 0 rfl) ?_
  refine lv_iload_n K.1 K.2.1 dc_AL_add2_16 rfl (lv_at hl 3 rfl) ?_
  refine lv_iconst (v := 1) K.1 K.2.1 dc_AL_add2_17 (by decide) ?_
  refine lv_iadd K.1 K.2.1 dc_AL_add2_18 ?_
  refine fq_asi (y := nI (n + 1)) (nI_1 n) ?_
  refine fq_put K hK cl_AL hP hD hS 0 1 rfl (by decide) wd_77 rfl rfl rfl (Nat.le_of_ble_eq_true rfl) dc_AL_add2_19 (fun H locs hP hD hS => ?_)
  have hP : va_P D fq_cl ([(h, .inr (11, [.ref e, .int (nI (n + 1)), .int mo])), (q, .inr (ci, vs)), (e, .inl (cO, 10, .inr (.inr (.inr (.inr (va_up f n (some q)))))))]) _ := hP
  have hD : va_D A ([(h, .inr (11, [.ref e, .int (nI (n + 1)), .int mo])), (q, .inr (ci, vs)), (e, .inl (cO, 10, .inr (.inr (.inr (.inr (va_up f n (some q)))))))]) := hD
  exact fq_retv K hret hlk hS hP hD rfl dc_AL_add2_22 (Nat.le_of_ble_eq_true rfl) (Nat.le_of_ble_eq_true rfl)
set_option maxHeartbeats 4000000 in
set_option maxRecDepth 100000 in
theorem ct_AL_addB (l : Launch) (D : va_G) (cI cO : ClassId) (tE : Nat) (h e n : Nat) (mo : Int32) (f : Nat → Option Nat) (q ci : Nat) (vs : List Value) (rc : vw_C) (hci : fq_cl[ci]? = some rc) (hcs : Cond.castable rc.1 cn_Oj ∈ lw_tbl) (hn : n < 10) (sz : Nat) : Met l my_AL_add (fq_w my_AL_add cb_AL_add 2 (some .boolean)) ({ frames := 1, cells := 0, slots := 0, locals := 23 }) (va_Pc ([.ref h, .ref q]) (fq_Pre D cI cO tE sz ([(h, .inr (11, [.ref e, .int (nI n), .int mo])), (q, .inr (ci, vs)), (e, .inl (cO, 10, .inr (.inr (.inr (.inr f)))))]))) (va_Qi (S := va_W) (fun r w => ∃ mo2 : Int32, w = [(h, .inr (11, [.ref e, .int (nI (n + 1)), .int mo2])), (q, .inr (ci, vs)), (e, .inl (cO, 10, .inr (.inr (.inr (.inr (va_up f n (some q)))))))] ∧ r = 1) (fq_Bw D (va_A ([(h, .inr (11, [.ref e, .int (nI n), .int mo])), (q, .inr (ci, vs)), (e, .inl (cO, 10, .inr (.inr (.inr (.inr f)))))]) sz)) (va_A ([(h, .inr (11, [.ref e, .int (nI n), .int mo])), (q, .inr (ci, vs)), (e, .inl (cO, 10, .inr (.inr (.inr (.inr f)))))]) sz)) (0) (0) (va_A ([(h, .inr (11, [.ref e, .int (nI n), .int mo])), (q, .inr (ci, vs)), (e, .inl (cO, 10, .inr (.inr (.inr (.inr f)))))]) sz) := by
  refine fq_open (by decide +kernel) (Nat.le_of_ble_eq_true rfl) ?_
  intro pg ev s mt below meth cd ls K hret hlk hin hK hZ hP hD hA hS hl
  generalize va_A ([(h, .inr (11, [.ref e, .int (nI n), .int mo])), (q, .inr (ci, vs)), (e, .inl (cO, 10, .inr (.inr (.inr (.inr f)))))]) sz = A at hZ hD hA hS ⊢
  have K : fq_Ctx pg mt cd cb_AL_add 2 s _ cn_AL := K
  have hl : lv_has ls 2 [(0, .ref h), (1, .ref q)] := hl
  refine lv_aload_n K.1 K.2.1 dc_AL_add_0 rfl (lv_at hl 0 rfl) ?_
  refine lv_dup K.1 K.2.1 dc_AL_add_1 rfl ?_
  refine fq_getS K hK cl_AL hP 0 2 rfl (by decide) wd_79 wd_80 rfl dc_AL_add_2 ?_
  refine lv_iconst (v := 1) K.1 K.2.1 dc_AL_add_5 (by decide) ?_
  refine lv_iadd K.1 K.2.1 dc_AL_add_6 ?_
  refine lv_topi (fun v1 e_v1 => ?_)
  refine fq_putS K hK cl_AL hP hD hS 0 2 rfl (by decide) wd_79 wd_80 rfl rfl rfl (Nat.le_of_ble_eq_true rfl) dc_AL_add_7 (fun H locs hP hD hS => ?_)
  have hP : va_P D fq_cl ([(h, .inr (11, [.ref e, .int (nI n), .int v1])), (q, .inr (ci, vs)), (e, .inl (cO, 10, .inr (.inr (.inr (.inr f)))))]) _ := hP
  have hD : va_D A ([(h, .inr (11, [.ref e, .int (nI n), .int v1])), (q, .inr (ci, vs)), (e, .inl (cO, 10, .inr (.inr (.inr (.inr f)))))]) := hD
  refine lv_aload_n K.1 K.2.1 dc_AL_add_10 rfl (lv_at hl 0 rfl) ?_
  refine lv_aload_n K.1 K.2.1 dc_AL_add_11 rfl (lv_at hl 1 rfl) ?_
  refine lv_aload_n K.1 K.2.1 dc_AL_add_12 rfl (lv_at hl 0 rfl) ?_
  refine fq_get K hK cl_AL hP 0 0 rfl (by decide) wd_76 rfl dc_AL_add_13 ?_
  refine lv_aload_n K.1 K.2.1 dc_AL_add_16 rfl (lv_at hl 0 rfl) ?_
  refine fq_get K hK cl_AL hP 0 1 rfl (by decide) wd_77 rfl dc_AL_add_17 ?_
  have hc := fq_cut.of (wc := [(h, .inr (11, [.ref e, .int (nI n), .int v1])), (q, .inr (ci, vs)), (e, .inl (cO, 10, .inr (.inr (.inr (.inr f)))))]) hP hD hS hA [0, 1, 2] (by decide) rfl
  refine fq_cv (wr := []) (fq_rV K hK hZ hS hc (ct_AL_add2B l D cI cO tE h e n v1 f q ci vs rc hci hcs hn _) yk_AL_add2 wd_282 wd_2 wd_280 0 rfl rfl rfl ⟨⟨rfl, rfl⟩, ⟨Nat.le_of_ble_eq_true rfl, Nat.le_of_ble_eq_true rfl⟩, ⟨Nat.le_of_ble_eq_true rfl, Nat.le_of_ble_eq_true rfl⟩⟩ hl.1 rfl (Nat.le_of_ble_eq_true rfl) dc_AL_add_20) hP hD hS hc [0, 1, 2] [] rfl rfl (by decide) (by decide) (fun  w H locs hw1 hP hD hS => ?_)
  subst hw1
  have hP : va_P D fq_cl ([(h, .inr (11, [.ref e, .int (nI (n + 1)), .int v1])), (q, .inr (ci, vs)), (e, .inl (cO, 10, .inr (.inr (.inr (.inr (va_up f n (some q)))))))]) _ := hP
  have hD : va_D A ([(h, .inr (11, [.ref e, .int (nI (n + 1)), .int v1])), (q, .inr (ci, vs)), (e, .inl (cO, 10, .inr (.inr (.inr (.inr (va_up f n (some q)))))))]) := hD
  refine lv_iconst (v := 1) K.1 K.2.1 dc_AL_add_23 (by decide) ?_
  exact fq_retz K hret hlk hS hP hD (by first | exact Or.inl rfl | exact Or.inr rfl) ⟨_, rfl, rfl⟩ dc_AL_add_24 (Nat.le_of_ble_eq_true rfl) (Nat.le_of_ble_eq_true rfl)
