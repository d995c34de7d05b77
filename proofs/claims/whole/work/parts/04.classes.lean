theorem wd_81 : Cond.lays cn_AL cn_AL "elementData" "[Ljava/lang/Object;" ∈ fq_TB := fq_in 81 (by decide +kernel) rfl
theorem wd_83 : Cond.lays cn_AL cn_AL "size" "I" ∈ fq_TB := fq_in 83 (by decide +kernel) rfl
theorem wd_85 : Cond.lays cn_AL cn_AbL "modCount" "I" ∈ fq_TB := fq_in 85 (by decide +kernel) rfl
theorem wd_97 : Cond.laysFinal cn_Row cn_Row "cells" "[I" ∈ fq_TB := fq_in 97 (by decide +kernel) rfl
theorem wd_99 : Cond.lays cn_Row cn_Row "first" "I" ∈ fq_TB := fq_in 99 (by decide +kernel) rfl
theorem wd_101 : Cond.lays cn_Row cn_Row "count" "I" ∈ fq_TB := fq_in 101 (by decide +kernel) rfl
theorem wd_108 : Cond.laysFinal cn_Chain cn_Chain "stages" "Ljava/util/ArrayList;" ∈ fq_TB := fq_in 108 (by decide +kernel) rfl
theorem wd_110 : Cond.laysFinal cn_Chain cn_Chain "passing" "LFilterPipe$Row;" ∈ fq_TB := fq_in 110 (by decide +kernel) rfl
theorem wd_112 : Cond.lays cn_Chain cn_Chain "resamplers" "I" ∈ fq_TB := fq_in 112 (by decide +kernel) rfl
theorem wd_131 : Cond.lays cn_Layout cn_Layout "width" "I" ∈ fq_TB := fq_in 131 (by decide +kernel) rfl
theorem wd_133 : Cond.lays cn_Layout cn_Layout "highFirst" "Z" ∈ fq_TB := fq_in 133 (by decide +kernel) rfl
theorem wd_145 : Cond.laysFinal cn_Source cn_Source "layout" "LFilterPipe$Layout;" ∈ fq_TB := fq_in 145 (by decide +kernel) rfl
theorem wd_147 : Cond.laysFinal cn_Source cn_Source "waitingBytes" "LFilterPipe$Row;" ∈ fq_TB := fq_in 147 (by decide +kernel) rfl
theorem wd_149 : Cond.lays cn_Source cn_Source "came" "I" ∈ fq_TB := fq_in 149 (by decide +kernel) rfl
theorem wd_151 : Cond.lays cn_Source cn_Source "closed" "Z" ∈ fq_TB := fq_in 151 (by decide +kernel) rfl
theorem wd_170 : Cond.laysFinal cn_Sink cn_Sink "layout" "LFilterPipe$Layout;" ∈ fq_TB := fq_in 170 (by decide +kernel) rfl
theorem wd_172 : Cond.laysFinal cn_Sink cn_Sink "samples" "LFilterPipe$Row;" ∈ fq_TB := fq_in 172 (by decide +kernel) rfl
theorem wd_189 : Cond.laysFinal cn_FP cn_FP "chain" "LFilterPipe$Chain;" ∈ fq_TB := fq_in 189 (by decide +kernel) rfl
theorem wd_191 : Cond.laysFinal cn_FP cn_FP "source" "LFilterPipe$Source;" ∈ fq_TB := fq_in 191 (by decide +kernel) rfl
theorem wd_193 : Cond.laysFinal cn_FP cn_FP "held" "LFilterPipe$Row;" ∈ fq_TB := fq_in 193 (by decide +kernel) rfl
theorem wd_195 : Cond.laysFinal cn_FP cn_FP "ring" "LFilterPipe$Row;" ∈ fq_TB := fq_in 195 (by decide +kernel) rfl
theorem wd_197 : Cond.laysFinal cn_FP cn_FP "sink" "LFilterPipe$Sink;" ∈ fq_TB := fq_in 197 (by decide +kernel) rfl
theorem wd_199 : Cond.lays cn_FP cn_FP "flushed" "Z" ∈ fq_TB := fq_in 199 (by decide +kernel) rfl
theorem wd_201 : Cond.lays cn_FP cn_FP "producerState" "I" ∈ fq_TB := fq_in 201 (by decide +kernel) rfl
theorem wd_203 : Cond.lays cn_FP cn_FP "consumerState" "I" ∈ fq_TB := fq_in 203 (by decide +kernel) rfl
theorem wd_251 : Cond.laysFinal cn_Section cn_Section "b0" "I" ∈ fq_TB := fq_in 251 (by decide +kernel) rfl
theorem wd_253 : Cond.laysFinal cn_Section cn_Section "b1" "I" ∈ fq_TB := fq_in 253 (by decide +kernel) rfl
theorem wd_255 : Cond.laysFinal cn_Section cn_Section "b2" "I" ∈ fq_TB := fq_in 255 (by decide +kernel) rfl
theorem wd_257 : Cond.laysFinal cn_Section cn_Section "a1" "I" ∈ fq_TB := fq_in 257 (by decide +kernel) rfl
theorem wd_259 : Cond.laysFinal cn_Section cn_Section "a2" "I" ∈ fq_TB := fq_in 259 (by decide +kernel) rfl
theorem wd_261 : Cond.lays cn_Section cn_Section "x0" "I" ∈ fq_TB := fq_in 261 (by decide +kernel) rfl
theorem wd_263 : Cond.lays cn_Section cn_Section "x1" "I" ∈ fq_TB := fq_in 263 (by decide +kernel) rfl
theorem wd_265 : Cond.lays cn_Section cn_Section "x2" "I" ∈ fq_TB := fq_in 265 (by decide +kernel) rfl
theorem wd_267 : Cond.lays cn_Section cn_Section "y1" "I" ∈ fq_TB := fq_in 267 (by decide +kernel) rfl
theorem wd_269 : Cond.lays cn_Section cn_Section "y2" "I" ∈ fq_TB := fq_in 269 (by decide +kernel) rfl
theorem wd_362 : Cond.laysFinal cn_Gain cn_Gain "factor" "I" ∈ fq_TB := fq_in 362 (by decide +kernel) rfl
theorem wd_364 : Cond.lays cn_Gain cn_Gain "latest" "I" ∈ fq_TB := fq_in 364 (by decide +kernel) rfl
theorem wd_385 : Cond.laysFinal cn_Recent cn_Recent "cells" "[I" ∈ fq_TB := fq_in 385 (by decide +kernel) rfl
theorem wd_387 : Cond.lays cn_Recent cn_Recent "count" "I" ∈ fq_TB := fq_in 387 (by decide +kernel) rfl
theorem wd_398 : Cond.laysFinal cn_Window cn_Window "weights" "[I" ∈ fq_TB := fq_in 398 (by decide +kernel) rfl
theorem wd_400 : Cond.laysFinal cn_Window cn_Window "total" "I" ∈ fq_TB := fq_in 400 (by decide +kernel) rfl
theorem wd_402 : Cond.laysFinal cn_Window cn_Window "recent" "LFilterPipe$Recent;" ∈ fq_TB := fq_in 402 (by decide +kernel) rfl
theorem wd_404 : Cond.lays cn_Window cn_Window "next" "I" ∈ fq_TB := fq_in 404 (by decide +kernel) rfl
theorem wd_435 : Cond.laysFinal cn_Resampler cn_Resampler "up" "I" ∈ fq_TB := fq_in 435 (by decide +kernel) rfl
theorem wd_437 : Cond.laysFinal cn_Resampler cn_Resampler "down" "I" ∈ fq_TB := fq_in 437 (by decide +kernel) rfl
theorem wd_439 : Cond.laysFinal cn_Resampler cn_Resampler "reach" "I" ∈ fq_TB := fq_in 439 (by decide +kernel) rfl
theorem wd_441 : Cond.laysFinal cn_Resampler cn_Resampler "recent" "LFilterPipe$Recent;" ∈ fq_TB := fq_in 441 (by decide +kernel) rfl
theorem wd_443 : Cond.lays cn_Resampler cn_Resampler "next" "I" ∈ fq_TB := fq_in 443 (by decide +kernel) rfl
theorem wd_793 : Cond.laysFinal cn_Mo cn_Mo "room" "I" ∈ fq_TB := fq_in 793 (by decide +kernel) rfl
theorem wd_795 : Cond.lays cn_Mo cn_Mo "started" "Z" ∈ fq_TB := fq_in 795 (by decide +kernel) rfl
theorem wd_797 : Cond.lays cn_Mo cn_Mo "stages" "I" ∈ fq_TB := fq_in 797 (by decide +kernel) rfl
theorem wd_799 : Cond.laysFinal cn_Mo cn_Mo "kind" "[I" ∈ fq_TB := fq_in 799 (by decide +kernel) rfl
theorem wd_801 : Cond.laysFinal cn_Mo cn_Mo "number" "[I" ∈ fq_TB := fq_in 801 (by decide +kernel) rfl
theorem wd_803 : Cond.lays cn_Mo cn_Mo "inWidth" "I" ∈ fq_TB := fq_in 803 (by decide +kernel) rfl
theorem wd_805 : Cond.lays cn_Mo cn_Mo "outWidth" "I" ∈ fq_TB := fq_in 805 (by decide +kernel) rfl
theorem wd_807 : Cond.lays cn_Mo cn_Mo "inHigh" "Z" ∈ fq_TB := fq_in 807 (by decide +kernel) rfl
theorem wd_809 : Cond.lays cn_Mo cn_Mo "outHigh" "Z" ∈ fq_TB := fq_in 809 (by decide +kernel) rfl
theorem wd_811 : Cond.laysFinal cn_Mo cn_Mo "bytesIn" "[I" ∈ fq_TB := fq_in 811 (by decide +kernel) rfl
theorem wd_813 : Cond.lays cn_Mo cn_Mo "came" "I" ∈ fq_TB := fq_in 813 (by decide +kernel) rfl
theorem wd_815 : Cond.lays cn_Mo cn_Mo "used" "I" ∈ fq_TB := fq_in 815 (by decide +kernel) rfl
theorem wd_817 : Cond.lays cn_Mo cn_Mo "closed" "Z" ∈ fq_TB := fq_in 817 (by decide +kernel) rfl
theorem wd_819 : Cond.lays cn_Mo cn_Mo "flushed" "Z" ∈ fq_TB := fq_in 819 (by decide +kernel) rfl
theorem wd_821 : Cond.laysFinal cn_Mo cn_Mo "samples" "[I" ∈ fq_TB := fq_in 821 (by decide +kernel) rfl
theorem wd_823 : Cond.lays cn_Mo cn_Mo "taken" "I" ∈ fq_TB := fq_in 823 (by decide +kernel) rfl
theorem wd_825 : Cond.laysFinal cn_Mo cn_Mo "line" "[I" ∈ fq_TB := fq_in 825 (by decide +kernel) rfl
theorem wd_827 : Cond.laysFinal cn_Mo cn_Mo "next" "[I" ∈ fq_TB := fq_in 827 (by decide +kernel) rfl
theorem wd_829 : Cond.lays cn_Mo cn_Mo "made" "I" ∈ fq_TB := fq_in 829 (by decide +kernel) rfl
theorem wd_831 : Cond.lays cn_Mo cn_Mo "given" "I" ∈ fq_TB := fq_in 831 (by decide +kernel) rfl
theorem wd_833 : Cond.lays cn_Mo cn_Mo "sunk" "I" ∈ fq_TB := fq_in 833 (by decide +kernel) rfl
theorem wd_835 : Cond.lays cn_Mo cn_Mo "producer" "I" ∈ fq_TB := fq_in 835 (by decide +kernel) rfl
theorem wd_837 : Cond.lays cn_Mo cn_Mo "consumer" "I" ∈ fq_TB := fq_in 837 (by decide +kernel) rfl
section FA
variable {p : Program} {l : Launch} {e : Env} {R : Room} {s : State} {m : MethodId} {args : Array Value} {below : List Frame} {meth : Method} {c : Code} {H : Heap} {locs : List Loc} {cells slots : Nat} {Q : State → Prop} {pc : Nat} {ls : Array Slot} {rest : List Value}
theorem fq_asi {x y : Int32} (h : x = y) (k : W p l e R s m args below meth c H locs cells slots Q (F0 m pc ls (.int y :: rest))) : W p l e R s m args below meth c H locs cells slots Q (F0 m pc ls (.int x :: rest)) := h ▸ k
theorem fq_asl {x y : Int64} (h : x = y) (k : W p l e R s m args below meth c H locs cells slots Q (F0 m pc ls (.long y :: rest))) : W p l e R s m args below meth c H locs cells slots Q (F0 m pc ls (.long x :: rest)) := h ▸ k
theorem fq_asv {x y : Value} (h : x = y) (k : W p l e R s m args below meth c H locs cells slots Q (F0 m pc ls (y :: rest))) : W p l e R s m args below meth c H locs cells slots Q (F0 m pc ls (x :: rest)) := h ▸ k
theorem fq_lp {σ : Type} {st : List Value} (μ : σ → Nat) (I : σ → Heap → List Loc → Array Slot → Prop)
    (hs : ∀ (x : σ) (H : Heap) (locs : List Loc) (ls : Array Slot), I x H locs ls → (∀ (x' : σ) (H' : Heap) (locs' : List Loc) (ls' : Array Slot), μ x' < μ x → I x' H' locs' ls' → W p l e R s m args below meth c H' locs' cells slots Q (F0 m pc ls' st)) → W p l e R s m args below meth c H locs cells slots Q (F0 m pc ls st)) :
    ∀ (x : σ) (H : Heap) (locs : List Loc) (ls : Array Slot), I x H locs ls → W p l e R s m args below meth c H locs cells slots Q (F0 m pc ls st) := by
  have key : ∀ (n : Nat) (x : σ) (H : Heap) (locs : List Loc) (ls : Array Slot), μ x < n → I x H locs ls → W p l e R s m args below meth c H locs cells slots Q (F0 m pc ls st) := by
    intro n
    induction n with
    | zero => intro x H locs ls h; exact absurd h (Nat.not_lt_zero _)
    | succ n ih => intro x H locs ls h hI; exact hs x H locs ls hI (fun x' H' locs' ls' h' hI' => ih x' H' locs' ls' (by omega) hI')
  intro x H locs ls hI
  exact key (μ x + 1) x H locs ls (Nat.lt_succ_self _) hI
end FA

theorem cl_Row : fq_L 0 cn_Row ft_Row 3 ty_Row := ⟨rfl, (List.forall_mem_cons.mpr ⟨wd_97, List.forall_mem_cons.mpr ⟨wd_99, List.forall_mem_cons.mpr ⟨wd_101, fun _ h => absurd h List.not_mem_nil⟩⟩⟩ : ∀ w ∈ ([Cond.laysFinal cn_Row cn_Row "cells" "[I", Cond.lays cn_Row cn_Row "first" "I", Cond.lays cn_Row cn_Row "count" "I"] : List Cond), w ∈ fq_TB), tk_Row, nm_Row⟩
theorem cl_Recent : fq_L 1 cn_Recent ft_Recent 2 ty_Recent := ⟨rfl, (List.forall_mem_cons.mpr ⟨wd_385, List.forall_mem_cons.mpr ⟨wd_387, fun _ h => absurd h List.not_mem_nil⟩⟩ : ∀ w ∈ ([Cond.laysFinal cn_Recent cn_Recent "cells" "[I", Cond.lays cn_Recent cn_Recent "count" "I"] : List Cond), w ∈ fq_TB), tk_Recent, nm_Recent⟩
theorem cl_Section : fq_L 2 cn_Section ft_Section 10 ty_Section := ⟨rfl, (List.forall_mem_cons.mpr ⟨wd_251, List.forall_mem_cons.mpr ⟨wd_253, List.forall_mem_cons.mpr ⟨wd_255, List.forall_mem_cons.mpr ⟨wd_257, List.forall_mem_cons.mpr ⟨wd_259, List.forall_mem_cons.mpr ⟨wd_261, List.forall_mem_cons.mpr ⟨wd_263, List.forall_mem_cons.mpr ⟨wd_265, List.forall_mem_cons.mpr ⟨wd_267, List.forall_mem_cons.mpr ⟨wd_269, fun _ h => absurd h List.not_mem_nil⟩⟩⟩⟩⟩⟩⟩⟩⟩⟩ : ∀ w ∈ ([Cond.laysFinal cn_Section cn_Section "b0" "I", Cond.laysFinal cn_Section cn_Section "b1" "I", Cond.laysFinal cn_Section cn_Section "b2" "I", Cond.laysFinal cn_Section cn_Section "a1" "I", Cond.laysFinal cn_Section cn_Section "a2" "I", Cond.lays cn_Section cn_Section "x0" "I", Cond.lays cn_Section cn_Section "x1" "I", Cond.lays cn_Section cn_Section "x2" "I", Cond.lays cn_Section cn_Section "y1" "I", Cond.lays cn_Section cn_Section "y2" "I"] : List Cond), w ∈ fq_TB), tk_Section, nm_Section⟩
theorem cl_Gain : fq_L 3 cn_Gain ft_Gain 2 ty_Gain := ⟨rfl, (List.forall_mem_cons.mpr ⟨wd_362, List.forall_mem_cons.mpr ⟨wd_364, fun _ h => absurd h List.not_mem_nil⟩⟩ : ∀ w ∈ ([Cond.laysFinal cn_Gain cn_Gain "factor" "I", Cond.lays cn_Gain cn_Gain "latest" "I"] : List Cond), w ∈ fq_TB), tk_Gain, nm_Gain⟩
theorem cl_Window : fq_L 4 cn_Window ft_Window 4 ty_Window := ⟨rfl, (List.forall_mem_cons.mpr ⟨wd_398, List.forall_mem_cons.mpr ⟨wd_400, List.forall_mem_cons.mpr ⟨wd_402, List.forall_mem_cons.mpr ⟨wd_404, fun _ h => absurd h List.not_mem_nil⟩⟩⟩⟩ : ∀ w ∈ ([Cond.laysFinal cn_Window cn_Window "weights" "[I", Cond.laysFinal cn_Window cn_Window "total" "I", Cond.laysFinal cn_Window cn_Window "recent" "LFilterPipe$Recent;", Cond.lays cn_Window cn_Window "next" "I"] : List Cond), w ∈ fq_TB), tk_Window, nm_Window⟩
theorem cl_Resampler : fq_L 5 cn_Resampler ft_Resampler 5 ty_Resampler := ⟨rfl, (List.forall_mem_cons.mpr ⟨wd_435, List.forall_mem_cons.mpr ⟨wd_437, List.forall_mem_cons.mpr ⟨wd_439, List.forall_mem_cons.mpr ⟨wd_441, List.forall_mem_cons.mpr ⟨wd_443, fun _ h => absurd h List.not_mem_nil⟩⟩⟩⟩⟩ : ∀ w ∈ ([Cond.laysFinal cn_Resampler cn_Resampler "up" "I", Cond.laysFinal cn_Resampler cn_Resampler "down" "I", Cond.laysFinal cn_Resampler cn_Resampler "reach" "I", Cond.laysFinal cn_Resampler cn_Resampler "recent" "LFilterPipe$Recent;", Cond.lays cn_Resampler cn_Resampler "next" "I"] : List Cond), w ∈ fq_TB), tk_Resampler, nm_Resampler⟩
theorem cl_Chain : fq_L 6 cn_Chain ft_Chain 3 ty_Chain := ⟨rfl, (List.forall_mem_cons.mpr ⟨wd_108, List.forall_mem_cons.mpr ⟨wd_110, List.forall_mem_cons.mpr ⟨wd_112, fun _ h => absurd h List.not_mem_nil⟩⟩⟩ : ∀ w ∈ ([Cond.laysFinal cn_Chain cn_Chain "stages" "Ljava/util/ArrayList;", Cond.laysFinal cn_Chain cn_Chain "passing" "LFilterPipe$Row;", Cond.lays cn_Chain cn_Chain "resamplers" "I"] : List Cond), w ∈ fq_TB), tk_Chain, nm_Chain⟩
theorem cl_Layout : fq_L 7 cn_Layout ft_Layout 2 ty_Layout := ⟨rfl, (List.forall_mem_cons.mpr ⟨wd_131, List.forall_mem_cons.mpr ⟨wd_133, fun _ h => absurd h List.not_mem_nil⟩⟩ : ∀ w ∈ ([Cond.lays cn_Layout cn_Layout "width" "I", Cond.lays cn_Layout cn_Layout "highFirst" "Z"] : List Cond), w ∈ fq_TB), tk_Layout, nm_Layout⟩
theorem cl_Source : fq_L 8 cn_Source ft_Source 4 ty_Source := ⟨rfl, (List.forall_mem_cons.mpr ⟨wd_145, List.forall_mem_cons.mpr ⟨wd_147, List.forall_mem_cons.mpr ⟨wd_149, List.forall_mem_cons.mpr ⟨wd_151, fun _ h => absurd h List.not_mem_nil⟩⟩⟩⟩ : ∀ w ∈ ([Cond.laysFinal cn_Source cn_Source "layout" "LFilterPipe$Layout;", Cond.laysFinal cn_Source cn_Source "waitingBytes" "LFilterPipe$Row;", Cond.lays cn_Source cn_Source "came" "I", Cond.lays cn_Source cn_Source "closed" "Z"] : List Cond), w ∈ fq_TB), tk_Source, nm_Source⟩
theorem cl_Sink : fq_L 9 cn_Sink ft_Sink 2 ty_Sink := ⟨rfl, (List.forall_mem_cons.mpr ⟨wd_170, List.forall_mem_cons.mpr ⟨wd_172, fun _ h => absurd h List.not_mem_nil⟩⟩ : ∀ w ∈ ([Cond.laysFinal cn_Sink cn_Sink "layout" "LFilterPipe$Layout;", Cond.laysFinal cn_Sink cn_Sink "samples" "LFilterPipe$Row;"] : List Cond), w ∈ fq_TB), tk_Sink, nm_Sink⟩
theorem cl_FP : fq_L 10 cn_FP ft_FP 8 ty_FP := ⟨rfl, (List.forall_mem_cons.mpr ⟨wd_189, List.forall_mem_cons.mpr ⟨wd_191, List.forall_mem_cons.mpr ⟨wd_193, List.forall_mem_cons.mpr ⟨wd_195, List.forall_mem_cons.mpr ⟨wd_197, List.forall_mem_cons.mpr ⟨wd_199, List.forall_mem_cons.mpr ⟨wd_201, List.forall_mem_cons.mpr ⟨wd_203, fun _ h => absurd h List.not_mem_nil⟩⟩⟩⟩⟩⟩⟩⟩ : ∀ w ∈ ([Cond.laysFinal cn_FP cn_FP "chain" "LFilterPipe$Chain;", Cond.laysFinal cn_FP cn_FP "source" "LFilterPipe$Source;", Cond.laysFinal cn_FP cn_FP "held" "LFilterPipe$Row;", Cond.laysFinal cn_FP cn_FP "ring" "LFilterPipe$Row;", Cond.laysFinal cn_FP cn_FP "sink" "LFilterPipe$Sink;", Cond.lays cn_FP cn_FP "flushed" "Z", Cond.lays cn_FP cn_FP "producerState" "I", Cond.lays cn_FP cn_FP "consumerState" "I"] : List Cond), w ∈ fq_TB), tk_FP, nm_FP⟩
theorem cl_AL : fq_L 11 cn_AL ft_AL 3 ty_AL := ⟨rfl, (List.forall_mem_cons.mpr ⟨wd_81, List.forall_mem_cons.mpr ⟨wd_83, List.forall_mem_cons.mpr ⟨wd_85, fun _ h => absurd h List.not_mem_nil⟩⟩⟩ : ∀ w ∈ ([Cond.lays cn_AL cn_AL "elementData" "[Ljava/lang/Object;", Cond.lays cn_AL cn_AL "size" "I", Cond.lays cn_AL cn_AbL "modCount" "I"] : List Cond), w ∈ fq_TB), tk_AL, nm_AL⟩
theorem cl_Mo : fq_L 12 cn_Mo ft_Mo 23 ty_Mo := ⟨rfl, (List.forall_mem_cons.mpr ⟨wd_793, List.forall_mem_cons.mpr ⟨wd_795, List.forall_mem_cons.mpr ⟨wd_797, List.forall_mem_cons.mpr ⟨wd_799, List.forall_mem_cons.mpr ⟨wd_801, List.forall_mem_cons.mpr ⟨wd_803, List.forall_mem_cons.mpr ⟨wd_805, List.forall_mem_cons.mpr ⟨wd_807, List.forall_mem_cons.mpr ⟨wd_809, List.forall_mem_cons.mpr ⟨wd_811, List.forall_mem_cons.mpr ⟨wd_813, List.forall_mem_cons.mpr ⟨wd_815, List.forall_mem_cons.mpr ⟨wd_817, List.forall_mem_cons.mpr ⟨wd_819, List.forall_mem_cons.mpr ⟨wd_821, List.forall_mem_cons.mpr ⟨wd_823, List.forall_mem_cons.mpr ⟨wd_825, List.forall_mem_cons.mpr ⟨wd_827, List.forall_mem_cons.mpr ⟨wd_829, List.forall_mem_cons.mpr ⟨wd_831, List.forall_mem_cons.mpr ⟨wd_833, List.forall_mem_cons.mpr ⟨wd_835, List.forall_mem_cons.mpr ⟨wd_837, fun _ h => absurd h List.not_mem_nil⟩⟩⟩⟩⟩⟩⟩⟩⟩⟩⟩⟩⟩⟩⟩⟩⟩⟩⟩⟩⟩⟩⟩ : ∀ w ∈ ([Cond.laysFinal cn_Mo cn_Mo "room" "I", Cond.lays cn_Mo cn_Mo "started" "Z", Cond.lays cn_Mo cn_Mo "stages" "I", Cond.laysFinal cn_Mo cn_Mo "kind" "[I", Cond.laysFinal cn_Mo cn_Mo "number" "[I", Cond.lays cn_Mo cn_Mo "inWidth" "I", Cond.lays cn_Mo cn_Mo "outWidth" "I", Cond.lays cn_Mo cn_Mo "inHigh" "Z", Cond.lays cn_Mo cn_Mo "outHigh" "Z", Cond.laysFinal cn_Mo cn_Mo "bytesIn" "[I", Cond.lays cn_Mo cn_Mo "came" "I", Cond.lays cn_Mo cn_Mo "used" "I", Cond.lays cn_Mo cn_Mo "closed" "Z", Cond.lays cn_Mo cn_Mo "flushed" "Z", Cond.laysFinal cn_Mo cn_Mo "samples" "[I", Cond.lays cn_Mo cn_Mo "taken" "I", Cond.laysFinal cn_Mo cn_Mo "line" "[I", Cond.laysFinal cn_Mo cn_Mo "next" "[I", Cond.lays cn_Mo cn_Mo "made" "I", Cond.lays cn_Mo cn_Mo "given" "I", Cond.lays cn_Mo cn_Mo "sunk" "I", Cond.lays cn_Mo cn_Mo "producer" "I", Cond.lays cn_Mo cn_Mo "consumer" "I"] : List Cond), w ∈ fq_TB), tk_Mo, nm_Mo⟩
