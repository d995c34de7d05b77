section
-- ===== PART A: goes FIRST, ahead of the names: the tables' words, and 'selects' of the private methods out of them =====
/-- a private method of a class that the tables say can be made, by its rows of tables_1 -/
def lw_okq (q : MethodName × Nat) : Prop := (q.1.cls ≠ "java/lang/invoke/MethodHandle" ∧ q.1.cls ≠ "java/lang/invoke/VarHandle") ∧ Cond.instantiable q.1.cls q.2 ∈ tables_1 ∧ Cond.privateMethod q.1 ∈ tables_1 ∧ Cond.instanceMethod q.1 ∈ tables_1
theorem lw_p0 : lw_okq (⟨"FilterPipe", "takesStage", "()Z"⟩, 8) := ⟨⟨by decide +kernel, by decide +kernel⟩, List.mem_of_getElem? (i := 24) (by decide +kernel), List.mem_of_getElem? (i := 192) (by decide +kernel), List.mem_of_getElem? (i := 193) (by decide +kernel)⟩
theorem lw_p1 : lw_okq (⟨"FilterPipe", "isStarted", "()Z"⟩, 8) := ⟨⟨by decide +kernel, by decide +kernel⟩, List.mem_of_getElem? (i := 24) (by decide +kernel), List.mem_of_getElem? (i := 196) (by decide +kernel), List.mem_of_getElem? (i := 197) (by decide +kernel)⟩
theorem lw_p2 : lw_okq (⟨"java/util/ArrayList", "add", "(Ljava/lang/Object;[Ljava/lang/Object;I)V"⟩, 3) := ⟨⟨by decide +kernel, by decide +kernel⟩, List.mem_of_getElem? (i := 38) (by decide +kernel), List.mem_of_getElem? (i := 256) (by decide +kernel), List.mem_of_getElem? (i := 257) (by decide +kernel)⟩
theorem lw_p3 : lw_okq (⟨"java/util/ArrayList", "grow", "()[Ljava/lang/Object;"⟩, 3) := ⟨⟨by decide +kernel, by decide +kernel⟩, List.mem_of_getElem? (i := 38) (by decide +kernel), List.mem_of_getElem? (i := 260) (by decide +kernel), List.mem_of_getElem? (i := 261) (by decide +kernel)⟩
theorem lw_p4 : lw_okq (⟨"java/util/ArrayList", "grow", "(I)[Ljava/lang/Object;"⟩, 3) := ⟨⟨by decide +kernel, by decide +kernel⟩, List.mem_of_getElem? (i := 38) (by decide +kernel), List.mem_of_getElem? (i := 264) (by decide +kernel), List.mem_of_getElem? (i := 265) (by decide +kernel)⟩
theorem lw_p5 : lw_okq (⟨"FilterPipe", "begin", "()V"⟩, 8) := ⟨⟨by decide +kernel, by decide +kernel⟩, List.mem_of_getElem? (i := 24) (by decide +kernel), List.mem_of_getElem? (i := 476) (by decide +kernel), List.mem_of_getElem? (i := 477) (by decide +kernel)⟩
theorem lw_p6 : lw_okq (⟨"FilterPipe", "stepProducer", "()Z"⟩, 8) := ⟨⟨by decide +kernel, by decide +kernel⟩, List.mem_of_getElem? (i := 24) (by decide +kernel), List.mem_of_getElem? (i := 545) (by decide +kernel), List.mem_of_getElem? (i := 546) (by decide +kernel)⟩
theorem lw_p7 : lw_okq (⟨"FilterPipe", "handOver", "()Z"⟩, 8) := ⟨⟨by decide +kernel, by decide +kernel⟩, List.mem_of_getElem? (i := 24) (by decide +kernel), List.mem_of_getElem? (i := 553) (by decide +kernel), List.mem_of_getElem? (i := 554) (by decide +kernel)⟩
theorem lw_p8 : lw_okq (⟨"FilterPipe$Chain", "passThrough", "(ILFilterPipe$Row;)V"⟩, 3) := ⟨⟨by decide +kernel, by decide +kernel⟩, List.mem_of_getElem? (i := 32) (by decide +kernel), List.mem_of_getElem? (i := 583) (by decide +kernel), List.mem_of_getElem? (i := 584) (by decide +kernel)⟩
theorem lw_p9 : lw_okq (⟨"FilterPipe$Resampler", "dueUpTo", "(I)I"⟩, 5) := ⟨⟨by decide +kernel, by decide +kernel⟩, List.mem_of_getElem? (i := 394) (by decide +kernel), List.mem_of_getElem? (i := 606) (by decide +kernel), List.mem_of_getElem? (i := 607) (by decide +kernel)⟩
theorem lw_p10 : lw_okq (⟨"FilterPipe$Chain", "makeSamples", "(LFilterPipe$Stage;I)V"⟩, 3) := ⟨⟨by decide +kernel, by decide +kernel⟩, List.mem_of_getElem? (i := 32) (by decide +kernel), List.mem_of_getElem? (i := 617) (by decide +kernel), List.mem_of_getElem? (i := 618) (by decide +kernel)⟩
theorem lw_p11 : lw_okq (⟨"FilterPipe", "stepConsumer", "()Z"⟩, 8) := ⟨⟨by decide +kernel, by decide +kernel⟩, List.mem_of_getElem? (i := 24) (by decide +kernel), List.mem_of_getElem? (i := 687) (by decide +kernel), List.mem_of_getElem? (i := 688) (by decide +kernel)⟩
theorem lw_p12 : lw_okq (⟨"FilterPipe$Sink", "bitsOf", "(I)I"⟩, 2) := ⟨⟨by decide +kernel, by decide +kernel⟩, List.mem_of_getElem? (i := 132) (by decide +kernel), List.mem_of_getElem? (i := 716) (by decide +kernel), List.mem_of_getElem? (i := 717) (by decide +kernel)⟩
theorem lw_p13 : lw_okq (⟨"FilterPipeModel", "canAdd", "()Z"⟩, 23) := ⟨⟨by decide +kernel, by decide +kernel⟩, List.mem_of_getElem? (i := 740) (by decide +kernel), List.mem_of_getElem? (i := 820) (by decide +kernel), List.mem_of_getElem? (i := 821) (by decide +kernel)⟩
theorem lw_p14 : lw_okq (⟨"FilterPipeModel", "add", "(IIIIII)V"⟩, 23) := ⟨⟨by decide +kernel, by decide +kernel⟩, List.mem_of_getElem? (i := 740) (by decide +kernel), List.mem_of_getElem? (i := 827) (by decide +kernel), List.mem_of_getElem? (i := 828) (by decide +kernel)⟩
theorem lw_p15 : lw_okq (⟨"FilterPipeModel", "producerStep", "()Z"⟩, 23) := ⟨⟨by decide +kernel, by decide +kernel⟩, List.mem_of_getElem? (i := 740) (by decide +kernel), List.mem_of_getElem? (i := 899) (by decide +kernel), List.mem_of_getElem? (i := 900) (by decide +kernel)⟩
def lw_privs_1 : List (MethodName × Nat) := [(⟨"FilterPipe", "takesStage", "()Z"⟩, 8), (⟨"FilterPipe", "isStarted", "()Z"⟩, 8), (⟨"java/util/ArrayList", "add", "(Ljava/lang/Object;[Ljava/lang/Object;I)V"⟩, 3), (⟨"java/util/ArrayList", "grow", "()[Ljava/lang/Object;"⟩, 3), (⟨"java/util/ArrayList", "grow", "(I)[Ljava/lang/Object;"⟩, 3), (⟨"FilterPipe", "begin", "()V"⟩, 8), (⟨"FilterPipe", "stepProducer", "()Z"⟩, 8), (⟨"FilterPipe", "handOver", "()Z"⟩, 8), (⟨"FilterPipe$Chain", "passThrough", "(ILFilterPipe$Row;)V"⟩, 3), (⟨"FilterPipe$Resampler", "dueUpTo", "(I)I"⟩, 5), (⟨"FilterPipe$Chain", "makeSamples", "(LFilterPipe$Stage;I)V"⟩, 3), (⟨"FilterPipe", "stepConsumer", "()Z"⟩, 8), (⟨"FilterPipe$Sink", "bitsOf", "(I)I"⟩, 2), (⟨"FilterPipeModel", "canAdd", "()Z"⟩, 23), (⟨"FilterPipeModel", "add", "(IIIIII)V"⟩, 23), (⟨"FilterPipeModel", "producerStep", "()Z"⟩, 23)]
theorem lw_r1 : ∀ q ∈ lw_privs_1, lw_okq q := List.forall_mem_cons.mpr ⟨lw_p0, List.forall_mem_cons.mpr ⟨lw_p1, List.forall_mem_cons.mpr ⟨lw_p2, List.forall_mem_cons.mpr ⟨lw_p3, List.forall_mem_cons.mpr ⟨lw_p4, List.forall_mem_cons.mpr ⟨lw_p5, List.forall_mem_cons.mpr ⟨lw_p6, List.forall_mem_cons.mpr ⟨lw_p7, List.forall_mem_cons.mpr ⟨lw_p8, List.forall_mem_cons.mpr ⟨lw_p9, List.forall_mem_cons.mpr ⟨lw_p10, List.forall_mem_cons.mpr ⟨lw_p11, List.forall_mem_cons.mpr ⟨lw_p12, List.forall_mem_cons.mpr ⟨lw_p13, List.forall_mem_cons.mpr ⟨lw_p14, List.forall_mem_cons.mpr ⟨lw_p15, fun _ h => absurd h List.not_mem_nil⟩⟩⟩⟩⟩⟩⟩⟩⟩⟩⟩⟩⟩⟩⟩⟩
theorem lw_p16 : lw_okq (⟨"FilterPipeModel", "sampleOf", "(I)I"⟩, 23) := ⟨⟨by decide +kernel, by decide +kernel⟩, List.mem_of_getElem? (i := 740) (by decide +kernel), List.mem_of_getElem? (i := 903) (by decide +kernel), List.mem_of_getElem? (i := 904) (by decide +kernel)⟩
theorem lw_p17 : lw_okq (⟨"FilterPipeModel", "work", "()V"⟩, 23) := ⟨⟨by decide +kernel, by decide +kernel⟩, List.mem_of_getElem? (i := 740) (by decide +kernel), List.mem_of_getElem? (i := 909) (by decide +kernel), List.mem_of_getElem? (i := 910) (by decide +kernel)⟩
theorem lw_p18 : lw_okq (⟨"FilterPipeModel", "madeOf", "(II)I"⟩, 23) := ⟨⟨by decide +kernel, by decide +kernel⟩, List.mem_of_getElem? (i := 740) (by decide +kernel), List.mem_of_getElem? (i := 913) (by decide +kernel), List.mem_of_getElem? (i := 914) (by decide +kernel)⟩
theorem lw_p19 : lw_okq (⟨"FilterPipeModel", "pass", "(III)V"⟩, 23) := ⟨⟨by decide +kernel, by decide +kernel⟩, List.mem_of_getElem? (i := 740) (by decide +kernel), List.mem_of_getElem? (i := 917) (by decide +kernel), List.mem_of_getElem? (i := 918) (by decide +kernel)⟩
theorem lw_p20 : lw_okq (⟨"FilterPipeModel", "sectionAt", "(III)I"⟩, 23) := ⟨⟨by decide +kernel, by decide +kernel⟩, List.mem_of_getElem? (i := 740) (by decide +kernel), List.mem_of_getElem? (i := 921) (by decide +kernel), List.mem_of_getElem? (i := 922) (by decide +kernel)⟩
theorem lw_p21 : lw_okq (⟨"FilterPipeModel", "x", "(II)J"⟩, 23) := ⟨⟨by decide +kernel, by decide +kernel⟩, List.mem_of_getElem? (i := 740) (by decide +kernel), List.mem_of_getElem? (i := 925) (by decide +kernel), List.mem_of_getElem? (i := 926) (by decide +kernel)⟩
theorem lw_p22 : lw_okq (⟨"FilterPipeModel", "windowAt", "(IIII)I"⟩, 23) := ⟨⟨by decide +kernel, by decide +kernel⟩, List.mem_of_getElem? (i := 740) (by decide +kernel), List.mem_of_getElem? (i := 936) (by decide +kernel), List.mem_of_getElem? (i := 937) (by decide +kernel)⟩
theorem lw_p23 : lw_okq (⟨"FilterPipeModel", "resampledAt", "(IIII)I"⟩, 23) := ⟨⟨by decide +kernel, by decide +kernel⟩, List.mem_of_getElem? (i := 740) (by decide +kernel), List.mem_of_getElem? (i := 940) (by decide +kernel), List.mem_of_getElem? (i := 941) (by decide +kernel)⟩
theorem lw_p24 : lw_okq (⟨"FilterPipeModel", "consumerStep", "()Z"⟩, 23) := ⟨⟨by decide +kernel, by decide +kernel⟩, List.mem_of_getElem? (i := 740) (by decide +kernel), List.mem_of_getElem? (i := 948) (by decide +kernel), List.mem_of_getElem? (i := 949) (by decide +kernel)⟩
def lw_privs_2 : List (MethodName × Nat) := [(⟨"FilterPipeModel", "sampleOf", "(I)I"⟩, 23), (⟨"FilterPipeModel", "work", "()V"⟩, 23), (⟨"FilterPipeModel", "madeOf", "(II)I"⟩, 23), (⟨"FilterPipeModel", "pass", "(III)V"⟩, 23), (⟨"FilterPipeModel", "sectionAt", "(III)I"⟩, 23), (⟨"FilterPipeModel", "x", "(II)J"⟩, 23), (⟨"FilterPipeModel", "windowAt", "(IIII)I"⟩, 23), (⟨"FilterPipeModel", "resampledAt", "(IIII)I"⟩, 23), (⟨"FilterPipeModel", "consumerStep", "()Z"⟩, 23)]
theorem lw_r2 : ∀ q ∈ lw_privs_2, lw_okq q := List.forall_mem_cons.mpr ⟨lw_p16, List.forall_mem_cons.mpr ⟨lw_p17, List.forall_mem_cons.mpr ⟨lw_p18, List.forall_mem_cons.mpr ⟨lw_p19, List.forall_mem_cons.mpr ⟨lw_p20, List.forall_mem_cons.mpr ⟨lw_p21, List.forall_mem_cons.mpr ⟨lw_p22, List.forall_mem_cons.mpr ⟨lw_p23, List.forall_mem_cons.mpr ⟨lw_p24, fun _ h => absurd h List.not_mem_nil⟩⟩⟩⟩⟩⟩⟩⟩⟩
def lw_privs : List (MethodName × Nat) := lw_privs_1 ++ (lw_privs_2)
def lw_tbl : List Cond := k2_sels lw_privs ++ tables_1
theorem lw_privs_ok : ∀ q ∈ lw_privs, lw_okq q := by
  show ∀ q ∈ lw_privs_1 ++ (lw_privs_2), lw_okq q
  exact List.forall_mem_append.mpr ⟨lw_r1, lw_r2⟩
end
section
/-! Names of classes, fields, methods and their bytes (by program, out of the Statement). -/
def cn_Row : String := "FilterPipe$Row"
def cn_Recent : String := "FilterPipe$Recent"
def cn_Section : String := "FilterPipe$Section"
def cn_Gain : String := "FilterPipe$Gain"
def cn_Window : String := "FilterPipe$Window"
def cn_Resampler : String := "FilterPipe$Resampler"
def cn_Chain : String := "FilterPipe$Chain"
def cn_Layout : String := "FilterPipe$Layout"
def cn_Source : String := "FilterPipe$Source"
def cn_Sink : String := "FilterPipe$Sink"
def cn_FP : String := "FilterPipe"
def cn_AL : String := "java/util/ArrayList"
def cn_Mo : String := "FilterPipeModel"
def cn_Stage : String := "FilterPipe$Stage"
def cn_La : String := "FilterPipeLaw"
def cn_Ma : String := "java/lang/Math"
def cn_Ob : String := "java/util/Objects"
def cn_Pr : String := "jdk/internal/util/Preconditions"
def cn_AbL : String := "java/util/AbstractList"
def cn_AbC : String := "java/util/AbstractCollection"
def cn_Oj : String := "java/lang/Object"
def cn_Arrays : String := "java/util/Arrays"
def cn_ArraysSupport : String := "jdk/internal/util/ArraysSupport"
def ft_Row : u_T := fun k => match k with
  | 0 => (cn_Row, "cells", "[I", true)
  | 1 => (cn_Row, "first", "I", false)
  | _ => (cn_Row, "count", "I", false)
def ty_Row : Nat → FieldType := fun k => match k with
  | 0 => .array .int
  | 1 => .int
  | _ => .int
theorem nm_Row : ∀ a, a < 3 → ∀ b, b < 3 → a ≠ b → (ft_Row a).2.1 ≠ (ft_Row b).2.1 := by decide +kernel
theorem tk_Row : ∀ k, k < 3 → parseFieldDescriptor (ft_Row k).2.2.1 = some (ty_Row k) := by decide +kernel
def ft_Recent : u_T := fun k => match k with
  | 0 => (cn_Recent, "cells", "[I", true)
  | _ => (cn_Recent, "count", "I", false)
def ty_Recent : Nat → FieldType := fun k => match k with
  | 0 => .array .int
  | _ => .int
theorem nm_Recent : ∀ a, a < 2 → ∀ b, b < 2 → a ≠ b → (ft_Recent a).2.1 ≠ (ft_Recent b).2.1 := by decide +kernel
theorem tk_Recent : ∀ k, k < 2 → parseFieldDescriptor (ft_Recent k).2.2.1 = some (ty_Recent k) := by decide +kernel
def ft_Section : u_T := fun k => match k with
  | 0 => (cn_Section, "b0", "I", true)
  | 1 => (cn_Section, "b1", "I", true)
  | 2 => (cn_Section, "b2", "I", true)
  | 3 => (cn_Section, "a1", "I", true)
  | 4 => (cn_Section, "a2", "I", true)
  | 5 => (cn_Section, "x0", "I", false)
  | 6 => (cn_Section, "x1", "I", false)
  | 7 => (cn_Section, "x2", "I", false)
  | 8 => (cn_Section, "y1", "I", false)
  | _ => (cn_Section, "y2", "I", false)
def ty_Section : Nat → FieldType := fun k => match k with
  | 0 => .int
  | 1 => .int
  | 2 => .int
  | 3 => .int
  | 4 => .int
  | 5 => .int
  | 6 => .int
  | 7 => .int
  | 8 => .int
  | _ => .int
theorem nm_Section : ∀ a, a < 10 → ∀ b, b < 10 → a ≠ b → (ft_Section a).2.1 ≠ (ft_Section b).2.1 := by decide +kernel
theorem tk_Section : ∀ k, k < 10 → parseFieldDescriptor (ft_Section k).2.2.1 = some (ty_Section k) := by decide +kernel
def ft_Gain : u_T := fun k => match k with
  | 0 => (cn_Gain, "factor", "I", true)
  | _ => (cn_Gain, "latest", "I", false)
def ty_Gain : Nat → FieldType := fun k => match k with
  | 0 => .int
  | _ => .int
theorem nm_Gain : ∀ a, a < 2 → ∀ b, b < 2 → a ≠ b → (ft_Gain a).2.1 ≠ (ft_Gain b).2.1 := by decide +kernel
theorem tk_Gain : ∀ k, k < 2 → parseFieldDescriptor (ft_Gain k).2.2.1 = some (ty_Gain k) := by decide +kernel
def ft_Window : u_T := fun k => match k with
  | 0 => (cn_Window, "weights", "[I", true)
  | 1 => (cn_Window, "total", "I", true)
  | 2 => (cn_Window, "recent", "LFilterPipe$Recent;", true)
  | _ => (cn_Window, "next", "I", false)
def ty_Window : Nat → FieldType := fun k => match k with
  | 0 => .array .int
  | 1 => .int
  | 2 => .object "FilterPipe$Recent"
  | _ => .int
theorem nm_Window : ∀ a, a < 4 → ∀ b, b < 4 → a ≠ b → (ft_Window a).2.1 ≠ (ft_Window b).2.1 := by decide +kernel
theorem tk_Window : ∀ k, k < 4 → parseFieldDescriptor (ft_Window k).2.2.1 = some (ty_Window k) := by decide +kernel
def ft_Resampler : u_T := fun k => match k with
  | 0 => (cn_Resampler, "up", "I", true)
  | 1 => (cn_Resampler, "down", "I", true)
  | 2 => (cn_Resampler, "reach", "I", true)
  | 3 => (cn_Resampler, "recent", "LFilterPipe$Recent;", true)
  | _ => (cn_Resampler, "next", "I", false)
def ty_Resampler : Nat → FieldType := fun k => match k with
  | 0 => .int
  | 1 => .int
  | 2 => .int
  | 3 => .object "FilterPipe$Recent"
  | _ => .int
theorem nm_Resampler : ∀ a, a < 5 → ∀ b, b < 5 → a ≠ b → (ft_Resampler a).2.1 ≠ (ft_Resampler b).2.1 := by decide +kernel
theorem tk_Resampler : ∀ k, k < 5 → parseFieldDescriptor (ft_Resampler k).2.2.1 = some (ty_Resampler k) := by decide +kernel
def ft_Chain : u_T := fun k => match k with
  | 0 => (cn_Chain, "stages", "Ljava/util/ArrayList;", true)
  | 1 => (cn_Chain, "passing", "LFilterPipe$Row;", true)
  | _ => (cn_Chain, "resamplers", "I", false)
def ty_Chain : Nat → FieldType := fun k => match k with
  | 0 => .object "java/util/ArrayList"
  | 1 => .object "FilterPipe$Row"
  | _ => .int
theorem nm_Chain : ∀ a, a < 3 → ∀ b, b < 3 → a ≠ b → (ft_Chain a).2.1 ≠ (ft_Chain b).2.1 := by decide +kernel
theorem tk_Chain : ∀ k, k < 3 → parseFieldDescriptor (ft_Chain k).2.2.1 = some (ty_Chain k) := by decide +kernel
def ft_Layout : u_T := fun k => match k with
  | 0 => (cn_Layout, "width", "I", false)
  | _ => (cn_Layout, "highFirst", "Z", false)
def ty_Layout : Nat → FieldType := fun k => match k with
  | 0 => .int
  | _ => .boolean
theorem nm_Layout : ∀ a, a < 2 → ∀ b, b < 2 → a ≠ b → (ft_Layout a).2.1 ≠ (ft_Layout b).2.1 := by decide +kernel
theorem tk_Layout : ∀ k, k < 2 → parseFieldDescriptor (ft_Layout k).2.2.1 = some (ty_Layout k) := by decide +kernel
def ft_Source : u_T := fun k => match k with
  | 0 => (cn_Source, "layout", "LFilterPipe$Layout;", true)
  | 1 => (cn_Source, "waitingBytes", "LFilterPipe$Row;", true)
  | 2 => (cn_Source, "came", "I", false)
  | _ => (cn_Source, "closed", "Z", false)
def ty_Source : Nat → FieldType := fun k => match k with
  | 0 => .object "FilterPipe$Layout"
  | 1 => .object "FilterPipe$Row"
  | 2 => .int
  | _ => .boolean
theorem nm_Source : ∀ a, a < 4 → ∀ b, b < 4 → a ≠ b → (ft_Source a).2.1 ≠ (ft_Source b).2.1 := by decide +kernel
theorem tk_Source : ∀ k, k < 4 → parseFieldDescriptor (ft_Source k).2.2.1 = some (ty_Source k) := by decide +kernel
def ft_Sink : u_T := fun k => match k with
  | 0 => (cn_Sink, "layout", "LFilterPipe$Layout;", true)
  | _ => (cn_Sink, "samples", "LFilterPipe$Row;", true)
def ty_Sink : Nat → FieldType := fun k => match k with
  | 0 => .object "FilterPipe$Layout"
  | _ => .object "FilterPipe$Row"
theorem nm_Sink : ∀ a, a < 2 → ∀ b, b < 2 → a ≠ b → (ft_Sink a).2.1 ≠ (ft_Sink b).2.1 := by decide +kernel
theorem tk_Sink : ∀ k, k < 2 → parseFieldDescriptor (ft_Sink k).2.2.1 = some (ty_Sink k) := by decide +kernel
def ft_FP : u_T := fun k => match k with
  | 0 => (cn_FP, "chain", "LFilterPipe$Chain;", true)
  | 1 => (cn_FP, "source", "LFilterPipe$Source;", true)
  | 2 => (cn_FP, "held", "LFilterPipe$Row;", true)
  | 3 => (cn_FP, "ring", "LFilterPipe$Row;", true)
  | 4 => (cn_FP, "sink", "LFilterPipe$Sink;", true)
  | 5 => (cn_FP, "flushed", "Z", false)
  | 6 => (cn_FP, "producerState", "I", false)
  | _ => (cn_FP, "consumerState", "I", false)
def ty_FP : Nat → FieldType := fun k => match k with
  | 0 => .object "FilterPipe$Chain"
  | 1 => .object "FilterPipe$Source"
  | 2 => .object "FilterPipe$Row"
  | 3 => .object "FilterPipe$Row"
  | 4 => .object "FilterPipe$Sink"
  | 5 => .boolean
  | 6 => .int
  | _ => .int
theorem nm_FP : ∀ a, a < 8 → ∀ b, b < 8 → a ≠ b → (ft_FP a).2.1 ≠ (ft_FP b).2.1 := by decide +kernel
theorem tk_FP : ∀ k, k < 8 → parseFieldDescriptor (ft_FP k).2.2.1 = some (ty_FP k) := by decide +kernel
def ft_AL : u_T := fun k => match k with
  | 0 => (cn_AL, "elementData", "[Ljava/lang/Object;", false)
  | 1 => (cn_AL, "size", "I", false)
  | _ => (cn_AbL, "modCount", "I", false)
def ty_AL : Nat → FieldType := fun k => match k with
  | 0 => .array (.object "java/lang/Object")
  | 1 => .int
  | _ => .int
theorem nm_AL : ∀ a, a < 3 → ∀ b, b < 3 → a ≠ b → (ft_AL a).2.1 ≠ (ft_AL b).2.1 := by decide +kernel
theorem tk_AL : ∀ k, k < 3 → parseFieldDescriptor (ft_AL k).2.2.1 = some (ty_AL k) := by decide +kernel
def ft_Mo : u_T := fun k => match k with
  | 0 => (cn_Mo, "room", "I", true)
  | 1 => (cn_Mo, "started", "Z", false)
  | 2 => (cn_Mo, "stages", "I", false)
  | 3 => (cn_Mo, "kind", "[I", true)
  | 4 => (cn_Mo, "number", "[I", true)
  | 5 => (cn_Mo, "inWidth", "I", false)
  | 6 => (cn_Mo, "outWidth", "I", false)
  | 7 => (cn_Mo, "inHigh", "Z", false)
  | 8 => (cn_Mo, "outHigh", "Z", false)
  | 9 => (cn_Mo, "bytesIn", "[I", true)
  | 10 => (cn_Mo, "came", "I", false)
  | 11 => (cn_Mo, "used", "I", false)
  | 12 => (cn_Mo, "closed", "Z", false)
  | 13 => (cn_Mo, "flushed", "Z", false)
  | 14 => (cn_Mo, "samples", "[I", true)
  | 15 => (cn_Mo, "taken", "I", false)
  | 16 => (cn_Mo, "line", "[I", true)
  | 17 => (cn_Mo, "next", "[I", true)
  | 18 => (cn_Mo, "made", "I", false)
  | 19 => (cn_Mo, "given", "I", false)
  | 20 => (cn_Mo, "sunk", "I", false)
  | 21 => (cn_Mo, "producer", "I", false)
  | _ => (cn_Mo, "consumer", "I", false)
def ty_Mo : Nat → FieldType := fun k => match k with
  | 0 => .int
  | 1 => .boolean
  | 2 => .int
  | 3 => .array .int
  | 4 => .array .int
  | 5 => .int
  | 6 => .int
  | 7 => .boolean
  | 8 => .boolean
  | 9 => .array .int
  | 10 => .int
  | 11 => .int
  | 12 => .boolean
  | 13 => .boolean
  | 14 => .array .int
  | 15 => .int
  | 16 => .array .int
  | 17 => .array .int
  | 18 => .int
  | 19 => .int
  | 20 => .int
  | 21 => .int
  | _ => .int
theorem nm_Mo : ∀ a, a < 23 → ∀ b, b < 23 → a ≠ b → (ft_Mo a).2.1 ≠ (ft_Mo b).2.1 := by decide +kernel
theorem tk_Mo : ∀ k, k < 23 → parseFieldDescriptor (ft_Mo k).2.2.1 = some (ty_Mo k) := by decide +kernel
abbrev fq_cl : List vw_C := [(cn_Row, ft_Row, 3), (cn_Recent, ft_Recent, 2), (cn_Section, ft_Section, 10), (cn_Gain, ft_Gain, 2), (cn_Window, ft_Window, 4), (cn_Resampler, ft_Resampler, 5), (cn_Chain, ft_Chain, 3), (cn_Layout, ft_Layout, 2), (cn_Source, ft_Source, 4), (cn_Sink, ft_Sink, 2), (cn_FP, ft_FP, 8), (cn_AL, ft_AL, 3), (cn_Mo, ft_Mo, 23)]
def my_FP_init : MethodName := ⟨cn_FP, "<init>", "(I)V"⟩
abbrev cb_FP_init : ByteArray := prog_1_method_1_code
def my_Oj_init : MethodName := ⟨cn_Oj, "<init>", "()V"⟩
abbrev cb_Oj_init : ByteArray := object_method_1_code
def my_Chain_init : MethodName := ⟨cn_Chain, "<init>", "()V"⟩
abbrev cb_Chain_init : ByteArray := prog_2_method_1_code
def my_AL_init : MethodName := ⟨cn_AL, "<init>", "()V"⟩
abbrev cb_AL_init : ByteArray := prog_22_method_2_code
def my_AbL_init : MethodName := ⟨cn_AbL, "<init>", "()V"⟩
abbrev cb_AbL_init : ByteArray := prog_21_method_1_code
def my_AbC_init : MethodName := ⟨cn_AbC, "<init>", "()V"⟩
abbrev cb_AbC_init : ByteArray := prog_20_method_1_code
def my_Row_init : MethodName := ⟨cn_Row, "<init>", "(I)V"⟩
abbrev cb_Row_init : ByteArray := prog_7_method_1_code
def my_Source_init : MethodName := ⟨cn_Source, "<init>", "()V"⟩
abbrev cb_Source_init : ByteArray := prog_10_method_1_code
def my_Layout_init : MethodName := ⟨cn_Layout, "<init>", "()V"⟩
abbrev cb_Layout_init : ByteArray := prog_4_method_1_code
def my_Sink_init : MethodName := ⟨cn_Sink, "<init>", "()V"⟩
abbrev cb_Sink_init : ByteArray := prog_9_method_1_code
def my_Ma_min : MethodName := ⟨cn_Ma, "min", "(II)I"⟩
abbrev cb_Ma_min : ByteArray := prog_18_method_69_code
def my_Ma_max : MethodName := ⟨cn_Ma, "max", "(II)I"⟩
abbrev cb_Ma_max : ByteArray := prog_18_method_65_code
def my_FP_section : MethodName := ⟨cn_FP, "section", "(IIIII)Z"⟩
abbrev cb_FP_section : ByteArray := prog_1_method_2_code
def my_FP_fitsSection : MethodName := ⟨cn_FP, "fitsSection", "(I)Z"⟩
abbrev cb_FP_fitsSection : ByteArray := prog_1_method_26_code
def my_FP_isStable : MethodName := ⟨cn_FP, "isStable", "(II)Z"⟩
abbrev cb_FP_isStable : ByteArray := prog_1_method_27_code
def my_FP_takesStage : MethodName := ⟨cn_FP, "takesStage", "()Z"⟩
abbrev cb_FP_takesStage : ByteArray := prog_1_method_21_code
def my_FP_isStarted : MethodName := ⟨cn_FP, "isStarted", "()Z"⟩
abbrev cb_FP_isStarted : ByteArray := prog_1_method_20_code
def my_Chain_length : MethodName := ⟨cn_Chain, "length", "()I"⟩
abbrev cb_Chain_length : ByteArray := prog_2_method_2_code
def my_AL_size : MethodName := ⟨cn_AL, "size", "()I"⟩
abbrev cb_AL_size : ByteArray := prog_22_method_8_code
def my_Section_init : MethodName := ⟨cn_Section, "<init>", "(IIIII)V"⟩
abbrev cb_Section_init : ByteArray := prog_8_method_1_code
def my_Stage_init : MethodName := ⟨cn_Stage, "<init>", "()V"⟩
abbrev cb_Stage_init : ByteArray := prog_11_method_1_code
def my_Chain_append : MethodName := ⟨cn_Chain, "append", "(LFilterPipe$Stage;)V"⟩
abbrev cb_Chain_append : ByteArray := prog_2_method_5_code
def my_AL_add : MethodName := ⟨cn_AL, "add", "(Ljava/lang/Object;)Z"⟩
abbrev cb_AL_add : ByteArray := prog_22_method_25_code
def my_AL_add2 : MethodName := ⟨cn_AL, "add", "(Ljava/lang/Object;[Ljava/lang/Object;I)V"⟩
abbrev cb_AL_add2 : ByteArray := prog_22_method_24_code
def my_AL_grow : MethodName := ⟨cn_AL, "grow", "()[Ljava/lang/Object;"⟩
abbrev cb_AL_grow : ByteArray := prog_22_method_7_code
def my_AL_grow2 : MethodName := ⟨cn_AL, "grow", "(I)[Ljava/lang/Object;"⟩
abbrev cb_AL_grow2 : ByteArray := prog_22_method_6_code
def my_ArraysSupport_newLength : MethodName := ⟨cn_ArraysSupport, "newLength", "(III)I"⟩
abbrev cb_ArraysSupport_newLength : ByteArray := prog_29_method_27_code
def my_ArraysSupport_hugeLength : MethodName := ⟨cn_ArraysSupport, "hugeLength", "(II)I"⟩
abbrev cb_ArraysSupport_hugeLength : ByteArray := prog_29_method_28_code
def my_Arrays_copyOf : MethodName := ⟨cn_Arrays, "copyOf", "([Ljava/lang/Object;I)[Ljava/lang/Object;"⟩
abbrev cb_Arrays_copyOf : ByteArray := prog_23_method_119_code
def my_Arrays_copyOf2 : MethodName := ⟨cn_Arrays, "copyOf", "([Ljava/lang/Object;ILjava/lang/Class;)[Ljava/lang/Object;"⟩
abbrev cb_Arrays_copyOf2 : ByteArray := prog_23_method_120_code
def my_FP_halfPower : MethodName := ⟨cn_FP, "halfPower", "(IZ)Z"⟩
abbrev cb_FP_halfPower : ByteArray := prog_1_method_3_code
def my_FP_near : MethodName := ⟨cn_FP, "near", "(JJ)I"⟩
abbrev cb_FP_near : ByteArray := prog_1_method_29_code
def my_Ma_floorDiv : MethodName := ⟨cn_Ma, "floorDiv", "(JJ)J"⟩
abbrev cb_Ma_floorDiv : ByteArray := prog_18_method_49_code
def my_FP_gain : MethodName := ⟨cn_FP, "gain", "(I)Z"⟩
abbrev cb_FP_gain : ByteArray := prog_1_method_4_code
def my_Gain_init : MethodName := ⟨cn_Gain, "<init>", "(I)V"⟩
abbrev cb_Gain_init : ByteArray := prog_3_method_1_code
def my_FP_window : MethodName := ⟨cn_FP, "window", "(II)Z"⟩
abbrev cb_FP_window : ByteArray := prog_1_method_5_code
def my_Window_init : MethodName := ⟨cn_Window, "<init>", "(II)V"⟩
abbrev cb_Window_init : ByteArray := prog_12_method_1_code
def my_Recent_init : MethodName := ⟨cn_Recent, "<init>", "()V"⟩
abbrev cb_Recent_init : ByteArray := prog_5_method_1_code
def my_Window_weight : MethodName := ⟨cn_Window, "weight", "(III)I"⟩
abbrev cb_Window_weight : ByteArray := prog_12_method_2_code
def my_FP_resample : MethodName := ⟨cn_FP, "resample", "(II)Z"⟩
abbrev cb_FP_resample : ByteArray := prog_1_method_6_code
def my_FP_isFactor : MethodName := ⟨cn_FP, "isFactor", "(I)Z"⟩
abbrev cb_FP_isFactor : ByteArray := prog_1_method_28_code
def my_Chain_hasPlaceForResampler : MethodName := ⟨cn_Chain, "hasPlaceForResampler", "()Z"⟩
abbrev cb_Chain_hasPlaceForResampler : ByteArray := prog_2_method_4_code
def my_Resampler_init : MethodName := ⟨cn_Resampler, "<init>", "(II)V"⟩
abbrev cb_Resampler_init : ByteArray := prog_6_method_1_code
def my_Resampler_commonDivisor : MethodName := ⟨cn_Resampler, "commonDivisor", "(II)I"⟩
abbrev cb_Resampler_commonDivisor : ByteArray := prog_6_method_2_code
def my_Chain_appendResampler : MethodName := ⟨cn_Chain, "appendResampler", "(LFilterPipe$Resampler;)V"⟩
abbrev cb_Chain_appendResampler : ByteArray := prog_2_method_6_code
def my_FP_format : MethodName := ⟨cn_FP, "format", "(IZZ)Z"⟩
abbrev cb_FP_format : ByteArray := prog_1_method_7_code
def my_Layout_choose : MethodName := ⟨cn_Layout, "choose", "(IZ)V"⟩
abbrev cb_Layout_choose : ByteArray := prog_4_method_2_code
def my_FP_response : MethodName := ⟨cn_FP, "response", "(II)I"⟩
abbrev cb_FP_response : ByteArray := prog_1_method_8_code
def my_Chain_stage : MethodName := ⟨cn_Chain, "stage", "(I)LFilterPipe$Stage;"⟩
abbrev cb_Chain_stage : ByteArray := prog_2_method_3_code
def my_AL_get : MethodName := ⟨cn_AL, "get", "(I)Ljava/lang/Object;"⟩
abbrev cb_AL_get : ByteArray := prog_22_method_20_code
def my_Ob_checkIndex : MethodName := ⟨cn_Ob, "checkIndex", "(II)I"⟩
abbrev cb_Ob_checkIndex : ByteArray := prog_26_method_17_code
def my_Pr_checkIndex : MethodName := ⟨cn_Pr, "checkIndex", "(IILjava/util/function/BiFunction;)I"⟩
abbrev cb_Pr_checkIndex : ByteArray := prog_30_method_11_code
def my_AL_elementData : MethodName := ⟨cn_AL, "elementData", "(I)Ljava/lang/Object;"⟩
abbrev cb_AL_elementData : ByteArray := prog_22_method_18_code
def my_Section_responseAt : MethodName := ⟨cn_Section, "responseAt", "(I)I"⟩
abbrev cb_Section_responseAt : ByteArray := prog_8_method_6_code
def my_Section_squaredSize : MethodName := ⟨cn_Section, "squaredSize", "(JJJJJ)J"⟩
abbrev cb_Section_squaredSize : ByteArray := prog_8_method_7_code
def my_Section_scaledRatio : MethodName := ⟨cn_Section, "scaledRatio", "(JJ)I"⟩
abbrev cb_Section_scaledRatio : ByteArray := prog_8_method_8_code
def my_FP_start : MethodName := ⟨cn_FP, "start", "()Z"⟩
abbrev cb_FP_start : ByteArray := prog_1_method_9_code
def my_FP_begin : MethodName := ⟨cn_FP, "begin", "()V"⟩
abbrev cb_FP_begin : ByteArray := prog_1_method_22_code
def my_Source_reopen : MethodName := ⟨cn_Source, "reopen", "()V"⟩
abbrev cb_Source_reopen : ByteArray := prog_10_method_2_code
def my_Row_empty : MethodName := ⟨cn_Row, "empty", "()V"⟩
abbrev cb_Row_empty : ByteArray := prog_7_method_4_code
def my_Chain_forgetSamples : MethodName := ⟨cn_Chain, "forgetSamples", "()V"⟩
abbrev cb_Chain_forgetSamples : ByteArray := prog_2_method_7_code
def my_Gain_clear : MethodName := ⟨cn_Gain, "clear", "()V"⟩
abbrev cb_Gain_clear : ByteArray := prog_3_method_5_code
def my_Resampler_clear : MethodName := ⟨cn_Resampler, "clear", "()V"⟩
abbrev cb_Resampler_clear : ByteArray := prog_6_method_6_code
def my_Recent_forget : MethodName := ⟨cn_Recent, "forget", "()V"⟩
abbrev cb_Recent_forget : ByteArray := prog_5_method_3_code
def my_Section_clear : MethodName := ⟨cn_Section, "clear", "()V"⟩
abbrev cb_Section_clear : ByteArray := prog_8_method_5_code
def my_Window_clear : MethodName := ⟨cn_Window, "clear", "()V"⟩
abbrev cb_Window_clear : ByteArray := prog_12_method_6_code
def my_FP_restart : MethodName := ⟨cn_FP, "restart", "()Z"⟩
abbrev cb_FP_restart : ByteArray := prog_1_method_10_code
def my_FP_bytes : MethodName := ⟨cn_FP, "bytes", "(II)I"⟩
abbrev cb_FP_bytes : ByteArray := prog_1_method_11_code
def my_Source_takes : MethodName := ⟨cn_Source, "takes", "(I)Z"⟩
abbrev cb_Source_takes : ByteArray := prog_10_method_3_code
def my_Source_addByte : MethodName := ⟨cn_Source, "addByte", "(I)V"⟩
abbrev cb_Source_addByte : ByteArray := prog_10_method_4_code
def my_Row_add : MethodName := ⟨cn_Row, "add", "(I)V"⟩
abbrev cb_Row_add : ByteArray := prog_7_method_5_code
def my_Row_hasRoom : MethodName := ⟨cn_Row, "hasRoom", "()Z"⟩
abbrev cb_Row_hasRoom : ByteArray := prog_7_method_3_code
def my_FP_close : MethodName := ⟨cn_FP, "close", "()Z"⟩
abbrev cb_FP_close : ByteArray := prog_1_method_12_code
def my_FP_produce : MethodName := ⟨cn_FP, "produce", "(I)I"⟩
abbrev cb_FP_produce : ByteArray := prog_1_method_13_code
def my_FP_stepProducer : MethodName := ⟨cn_FP, "stepProducer", "()Z"⟩
abbrev cb_FP_stepProducer : ByteArray := prog_1_method_23_code
def my_Row_size : MethodName := ⟨cn_Row, "size", "()I"⟩
abbrev cb_Row_size : ByteArray := prog_7_method_2_code
def my_FP_handOver : MethodName := ⟨cn_FP, "handOver", "()Z"⟩
abbrev cb_FP_handOver : ByteArray := prog_1_method_24_code
def my_Row_takeOldest : MethodName := ⟨cn_Row, "takeOldest", "()I"⟩
abbrev cb_Row_takeOldest : ByteArray := prog_7_method_6_code
def my_Source_hasSample : MethodName := ⟨cn_Source, "hasSample", "()Z"⟩
abbrev cb_Source_hasSample : ByteArray := prog_10_method_5_code
def my_Source_nextSample : MethodName := ⟨cn_Source, "nextSample", "()I"⟩
abbrev cb_Source_nextSample : ByteArray := prog_10_method_6_code
def my_Layout_shiftOf : MethodName := ⟨cn_Layout, "shiftOf", "(I)I"⟩
abbrev cb_Layout_shiftOf : ByteArray := prog_4_method_3_code
def my_Chain_work : MethodName := ⟨cn_Chain, "work", "(ILFilterPipe$Row;)V"⟩
abbrev cb_Chain_work : ByteArray := prog_2_method_8_code
def my_Chain_passThrough : MethodName := ⟨cn_Chain, "passThrough", "(ILFilterPipe$Row;)V"⟩
abbrev cb_Chain_passThrough : ByteArray := prog_2_method_10_code
def my_Gain_take : MethodName := ⟨cn_Gain, "take", "(I)I"⟩
abbrev cb_Gain_take : ByteArray := prog_3_method_2_code
def my_Resampler_take : MethodName := ⟨cn_Resampler, "take", "(I)I"⟩
abbrev cb_Resampler_take : ByteArray := prog_6_method_3_code
def my_Recent_put : MethodName := ⟨cn_Recent, "put", "(I)V"⟩
abbrev cb_Recent_put : ByteArray := prog_5_method_4_code
def my_Recent_count : MethodName := ⟨cn_Recent, "count", "()I"⟩
abbrev cb_Recent_count : ByteArray := prog_5_method_2_code
def my_Resampler_dueUpTo : MethodName := ⟨cn_Resampler, "dueUpTo", "(I)I"⟩
abbrev cb_Resampler_dueUpTo : ByteArray := prog_6_method_7_code
def my_Section_take : MethodName := ⟨cn_Section, "take", "(I)I"⟩
abbrev cb_Section_take : ByteArray := prog_8_method_2_code
def my_Window_take : MethodName := ⟨cn_Window, "take", "(I)I"⟩
abbrev cb_Window_take : ByteArray := prog_12_method_3_code
def my_Chain_makeSamples : MethodName := ⟨cn_Chain, "makeSamples", "(LFilterPipe$Stage;I)V"⟩
abbrev cb_Chain_makeSamples : ByteArray := prog_2_method_11_code
def my_Gain_make : MethodName := ⟨cn_Gain, "make", "()I"⟩
abbrev cb_Gain_make : ByteArray := prog_3_method_4_code
def my_FP_clipped : MethodName := ⟨cn_FP, "clipped", "(J)I"⟩
abbrev cb_FP_clipped : ByteArray := prog_1_method_30_code
def my_Ma_min2 : MethodName := ⟨cn_Ma, "min", "(JJ)J"⟩
abbrev cb_Ma_min2 : ByteArray := prog_18_method_70_code
def my_Ma_max2 : MethodName := ⟨cn_Ma, "max", "(JJ)J"⟩
abbrev cb_Ma_max2 : ByteArray := prog_18_method_66_code
def my_Resampler_make : MethodName := ⟨cn_Resampler, "make", "()I"⟩
abbrev cb_Resampler_make : ByteArray := prog_6_method_5_code
def my_Recent_at : MethodName := ⟨cn_Recent, "at", "(I)I"⟩
abbrev cb_Recent_at : ByteArray := prog_5_method_5_code
def my_Ma_abs : MethodName := ⟨cn_Ma, "abs", "(I)I"⟩
abbrev cb_Ma_abs : ByteArray := prog_18_method_59_code
def my_Section_make : MethodName := ⟨cn_Section, "make", "()I"⟩
abbrev cb_Section_make : ByteArray := prog_8_method_4_code
def my_Window_make : MethodName := ⟨cn_Window, "make", "()I"⟩
abbrev cb_Window_make : ByteArray := prog_12_method_5_code
def my_Chain_flush : MethodName := ⟨cn_Chain, "flush", "(LFilterPipe$Row;)V"⟩
abbrev cb_Chain_flush : ByteArray := prog_2_method_9_code
def my_Gain_finish : MethodName := ⟨cn_Gain, "finish", "()I"⟩
abbrev cb_Gain_finish : ByteArray := prog_3_method_3_code
def my_Resampler_finish : MethodName := ⟨cn_Resampler, "finish", "()I"⟩
abbrev cb_Resampler_finish : ByteArray := prog_6_method_4_code
def my_Section_finish : MethodName := ⟨cn_Section, "finish", "()I"⟩
abbrev cb_Section_finish : ByteArray := prog_8_method_3_code
def my_Window_finish : MethodName := ⟨cn_Window, "finish", "()I"⟩
abbrev cb_Window_finish : ByteArray := prog_12_method_4_code
def my_FP_consume : MethodName := ⟨cn_FP, "consume", "(I)I"⟩
abbrev cb_FP_consume : ByteArray := prog_1_method_14_code
def my_FP_stepConsumer : MethodName := ⟨cn_FP, "stepConsumer", "()Z"⟩
abbrev cb_FP_stepConsumer : ByteArray := prog_1_method_25_code
def my_FP_interrupt : MethodName := ⟨cn_FP, "interrupt", "(Z)Z"⟩
abbrev cb_FP_interrupt : ByteArray := prog_1_method_15_code
def my_FP_state : MethodName := ⟨cn_FP, "state", "()I"⟩
abbrev cb_FP_state : ByteArray := prog_1_method_16_code
def my_FP_waiting : MethodName := ⟨cn_FP, "waiting", "(I)I"⟩
abbrev cb_FP_waiting : ByteArray := prog_1_method_17_code
def my_FP_sinkByte : MethodName := ⟨cn_FP, "sinkByte", "(I)I"⟩
abbrev cb_FP_sinkByte : ByteArray := prog_1_method_18_code
def my_Sink_byteAt : MethodName := ⟨cn_Sink, "byteAt", "(I)I"⟩
abbrev cb_Sink_byteAt : ByteArray := prog_9_method_2_code
def my_Row_get : MethodName := ⟨cn_Row, "get", "(I)I"⟩
abbrev cb_Row_get : ByteArray := prog_7_method_7_code
def my_Sink_bitsOf : MethodName := ⟨cn_Sink, "bitsOf", "(I)I"⟩
abbrev cb_Sink_bitsOf : ByteArray := prog_9_method_3_code
def my_Ma_floorDiv2 : MethodName := ⟨cn_Ma, "floorDiv", "(II)I"⟩
abbrev cb_Ma_floorDiv2 : ByteArray := prog_18_method_47_code
def my_FP_power : MethodName := ⟨cn_FP, "power", "(I)J"⟩
abbrev cb_FP_power : ByteArray := prog_1_method_19_code
def my_Sink_tone : MethodName := ⟨cn_Sink, "tone", "(I)J"⟩
abbrev cb_Sink_tone : ByteArray := prog_9_method_4_code
def my_La_cell : MethodName := ⟨cn_La, "cell", "([II)I"⟩
abbrev cb_La_cell : ByteArray := method_2_code
def my_Mo_init : MethodName := ⟨cn_Mo, "<init>", "(I)V"⟩
abbrev cb_Mo_init : ByteArray := prog_14_method_1_code
def my_Mo_section : MethodName := ⟨cn_Mo, "section", "(IIIII)Z"⟩
abbrev cb_Mo_section : ByteArray := prog_14_method_9_code
def my_Mo_canAdd : MethodName := ⟨cn_Mo, "canAdd", "()Z"⟩
abbrev cb_Mo_canAdd : ByteArray := prog_14_method_6_code
def my_Mo_small : MethodName := ⟨cn_Mo, "small", "(I)Z"⟩
abbrev cb_Mo_small : ByteArray := prog_14_method_8_code
def my_Mo_add : MethodName := ⟨cn_Mo, "add", "(IIIIII)V"⟩
abbrev cb_Mo_add : ByteArray := prog_14_method_7_code
def my_Mo_halfPower : MethodName := ⟨cn_Mo, "halfPower", "(IZ)Z"⟩
abbrev cb_Mo_halfPower : ByteArray := prog_14_method_10_code
def my_Mo_near : MethodName := ⟨cn_Mo, "near", "(JJ)I"⟩
abbrev cb_Mo_near : ByteArray := prog_14_method_3_code
def my_Mo_floor : MethodName := ⟨cn_Mo, "floor", "(JJ)J"⟩
abbrev cb_Mo_floor : ByteArray := prog_14_method_2_code
def my_Mo_gain : MethodName := ⟨cn_Mo, "gain", "(I)Z"⟩
abbrev cb_Mo_gain : ByteArray := prog_14_method_11_code
def my_Mo_window : MethodName := ⟨cn_Mo, "window", "(II)Z"⟩
abbrev cb_Mo_window : ByteArray := prog_14_method_12_code
def my_Mo_resample : MethodName := ⟨cn_Mo, "resample", "(II)Z"⟩
abbrev cb_Mo_resample : ByteArray := prog_14_method_13_code
def my_Mo_divisor : MethodName := ⟨cn_Mo, "divisor", "(II)I"⟩
abbrev cb_Mo_divisor : ByteArray := prog_14_method_5_code
def my_Mo_format : MethodName := ⟨cn_Mo, "format", "(IZZ)Z"⟩
abbrev cb_Mo_format : ByteArray := prog_14_method_14_code
def my_Mo_response : MethodName := ⟨cn_Mo, "response", "(II)I"⟩
abbrev cb_Mo_response : ByteArray := prog_14_method_16_code
def my_Mo_square : MethodName := ⟨cn_Mo, "square", "(JJJJ)J"⟩
abbrev cb_Mo_square : ByteArray := prog_14_method_15_code
def my_Mo_start : MethodName := ⟨cn_Mo, "start", "()Z"⟩
abbrev cb_Mo_start : ByteArray := prog_14_method_24_code
def my_Mo_restart : MethodName := ⟨cn_Mo, "restart", "()Z"⟩
abbrev cb_Mo_restart : ByteArray := prog_14_method_25_code
def my_Mo_bytes : MethodName := ⟨cn_Mo, "bytes", "(II)I"⟩
abbrev cb_Mo_bytes : ByteArray := prog_14_method_26_code
def my_Mo_close : MethodName := ⟨cn_Mo, "close", "()Z"⟩
abbrev cb_Mo_close : ByteArray := prog_14_method_27_code
def my_Mo_produce : MethodName := ⟨cn_Mo, "produce", "(I)I"⟩
abbrev cb_Mo_produce : ByteArray := prog_14_method_31_code
def my_Mo_producerStep : MethodName := ⟨cn_Mo, "producerStep", "()Z"⟩
abbrev cb_Mo_producerStep : ByteArray := prog_14_method_29_code
def my_Mo_sampleOf : MethodName := ⟨cn_Mo, "sampleOf", "(I)I"⟩
abbrev cb_Mo_sampleOf : ByteArray := prog_14_method_28_code
def my_Mo_work : MethodName := ⟨cn_Mo, "work", "()V"⟩
abbrev cb_Mo_work : ByteArray := prog_14_method_23_code
def my_Mo_madeOf : MethodName := ⟨cn_Mo, "madeOf", "(II)I"⟩
abbrev cb_Mo_madeOf : ByteArray := prog_14_method_21_code
def my_Mo_pass : MethodName := ⟨cn_Mo, "pass", "(III)V"⟩
abbrev cb_Mo_pass : ByteArray := prog_14_method_22_code
def my_Mo_sectionAt : MethodName := ⟨cn_Mo, "sectionAt", "(III)I"⟩
abbrev cb_Mo_sectionAt : ByteArray := prog_14_method_18_code
def my_Mo_x : MethodName := ⟨cn_Mo, "x", "(II)J"⟩
abbrev cb_Mo_x : ByteArray := prog_14_method_17_code
def my_Mo_clipped : MethodName := ⟨cn_Mo, "clipped", "(J)I"⟩
abbrev cb_Mo_clipped : ByteArray := prog_14_method_4_code
def my_Mo_windowAt : MethodName := ⟨cn_Mo, "windowAt", "(IIII)I"⟩
abbrev cb_Mo_windowAt : ByteArray := prog_14_method_19_code
def my_Mo_resampledAt : MethodName := ⟨cn_Mo, "resampledAt", "(IIII)I"⟩
abbrev cb_Mo_resampledAt : ByteArray := prog_14_method_20_code
def my_Mo_consume : MethodName := ⟨cn_Mo, "consume", "(I)I"⟩
abbrev cb_Mo_consume : ByteArray := prog_14_method_32_code
def my_Mo_consumerStep : MethodName := ⟨cn_Mo, "consumerStep", "()Z"⟩
abbrev cb_Mo_consumerStep : ByteArray := prog_14_method_30_code
def my_Mo_interrupt : MethodName := ⟨cn_Mo, "interrupt", "(Z)Z"⟩
abbrev cb_Mo_interrupt : ByteArray := prog_14_method_33_code
def my_Mo_state : MethodName := ⟨cn_Mo, "state", "()I"⟩
abbrev cb_Mo_state : ByteArray := prog_14_method_34_code
def my_Mo_waiting : MethodName := ⟨cn_Mo, "waiting", "(I)I"⟩
abbrev cb_Mo_waiting : ByteArray := prog_14_method_35_code
def my_Mo_sinkByte : MethodName := ⟨cn_Mo, "sinkByte", "(I)I"⟩
abbrev cb_Mo_sinkByte : ByteArray := prog_14_method_36_code
def my_Mo_power : MethodName := ⟨cn_Mo, "power", "(I)J"⟩
abbrev cb_Mo_power : ByteArray := prog_14_method_37_code
end
section
/-! One word list for all methods, one form of contract, and the rows that open a method, call one, and return from one. -/
def fq_TB : List Cond := lw_tbl.filter goodWord
theorem fq_in {w : Cond} (i : Nat) (h : lw_tbl[i]? = some w) (hg : goodWord w = true) : w ∈ fq_TB := List.mem_filter.mpr ⟨List.mem_of_getElem? h, hg⟩
def fq_w (y : MethodName) (b : ByteArray) (n : Nat) (r : Option FieldType) : List Cond := Cond.code y b n r :: fq_TB
theorem fq_gi {y : MethodName} {b : ByteArray} {n : Nat} {r : Option FieldType} (h : Cond.code y b n r ∈ fq_TB) : GoodIn fq_TB (fq_w y b n r) := by
  intro w hw
  rcases List.mem_cons.mp hw with rfl | hw
  · exact ⟨h, good_of_word (List.mem_filter.mp h).2⟩
  · exact ⟨hw, good_of_word (List.mem_filter.mp hw).2⟩
/-- the words that are not kept by the kit's rule, but by rows of their own -/
def fq_okw : Cond → Bool
  | .fieldLinkNest .. => true
  | .methodLinkNest .. => true
  | .declares _ => true
  | .castable .. => true
  | _ => false
theorem fq_okw_tab {w : Cond} (h : fq_okw w = true) : w.onTables = true := by
  cases w <;> first | rfl | (simp [fq_okw] at h)
theorem fq_okw_warm {w : Cond} (h : fq_okw w = true) {s U : State} (hW : s.WarmedH U.vm) (hZ : va_Nw w s) : va_Nw w U := by
  cases w <;> first | exact va_Nw.warmF hW hZ | exact va_Nw.warmM hW hZ | exact va_Nw.warmD hW hZ | exact va_Nw.warmC hW hZ | (simp [fq_okw] at h)
/-- what holds of the tables, at every state of the run -/
def fq_K (D : va_G) (cI cO : ClassId) (U : State) : Prop :=
  va_K D fq_cl [(cI, .int), (cO, .object "java/lang/Object")] U ∧ (∀ w ∈ lw_tbl, fq_okw w = true → va_Nw w U) ∧ (va_Nc cn_Gain cn_Section U ∧ va_Nc cn_Window cn_Section U ∧ va_Nc cn_Resampler cn_Section U ∧ va_AO "java/lang/Object" U)
theorem fq_K.warm {D : va_G} {cI cO : ClassId} {s U : State} (hW : s.WarmedH U.vm) (h : fq_K D cI cO s) : fq_K D cI cO U :=
  ⟨va_K.moved hW.alike h.1, fun w hw hk => fq_okw_warm hk hW (h.2.1 w hw hk), h.2.2.1.moved hW.alike, h.2.2.2.1.moved hW.alike, h.2.2.2.2.1.moved hW.alike, h.2.2.2.2.2.moved hW.alike⟩
theorem fq_K.call {D : va_G} {cI cO : ClassId} {U : State} {g : JFrame} {mk : MethodId} {a : Array Value} (h : fq_K D cI cO U) : fq_K D cI cO (U.calling g mk a) :=
  ⟨va_K.moved (u := U) (U := U.calling g mk a) (Vm.Alike.refl U.vm) h.1, fun w hw hk => va_Nw.same (u := U) (U := U.calling g mk a) (fq_okw_tab hk) rfl (h.2.1 w hw hk), va_Nc.moved (u := U) (U := U.calling g mk a) (Vm.Alike.refl U.vm) h.2.2.1, va_Nc.moved (u := U) (U := U.calling g mk a) (Vm.Alike.refl U.vm) h.2.2.2.1, va_Nc.moved (u := U) (U := U.calling g mk a) (Vm.Alike.refl U.vm) h.2.2.2.2.1, va_AO.moved (u := U) (U := U.calling g mk a) (Vm.Alike.refl U.vm) h.2.2.2.2.2⟩
/-- ArrayList's static that an empty list shares -/
def fq_Z (tE : Nat) (A : Nat → Prop) (U : State) (H : Heap) : Prop := va_Z "java/util/ArrayList" "DEFAULTCAPACITY_EMPTY_ELEMENTDATA" "[Ljava/lang/Object;" (.ref tE) A U H ∧ va_T (.object "java/lang/Object") tE 0 (fun _ => .null) A U H
theorem fq_Z.moved {tE : Nat} {A : Nat → Prop} {u U : State} {H : Heap} (hvm : u.vm.Alike U.vm) (h : fq_Z tE A u H) : fq_Z tE A U H := ⟨h.1.moved hvm, h.2.moved hvm⟩
theorem fq_Z.kept {tE : Nat} {A : Nat → Prop} {U : State} {H H1 : Heap} (h : fq_Z tE A U H) (hq : ∀ a : Nat, a < H.size → ¬ A a → H1[a]? = H[a]?) : fq_Z tE A U H1 := ⟨h.1.kept hq, h.2.kept hq⟩
theorem fq_Z.narrow {tE : Nat} {A B : Nat → Prop} {U : State} {H : Heap} (h : fq_Z tE A U H) (hAB : ∀ q, B q → A q) : fq_Z tE B U H := ⟨h.1.narrow hAB, h.2.narrow hAB⟩
def fq_Pre (D : va_G) (cI cO : ClassId) (tE : Nat) (sz : Nat) (ws : va_W) (U : State) : Prop :=
  U.heap.size = sz ∧ va_P D fq_cl ws U.heap ∧ fq_K D cI cO U ∧ va_D (fun _ => True) ws ∧ fq_Z tE (va_A ws sz) U U.heap
def fq_Bw (D : va_G) (A : Nat → Prop) (w : va_W) (t : State) : Prop := va_P D fq_cl w t.heap ∧ va_D A w
abbrev fq_Ctx (p : Program) (m : MethodId) (c : Code) (cc : ByteArray) (nL : Nat) (s : State) (args : Array Value) (own : String) : Prop := CallFix p m c cc nL s args fq_TB own
/-- the contract of a method that answers an int (a boolean is one) -/
def fq_Ci (l : Launch) (D : va_G) (cI cO : ClassId) (tE : Nat) (y : MethodName) (b : ByteArray) (n : Nat) (ret : FieldType) (rm : Room) (av : List Value) (ws : va_W) (mc ms : Nat) (post : Int32 → va_W → Prop) : Prop :=
  ∀ sz : Nat, Met l y (fq_w y b n (some ret)) rm (va_Pc av (fq_Pre D cI cO tE sz ws)) (va_Qi (S := va_W) post (fq_Bw D (va_A ws sz)) (va_A ws sz)) mc ms (va_A ws sz)
def fq_Cl (l : Launch) (D : va_G) (cI cO : ClassId) (tE : Nat) (y : MethodName) (b : ByteArray) (n : Nat) (rm : Room) (av : List Value) (ws : va_W) (mc ms : Nat) (post : Int64 → va_W → Prop) : Prop :=
  ∀ sz : Nat, Met l y (fq_w y b n (some .long)) rm (va_Pc av (fq_Pre D cI cO tE sz ws)) (va_Ql (S := va_W) post (fq_Bw D (va_A ws sz)) (va_A ws sz)) mc ms (va_A ws sz)
def fq_Cv (l : Launch) (D : va_G) (cI cO : ClassId) (tE : Nat) (y : MethodName) (b : ByteArray) (n : Nat) (rm : Room) (av : List Value) (ws : va_W) (mc ms : Nat) (post : va_W → Prop) : Prop :=
  ∀ sz : Nat, Met l y (fq_w y b n none) rm (va_Pc av (fq_Pre D cI cO tE sz ws)) (va_Qv (S := va_W) post (fq_Bw D (va_A ws sz)) (va_A ws sz)) mc ms (va_A ws sz)
def fq_Cq (l : Launch) (D : va_G) (cI cO : ClassId) (tE : Nat) (y : MethodName) (b : ByteArray) (n : Nat) (ret : FieldType) (rm : Room) (av : List Value) (ws : va_W) (mc ms : Nat) (post : Option Nat → va_W → Prop) : Prop :=
  ∀ sz : Nat, Met l y (fq_w y b n (some ret)) rm (va_Pc av (fq_Pre D cI cO tE sz ws)) (va_Qq (S := va_W) post (fq_Bw D (va_A ws sz)) (va_A ws sz)) mc ms (va_A ws sz)
theorem fq_open {l : Launch} {D : va_G} {cI cO : ClassId} {tE : Nat} {y : MethodName} {b : ByteArray} {n : Nat} {ret : Option FieldType} {rm : Room} {av : List Value} {ws : va_W} {sz mc ms : Nat} {Qc : Array Value → State → Outcome → State → Prop}
    (hy : plainFor y = true) (hn : (lg_sl av).length ≤ n)
    (body : ∀ (p : Program) (e : Env) (s : State) (m : MethodId) (below : List Frame) (meth : Method) (c : Code) (ls : Array Slot), fq_Ctx p m c b n s av.toArray y.cls → meth.sig.returnType = ret → meth.locks = false → meth.name = y.name →
      fq_K D cI cO s → fq_Z tE (va_A ws sz) s s.heap → va_P D fq_cl ws s.heap → va_D (va_A ws sz) ws → (∀ q : Nat, s.heap.size ≤ q → va_A ws sz q) → va_S (va_A ws sz) s.heap s.heap [] → lv_has ls n (lv_args 0 av) →
      W p l e rm s m av.toArray below meth c s.heap [] 0 0 (MQ below Qc av.toArray s mc ms (va_A ws sz)) (F0 m 0 ls [])) :
    Met l y (fq_w y b n ret) rm (va_Pc av (fq_Pre D cI cO tE sz ws)) Qc mc ms (va_A ws sz) := by
  refine va_MetF (cc := b) (maxL := n) (ret := ret) hy rfl ?_
  intro p e s m args below meth c s₁ B hml hv
  obtain ⟨rfl, rfl, hP, hK, hD, hZ⟩ := hv
  have hts := atoms_spec (ws := fq_w y b n ret) B.pre
  have hown : s.vm.findClass y.cls = some m.cls := findClass_of_methodNamed B.named
  have hl := lv_entry av (n := n) hn
  rw [lg_entry_eq]
  generalize (lg_sl av ++ List.replicate (n - (lg_sl av).length) Slot.unset).toArray = ls at hl ⊢
  exact body p e s m below meth c ls ⟨B.exec, B.bytes, hml, hown, fun w hw => hts w (List.mem_cons_of_mem _ hw)⟩ B.returns B.notSynchronized (name_of_methodNamed B.named B.method).1 hK hZ hP hD.self (fun q h => Or.inr h) va_S.rf hl
section FQ
variable {p : Program} {l : Launch} {e : Env} {R : Room} {s : State} {m : MethodId} {args : Array Value} {below : List Frame} {meth : Method} {c : Code} {H : Heap} {locs : List Loc} {cells slots : Nat} {Q : State → Prop}
variable {cc : ByteArray} {nL pc : Nat} {ls : Array Slot} {rest st0 : List Value} {D : va_G} {cI cO : ClassId} {tE : Nat} {A : Nat → Prop} {w ws wc wr : va_W} {mc ms : Nat} {own : String}
theorem fq_reti {post : Int32 → va_W → Prop} {v : Int32} (K : fq_Ctx p m c cc nL s args own) (hr : meth.sig.returnType = some .int) (hlk : meth.locks = false) (hS : va_S A s.heap H locs) (hP : va_P D fq_cl w H) (hD : va_D A w) (hpost : post v w)
    (hdg : decode cc pc = .ok (.ireturn, 1)) (h1 : cells ≤ mc) (h2 : slots ≤ ms) : W p l e R s m args below meth c H locs cells slots (MQ below (va_Qi (S := va_W) post (fq_Bw D A) A) args s mc ms A) (F0 m pc ls [.int v]) :=
  W.widen h1 h2 (W.iret K.1 K.2.1 hr (fun t ht hW => ⟨⟨v, w, rfl, hpost, by rw [ht]; exact hP, hD⟩, hS.F ht⟩) hS.2.2 hdg hlk)
theorem fq_retz {post : Int32 → va_W → Prop} {v : Int32} (K : fq_Ctx p m c cc nL s args own) (hr : meth.sig.returnType = some .boolean) (hlk : meth.locks = false) (hS : va_S A s.heap H locs) (hP : va_P D fq_cl w H) (hD : va_D A w) (hv : v = 0 ∨ v = 1) (hpost : post v w)
    (hdg : decode cc pc = .ok (.ireturn, 1)) (h1 : cells ≤ mc) (h2 : slots ≤ ms) : W p l e R s m args below meth c H locs cells slots (MQ below (va_Qi (S := va_W) post (fq_Bw D A) A) args s mc ms A) (F0 m pc ls [.int v]) :=
  W.widen h1 h2 (W.zret K.1 K.2.1 hr (by rcases hv with rfl | rfl <;> rfl) (fun t ht hW => ⟨⟨v, w, rfl, hpost, by rw [ht]; exact hP, hD⟩, hS.F ht⟩) hS.2.2 hdg hlk)
theorem fq_retl {post : Int64 → va_W → Prop} {v : Int64} (K : fq_Ctx p m c cc nL s args own) (hr : meth.sig.returnType = some .long) (hlk : meth.locks = false) (hS : va_S A s.heap H locs) (hP : va_P D fq_cl w H) (hD : va_D A w) (hpost : post v w)
    (hdg : decode cc pc = .ok (.lreturn, 1)) (h1 : cells ≤ mc) (h2 : slots ≤ ms) : W p l e R s m args below meth c H locs cells slots (MQ below (va_Ql (S := va_W) post (fq_Bw D A) A) args s mc ms A) (F0 m pc ls [.long v]) :=
  W.widen h1 h2 (W.lret K.1 K.2.1 hr (fun t ht hW => ⟨⟨v, w, rfl, hpost, by rw [ht]; exact hP, hD⟩, hS.F ht⟩) hS.2.2 hdg hlk)
theorem fq_retv {post : va_W → Prop} (K : fq_Ctx p m c cc nL s args own) (hr : meth.sig.returnType = none) (hlk : meth.locks = false) (hS : va_S A s.heap H locs) (hP : va_P D fq_cl w H) (hD : va_D A w) (hpost : post w)
    (hdg : decode cc pc = .ok (.return_, 1)) (h1 : cells ≤ mc) (h2 : slots ≤ ms) : W p l e R s m args below meth c H locs cells slots (MQ below (va_Qv (S := va_W) post (fq_Bw D A) A) args s mc ms A) (F0 m pc ls []) :=
  W.widen h1 h2 (W.vret K.1 K.2.1 hr (fun t ht hW => ⟨⟨w, rfl, hpost, by rw [ht]; exact hP, hD⟩, hS.F ht⟩) hS.2.2 hdg hlk)
theorem fq_retq {post : Option Nat → va_W → Prop} {r : Option Nat} {rt : FieldType} (K : fq_Ctx p m c cc nL s args own) (hr : meth.sig.returnType = some rt) (hrt : (∃ n, rt = .object n) ∨ ∃ t, rt = .array t) (hlk : meth.locks = false) (hS : va_S A s.heap H locs) (hP : va_P D fq_cl w H) (hD : va_D A w) (hpost : post r w)
    (hdg : decode cc pc = .ok (.areturn, 1)) (h1 : cells ≤ mc) (h2 : slots ≤ ms) : W p l e R s m args below meth c H locs cells slots (MQ below (va_Qq (S := va_W) post (fq_Bw D A) A) args s mc ms A) (F0 m pc ls [va_rf r]) :=
  W.widen h1 h2 (W.aret K.1 K.2.1 hr hrt (va_rf_or r) (fun t ht hW => ⟨⟨r, w, rfl, hpost, by rw [ht]; exact hP, hD⟩, hS.F ht⟩) hS.2.2 hdg hlk)
/-- the start of a callee, out of the caller's world -/
theorem fq_blind {av : List Value} {sz : Nat} : FrameBlind (va_Pc av (fq_Pre D cI cO tE sz wc)) := by
  intro a U g mk q
  obtain ⟨q0, q1, q2, q3, q4, q5⟩ := q
  exact ⟨q0, q1, q2, q3.call, q4, fq_Z.moved (u := U) (U := U.calling g mk a) (Vm.Alike.refl U.vm) q5⟩
theorem fq_pre {av : List Value} (hK : fq_K D cI cO s) (hZ : fq_Z tE A s s.heap) (hS : va_S A s.heap H locs) (hP : va_P D fq_cl wc H) (hD : va_D A wc) (hF : ∀ q, va_A wc H.size q → A q) :
    ∀ U : State, U.heap = H → s.WarmedH U.vm → va_Pc av (fq_Pre D cI cO tE H.size wc) av.toArray U := by
  intro U hU hW
  subst hU
  exact ⟨rfl, rfl, hP, hK.warm hW, hD.weaken (fun _ _ _ _ => trivial), ((fq_Z.kept hZ hS.2.1).narrow hF).moved hW.alike⟩
end FQ
/-- what a method's own rows of the tables say: an instance method that its own class selects -/
def fq_Y (y : MethodName) (b : ByteArray) (n : Nat) (r : Option FieldType) (k : Nat) : Prop :=
  Cond.code y b n r ∈ fq_TB ∧ Cond.initialized y.cls ∈ fq_TB ∧ (y.cls ≠ "java/lang/invoke/MethodHandle" ∧ y.cls ≠ "java/lang/invoke/VarHandle" ∧ (parseMethodDescriptor y.desc).map (fun d => d.parameters.length) = some k)
section FR
variable {p : Program} {l : Launch} {e : Env} {R : Room} {s : State} {m : MethodId} {args : Array Value} {below : List Frame} {meth : Method} {c : Code} {H : Heap} {locs : List Loc} {cells slots : Nat} {Q : State → Prop}
variable {cc : ByteArray} {nL pc : Nat} {ls : Array Slot} {rest st0 : List Value} {D : va_G} {cI cO : ClassId} {tE : Nat} {A : Nat → Prop} {w ws wc wr : va_W} {mc ms : Nat} {own : String}
variable {y : MethodName} {bytes : ByteArray} {maxL index k : Nat} {ret : Option FieldType} {rm : Room} {Qc : Array Value → State → Outcome → State → Prop} {free : Addr → Prop} {b : Addr} {As : List Value}
/-- a callee's cells out of the caller's world -/
def fq_cut (D : va_G) (A : Nat → Prop) (H : Heap) (wc : va_W) : Prop := va_P D fq_cl wc H ∧ va_D A wc ∧ ∀ q, va_A wc H.size q → A q
theorem fq_cut.of (hP : va_P D fq_cl ws H) (hD : va_D A ws) (hS : va_S A s.heap H locs) (hA : ∀ q, s.heap.size ≤ q → A q) (is : List Nat) (hn : va_nd is = true) (hs : is.map (fun i => ws[i]?) = wc.map some) : fq_cut D A H wc :=
  ⟨hP.sub is (by
    have h := congrArg (List.filterMap id) hs
    simpa [List.filterMap_map] using h), hD.sub is hn hs, va_free hD hS hA is hs⟩
/-- the room that a callee takes of its caller's -/
abbrev fq_fit (rm R : Room) (maxL cells slots mc ms : Nat) : Prop := (rm.cells = mc ∧ rm.slots = ms) ∧ (rm.frames + 1 ≤ R.frames ∧ 8 + (maxL + 11) + rm.locals ≤ R.locals) ∧ (cells + mc ≤ R.cells ∧ slots + ms ≤ R.slots)
theorem fq_rV (K : fq_Ctx p m c cc nL s args own) (hK : fq_K D cI cO s) (hZ : fq_Z tE A s s.heap) (hS : va_S A s.heap H locs) (hc : fq_cut D A H wc)
    (hM : Met l y (fq_w y bytes maxL ret) rm (va_Pc (.ref b :: As) (fq_Pre D cI cO tE H.size wc)) Qc mc ms free) (hY : fq_Y y bytes maxL ret As.length) (hin : Cond.instanceMethod y ∈ fq_TB) (hse : Cond.selects y.cls y y ∈ fq_TB) (hlink : Cond.methodLink own index y ∈ fq_TB)
    (q0 : Nat) {ci : Nat} {fs : List Value} {q : vw_C} (he : wc[q0]? = some (b, .inr (ci, fs))) (hq : fq_cl[ci]? = some q) (hqc : q.1 = y.cls)
    (hfit : fq_fit rm R maxL cells slots mc ms) (hsz : ls.size = nL) (hstack : st0 = As.reverse ++ .ref b :: rest) (hrest : (rest.map fun v => v.category).sum ≤ 8) (hdg : decode cc pc = .ok (.invokevirtual index, 3)) :
    va_Run p l e R s m args below meth c H locs cells slots mc ms (F0 m pc ls st0) rest (Qc (Value.ref b :: As).toArray) free := by
  obtain ⟨h1, h2, h3⟩ := hfit
  have hts := K.2.2.2.2
  have hcb := callB_of (own := own) (index := index) (R := R) (mc := mc) (ms := ms) As.length hts (fq_gi hY.1) rfl h1.1 h1.2 (hts _ hY.2.1) (hts _ hlink) hY.2.2 h2
  have hrv := va_recv hK.1 hc.1 hq he
  rw [hqc] at hrv
  exact va_runV K hM ⟨hcb, hts _ hin, hts _ hse⟩ ⟨fq_blind, hrv, fq_pre hK hZ hS hc.1 hc.2.1 hc.2.2⟩ rfl rfl hsz hstack (lv_room hrest) hdg h3
theorem fq_rI (K : fq_Ctx p m c cc nL s args own) (hK : fq_K D cI cO s) (hZ : fq_Z tE A s s.heap) (hS : va_S A s.heap H locs) (hc : fq_cut D A H wc)
    (hM : Met l y (fq_w y bytes maxL none) rm (va_Pc (.ref b :: As) (fq_Pre D cI cO tE H.size wc)) Qc mc ms free) (hY : fq_Y y bytes maxL none As.length) (hin : Cond.instanceMethod y ∈ fq_TB) (hy : y.name = "<init>") (hlink : Cond.methodLink own index y ∈ fq_TB)
    (hfit : fq_fit rm R maxL cells slots mc ms) (hsz : ls.size = nL) (hstack : st0 = As.reverse ++ .ref b :: rest) (hrest : (rest.map fun v => v.category).sum ≤ 8) (hdg : decode cc pc = .ok (.invokespecial index, 3)) :
    va_Run p l e R s m args below meth c H locs cells slots mc ms (F0 m pc ls st0) rest (Qc (Value.ref b :: As).toArray) free := by
  obtain ⟨h1, h2, h3⟩ := hfit
  have hts := K.2.2.2.2
  have hcb := callB_of (own := own) (index := index) (R := R) (mc := mc) (ms := ms) As.length hts (fq_gi hY.1) rfl h1.1 h1.2 (hts _ hY.2.1) (hts _ hlink) hY.2.2 h2
  exact va_runI K hM ⟨hcb, hy, hts _ hin⟩ ⟨fq_blind, fq_pre hK hZ hS hc.1 hc.2.1 hc.2.2⟩ rfl rfl hsz hstack (lv_room hrest) hdg h3
theorem fq_rS (K : fq_Ctx p m c cc nL s args own) (hK : fq_K D cI cO s) (hZ : fq_Z tE A s s.heap) (hS : va_S A s.heap H locs) (hc : fq_cut D A H wc)
    (hM : Met l y (fq_w y bytes maxL ret) rm (va_Pc As (fq_Pre D cI cO tE H.size wc)) Qc mc ms free) (hY : fq_Y y bytes maxL ret As.length) (hst : Cond.static y ∈ fq_TB) (hlink : Cond.methodLink own index y ∈ fq_TB)
    (hfit : fq_fit rm R maxL cells slots mc ms) (hsz : ls.size = nL) (hstack : st0 = As.reverse ++ rest) (hrest : (rest.map fun v => v.category).sum ≤ 8) (hdg : decode cc pc = .ok (.invokestatic index, 3)) :
    va_Run p l e R s m args below meth c H locs cells slots mc ms (F0 m pc ls st0) rest (Qc As.toArray) free := by
  obtain ⟨h1, h2, h3⟩ := hfit
  have hts := K.2.2.2.2
  have hcb := callB_of (own := own) (index := index) (R := R) (mc := mc) (ms := ms) As.length hts (fq_gi hY.1) rfl h1.1 h1.2 (hts _ hY.2.1) (hts _ hlink) hY.2.2 h2
  exact va_runS K hM ⟨hcb, hts _ hst⟩ ⟨fq_blind, fq_pre hK hZ hS hc.1 hc.2.1 hc.2.2⟩ rfl rfl hsz hstack (lv_room hrest) hdg h3
/-- the same, where the link goes to a private method of a nest mate -/
theorem fq_cn {host : String} (K : fq_Ctx p m c cc nL s args own) (hK : fq_K D cI cO s) (hY : fq_Y y bytes maxL ret k) (hlink : Cond.methodLinkNest own index y host ∈ lw_tbl) (h1 : rm.cells = mc ∧ rm.slots = ms) (h2 : rm.frames + 1 ≤ R.frames ∧ 8 + (maxL + 11) + rm.locals ≤ R.locals) :
    va_CN R s args own index y host bytes maxL ret (fq_w y bytes maxL ret) rm mc ms k :=
  va_cnB k K.2.2.2.2 (fq_gi hY.1) rfl h1.1 h1.2 (hK.2.1 _ hlink rfl) (K.2.2.2.2 _ hY.2.1) hY.2.2 h2
theorem fq_rSN {host : String} (K : fq_Ctx p m c cc nL s args own) (hK : fq_K D cI cO s) (hZ : fq_Z tE A s s.heap) (hS : va_S A s.heap H locs) (hc : fq_cut D A H wc)
    (hM : Met l y (fq_w y bytes maxL ret) rm (va_Pc As (fq_Pre D cI cO tE H.size wc)) Qc mc ms free) (hY : fq_Y y bytes maxL ret As.length) (hst : Cond.static y ∈ fq_TB) (hlink : Cond.methodLinkNest own index y host ∈ lw_tbl)
    (hfit : fq_fit rm R maxL cells slots mc ms) (hsz : ls.size = nL) (hstack : st0 = As.reverse ++ rest) (hrest : (rest.map fun v => v.category).sum ≤ 8) (hdg : decode cc pc = .ok (.invokestatic index, 3)) :
    va_Run p l e R s m args below meth c H locs cells slots mc ms (F0 m pc ls st0) rest (Qc As.toArray) free := by
  obtain ⟨h1, h2, h3⟩ := hfit
  exact va_runSN K hM ⟨fq_cn K hK hY hlink h1 h2, K.2.2.2.2 _ hst, trivial⟩ ⟨fq_blind, fq_pre hK hZ hS hc.1 hc.2.1 hc.2.2⟩ rfl rfl hsz hstack (lv_room hrest) hdg h3
theorem fq_rVN {host : String} (K : fq_Ctx p m c cc nL s args own) (hK : fq_K D cI cO s) (hZ : fq_Z tE A s s.heap) (hS : va_S A s.heap H locs) (hc : fq_cut D A H wc)
    (hM : Met l y (fq_w y bytes maxL ret) rm (va_Pc (.ref b :: As) (fq_Pre D cI cO tE H.size wc)) Qc mc ms free) (hY : fq_Y y bytes maxL ret As.length) (hin : Cond.instanceMethod y ∈ fq_TB) (hse : Cond.selects y.cls y y ∈ fq_TB) (hlink : Cond.methodLinkNest own index y host ∈ lw_tbl)
    (q0 : Nat) {ci : Nat} {fs : List Value} {q : vw_C} (he : wc[q0]? = some (b, .inr (ci, fs))) (hq : fq_cl[ci]? = some q) (hqc : q.1 = y.cls)
    (hfit : fq_fit rm R maxL cells slots mc ms) (hsz : ls.size = nL) (hstack : st0 = As.reverse ++ .ref b :: rest) (hrest : (rest.map fun v => v.category).sum ≤ 8) (hdg : decode cc pc = .ok (.invokevirtual index, 3)) :
    va_Run p l e R s m args below meth c H locs cells slots mc ms (F0 m pc ls st0) rest (Qc (Value.ref b :: As).toArray) free := by
  obtain ⟨h1, h2, h3⟩ := hfit
  have hrv := va_recv hK.1 hc.1 hq he
  rw [hqc] at hrv
  exact va_runVN K hM ⟨fq_cn K hK hY hlink h1 h2, K.2.2.2.2 _ hin, K.2.2.2.2 _ hse⟩ ⟨fq_blind, hrv, fq_pre hK hZ hS hc.1 hc.2.1 hc.2.2⟩ rfl rfl hsz hstack (lv_room hrest) hdg h3
theorem fq_rIN {host : String} (K : fq_Ctx p m c cc nL s args own) (hK : fq_K D cI cO s) (hZ : fq_Z tE A s s.heap) (hS : va_S A s.heap H locs) (hc : fq_cut D A H wc)
    (hM : Met l y (fq_w y bytes maxL none) rm (va_Pc (.ref b :: As) (fq_Pre D cI cO tE H.size wc)) Qc mc ms free) (hY : fq_Y y bytes maxL none As.length) (hin : Cond.instanceMethod y ∈ fq_TB) (hy : y.name = "<init>") (hlink : Cond.methodLinkNest own index y host ∈ lw_tbl)
    (hfit : fq_fit rm R maxL cells slots mc ms) (hsz : ls.size = nL) (hstack : st0 = As.reverse ++ .ref b :: rest) (hrest : (rest.map fun v => v.category).sum ≤ 8) (hdg : decode cc pc = .ok (.invokespecial index, 3)) :
    va_Run p l e R s m args below meth c H locs cells slots mc ms (F0 m pc ls st0) rest (Qc (Value.ref b :: As).toArray) free := by
  obtain ⟨h1, h2, h3⟩ := hfit
  exact va_runIN K hM ⟨fq_cn K hK hY hlink h1 h2, hy, K.2.2.2.2 _ hin⟩ ⟨fq_blind, fq_pre hK hZ hS hc.1 hc.2.1 hc.2.2⟩ rfl rfl hsz hstack (lv_room hrest) hdg h3
/-- behind a call: the rest, and the callee's new world -/
theorem fq_ci {post : Int32 → va_W → Prop} {a : Array Value} (hr : va_Run p l e R s m args below meth c H locs cells slots mc ms (F0 m pc ls st0) rest (va_Qi (S := va_W) post (fq_Bw D (va_A wc H.size)) (va_A wc H.size) a) (va_A wc H.size))
    (hP : va_P D fq_cl ws H) (hD : va_D A ws) (hS : va_S A s.heap H locs) (hc : fq_cut D A H wc) (isC isR : List Nat) (hC : isC.map (fun i => ws[i]?) = wc.map some) (hR : isR.map (fun i => ws[i]?) = wr.map some) (hn : va_nd isR = true) (hdis : ∀ i ∈ isR, i ∉ isC)
    (kk : ∀ (r : Int32) (w : va_W) (H1 : Heap) (locs1 : List Loc), post r w → va_P D fq_cl (wr ++ w) H1 → va_D A (wr ++ w) → va_S A s.heap H1 locs1 → W p l e R s m args below meth c H1 locs1 (cells + mc) (slots + ms) Q (F0 m (pc + 3) ls (.int r :: rest))) : W p l e R s m args below meth c H locs cells slots Q (F0 m pc ls st0) := by
  refine va_calli hr hS (fun q _ h => hc.2.2 q h) hc.2.2 (fun r u t H1 locs1 ht hvm hp hB hz hk hS1 => ?_)
  obtain ⟨hP1, hD1⟩ := hB
  rw [ht] at hP1
  obtain ⟨hP2, hD2⟩ := va_join hP hD isC isR hC hR hn hdis hk hc.2.2 hP1 hD1
  exact kk r u H1 locs1 hp hP2 hD2 hS1
theorem fq_cl_ {post : Int64 → va_W → Prop} {a : Array Value} (hr : va_Run p l e R s m args below meth c H locs cells slots mc ms (F0 m pc ls st0) rest (va_Ql (S := va_W) post (fq_Bw D (va_A wc H.size)) (va_A wc H.size) a) (va_A wc H.size))
    (hP : va_P D fq_cl ws H) (hD : va_D A ws) (hS : va_S A s.heap H locs) (hc : fq_cut D A H wc) (isC isR : List Nat) (hC : isC.map (fun i => ws[i]?) = wc.map some) (hR : isR.map (fun i => ws[i]?) = wr.map some) (hn : va_nd isR = true) (hdis : ∀ i ∈ isR, i ∉ isC)
    (kk : ∀ (r : Int64) (w : va_W) (H1 : Heap) (locs1 : List Loc), post r w → va_P D fq_cl (wr ++ w) H1 → va_D A (wr ++ w) → va_S A s.heap H1 locs1 → W p l e R s m args below meth c H1 locs1 (cells + mc) (slots + ms) Q (F0 m (pc + 3) ls (.long r :: rest))) : W p l e R s m args below meth c H locs cells slots Q (F0 m pc ls st0) := by
  refine va_calll hr hS (fun q _ h => hc.2.2 q h) hc.2.2 (fun r u t H1 locs1 ht hvm hp hB hz hk hS1 => ?_)
  obtain ⟨hP1, hD1⟩ := hB
  rw [ht] at hP1
  obtain ⟨hP2, hD2⟩ := va_join hP hD isC isR hC hR hn hdis hk hc.2.2 hP1 hD1
  exact kk r u H1 locs1 hp hP2 hD2 hS1
theorem fq_cv {post : va_W → Prop} {a : Array Value} (hr : va_Run p l e R s m args below meth c H locs cells slots mc ms (F0 m pc ls st0) rest (va_Qv (S := va_W) post (fq_Bw D (va_A wc H.size)) (va_A wc H.size) a) (va_A wc H.size))
    (hP : va_P D fq_cl ws H) (hD : va_D A ws) (hS : va_S A s.heap H locs) (hc : fq_cut D A H wc) (isC isR : List Nat) (hC : isC.map (fun i => ws[i]?) = wc.map some) (hR : isR.map (fun i => ws[i]?) = wr.map some) (hn : va_nd isR = true) (hdis : ∀ i ∈ isR, i ∉ isC)
    (kk : ∀ (w : va_W) (H1 : Heap) (locs1 : List Loc), post w → va_P D fq_cl (wr ++ w) H1 → va_D A (wr ++ w) → va_S A s.heap H1 locs1 → W p l e R s m args below meth c H1 locs1 (cells + mc) (slots + ms) Q (F0 m (pc + 3) ls rest)) : W p l e R s m args below meth c H locs cells slots Q (F0 m pc ls st0) := by
  refine va_callv hr hS (fun q _ h => hc.2.2 q h) hc.2.2 (fun u t H1 locs1 ht hvm hp hB hz hk hS1 => ?_)
  obtain ⟨hP1, hD1⟩ := hB
  rw [ht] at hP1
  obtain ⟨hP2, hD2⟩ := va_join hP hD isC isR hC hR hn hdis hk hc.2.2 hP1 hD1
  exact kk u H1 locs1 hp hP2 hD2 hS1
theorem fq_cq {post : Option Nat → va_W → Prop} {a : Array Value} (hr : va_Run p l e R s m args below meth c H locs cells slots mc ms (F0 m pc ls st0) rest (va_Qq (S := va_W) post (fq_Bw D (va_A wc H.size)) (va_A wc H.size) a) (va_A wc H.size))
    (hP : va_P D fq_cl ws H) (hD : va_D A ws) (hS : va_S A s.heap H locs) (hc : fq_cut D A H wc) (isC isR : List Nat) (hC : isC.map (fun i => ws[i]?) = wc.map some) (hR : isR.map (fun i => ws[i]?) = wr.map some) (hn : va_nd isR = true) (hdis : ∀ i ∈ isR, i ∉ isC)
    (kk : ∀ (r : Option Nat) (w : va_W) (H1 : Heap) (locs1 : List Loc), post r w → va_P D fq_cl (wr ++ w) H1 → va_D A (wr ++ w) → va_S A s.heap H1 locs1 → W p l e R s m args below meth c H1 locs1 (cells + mc) (slots + ms) Q (F0 m (pc + 3) ls (va_rf r :: rest))) : W p l e R s m args below meth c H locs cells slots Q (F0 m pc ls st0) := by
  refine va_callq hr hS (fun q _ h => hc.2.2 q h) hc.2.2 (fun r u t H1 locs1 ht hvm hp hB hz hk hS1 => ?_)
  obtain ⟨hP1, hD1⟩ := hB
  rw [ht] at hP1
  obtain ⟨hP2, hD2⟩ := va_join hP hD isC isR hC hR hn hdis hk hc.2.2 hP1 hD1
  exact kk r u H1 locs1 hp hP2 hD2 hS1
end FR
/-- what the tables say of a class whose objects the worlds hold -/
def fq_L (ci : Nat) (C : String) (T : u_T) (N : Nat) (ty : Nat → FieldType) : Prop :=
  fq_cl[ci]? = some (C, T, N) ∧ (∀ w ∈ u_ws C T N, w ∈ fq_TB) ∧ (∀ k, k < N → parseFieldDescriptor (T k).2.2.1 = some (ty k)) ∧ (∀ a, a < N → ∀ b, b < N → a ≠ b → (T a).2.1 ≠ (T b).2.1)
section FG
variable {p : Program} {l : Launch} {e : Env} {R : Room} {s : State} {m : MethodId} {args : Array Value} {below : List Frame} {meth : Method} {c : Code} {H : Heap} {locs : List Loc} {cells slots : Nat} {Q : State → Prop}
variable {cc : ByteArray} {nL pc : Nat} {ls : Array Slot} {rest : List Value} {D : va_G} {cI cO : ClassId} {tE : Nat} {A : Nat → Prop} {ws : va_W} {own : String} {ci index : Nat} {C : String} {T : u_T} {N : Nat} {ty : Nat → FieldType} {a : Nat} {fs : List Value} {v : Value}
theorem fq_get (K : fq_Ctx p m c cc nL s args own) (hK : fq_K D cI cO s) (hL : fq_L ci C T N ty) (hP : va_P D fq_cl ws H) (q0 k : Nat) (he : ws[q0]? = some (a, .inr (ci, fs))) (hk : k < N) (hlink : Cond.fieldLink own index (T k).1 (T k).2.1 (T k).2.2.1 ∈ fq_TB) (hv : fs[k]? = some v) (hdg : decode cc pc = .ok (.getfield index, 3))
    (kk : W p l e R s m args below meth c H locs cells slots Q (F0 m (pc + 3) ls (v :: rest))) : W p l e R s m args below meth c H locs cells slots Q (F0 m pc ls (.ref a :: rest)) :=
  va_get K.1 K.2.1 K.2.2.2.2 hL.2.1 K.2.2.2.1 hK.1 hP q0 he hL.1 k hk (K.2.2.2.2 _ hlink) (fun _ h => h) hv hdg kk
theorem fq_getN {host : String} (K : fq_Ctx p m c cc nL s args own) (hK : fq_K D cI cO s) (hL : fq_L ci C T N ty) (hP : va_P D fq_cl ws H) (q0 k : Nat) (he : ws[q0]? = some (a, .inr (ci, fs))) (hk : k < N) (hlink : Cond.fieldLinkNest own index (T k).1 (T k).2.1 (T k).2.2.1 host ∈ lw_tbl) (hv : fs[k]? = some v) (hdg : decode cc pc = .ok (.getfield index, 3))
    (kk : W p l e R s m args below meth c H locs cells slots Q (F0 m (pc + 3) ls (v :: rest))) : W p l e R s m args below meth c H locs cells slots Q (F0 m pc ls (.ref a :: rest)) :=
  va_getN K.1 K.2.1 K.2.2.2.2 hL.2.1 K.2.2.2.1 hK.1 hP q0 he hL.1 k hk (va_Nw.use rfl (hK.2.1 _ hlink rfl)) (fun _ h => h) hv hdg kk
theorem fq_put (K : fq_Ctx p m c cc nL s args own) (hK : fq_K D cI cO s) (hL : fq_L ci C T N ty) (hP : va_P D fq_cl ws H) (hD : va_D A ws) (hS : va_S A s.heap H locs) (q0 k : Nat) (he : ws[q0]? = some (a, .inr (ci, fs))) (hk : k < N) (hlink : Cond.fieldLink own index (T k).1 (T k).2.1 (T k).2.2.1 ∈ fq_TB) (hfin : (T k).2.2.2 = false) (hn : narrow (ty k) v = v) (hfit : fits (ty k) v = true) (hl : k < fs.length) (hdg : decode cc pc = .ok (.putfield index, 3))
    (kk : ∀ (H1 : Heap) (locs1 : List Loc), va_P D fq_cl (ws.set q0 (a, .inr (ci, fs.set k v))) H1 → va_D A (ws.set q0 (a, .inr (ci, fs.set k v))) → va_S A s.heap H1 locs1 → W p l e R s m args below meth c H1 locs1 cells slots Q (F0 m (pc + 3) ls rest)) : W p l e R s m args below meth c H locs cells slots Q (F0 m pc ls (v :: .ref a :: rest)) :=
  va_put K.1 K.2.1 K.2.2.2.2 hL.2.1 ty hL.2.2.1 hL.2.2.2 K.2.2.2.1 hK.1 hP hD hS q0 he hL.1 k hk (K.2.2.2.2 _ hlink) (fun _ h => h) hfin (hL.2.2.1 k hk) hn hfit hl hdg kk
theorem fq_putN {host : String} (K : fq_Ctx p m c cc nL s args own) (hK : fq_K D cI cO s) (hL : fq_L ci C T N ty) (hP : va_P D fq_cl ws H) (hD : va_D A ws) (hS : va_S A s.heap H locs) (q0 k : Nat) (he : ws[q0]? = some (a, .inr (ci, fs))) (hk : k < N) (hlink : Cond.fieldLinkNest own index (T k).1 (T k).2.1 (T k).2.2.1 host ∈ lw_tbl) (hfin : (T k).2.2.2 = false) (hn : narrow (ty k) v = v) (hfit : fits (ty k) v = true) (hl : k < fs.length) (hdg : decode cc pc = .ok (.putfield index, 3))
    (kk : ∀ (H1 : Heap) (locs1 : List Loc), va_P D fq_cl (ws.set q0 (a, .inr (ci, fs.set k v))) H1 → va_D A (ws.set q0 (a, .inr (ci, fs.set k v))) → va_S A s.heap H1 locs1 → W p l e R s m args below meth c H1 locs1 cells slots Q (F0 m (pc + 3) ls rest)) : W p l e R s m args below meth c H locs cells slots Q (F0 m pc ls (v :: .ref a :: rest)) :=
  va_putN K.1 K.2.1 K.2.2.2.2 hL.2.1 ty hL.2.2.1 hL.2.2.2 K.2.2.2.1 hK.1 hP hD hS q0 he hL.1 k hk (va_Nw.use rfl (hK.2.1 _ hlink rfl)) (fun _ h => h) hfin (hL.2.2.1 k hk) hn hfit hl hdg kk
theorem fq_putF (K : fq_Ctx p m c cc nL s args own) (hK : fq_K D cI cO s) (hL : fq_L ci C T N ty) (hP : va_P D fq_cl ws H) (hD : va_D A ws) (hS : va_S A s.heap H locs) (hin : meth.name = "<init>") (q0 k : Nat) (he : ws[q0]? = some (a, .inr (ci, fs))) (hk : k < N) (hlink : Cond.fieldLink own index (T k).1 (T k).2.1 (T k).2.2.1 ∈ fq_TB) (hfin : (T k).2.2.2 = true) (hdecl : (T k).1 = own) (hn : narrow (ty k) v = v) (hfit : fits (ty k) v = true) (hl : k < fs.length) (hdg : decode cc pc = .ok (.putfield index, 3))
    (kk : ∀ (H1 : Heap) (locs1 : List Loc), va_P D fq_cl (ws.set q0 (a, .inr (ci, fs.set k v))) H1 → va_D A (ws.set q0 (a, .inr (ci, fs.set k v))) → va_S A s.heap H1 locs1 → W p l e R s m args below meth c H1 locs1 cells slots Q (F0 m (pc + 3) ls rest)) : W p l e R s m args below meth c H locs cells slots Q (F0 m pc ls (v :: .ref a :: rest)) :=
  va_putF K.1 K.2.1 K.2.2.2.2 hL.2.1 ty hL.2.2.1 hL.2.2.2 K.2.2.2.1 hK.1 hP hD hS q0 he hL.1 k hk (K.2.2.2.2 _ hlink) (fun _ h => h) hfin hin hdecl (hL.2.2.1 k hk) hn hfit hl hdg kk
theorem fq_ald (K : fq_Ctx p m c cc nL s args own) (hK : fq_K D cI cO s) (hP : va_P D fq_cl ws H) (q0 : Nat) {n : Nat} {f : Nat → Int32} (ha : ws[q0]? = some (a, .inl (cI, n, .inl f))) {i : Int32} (hin : vp_in i n) (hdg : decode cc pc = .ok (.iaload, 1))
    (kk : W p l e R s m args below meth c H locs cells slots Q (F0 m (pc + 1) ls (.int (f i.toNatClampNeg) :: rest))) : W p l e R s m args below meth c H locs cells slots Q (F0 m pc ls (.int i :: .ref a :: rest)) :=
  va_iald K.1 K.2.1 hK.1 hP q0 0 ha rfl hin hdg kk
theorem fq_ast (K : fq_Ctx p m c cc nL s args own) (hK : fq_K D cI cO s) (hP : va_P D fq_cl ws H) (hD : va_D A ws) (hS : va_S A s.heap H locs) (q0 : Nat) {n : Nat} {f : Nat → Int32} (ha : ws[q0]? = some (a, .inl (cI, n, .inl f))) {i x : Int32} (hin : vp_in i n) (hdg : decode cc pc = .ok (.iastore, 1))
    (kk : ∀ (H1 : Heap) (locs1 : List Loc), va_P D fq_cl (ws.set q0 (a, .inl (cI, n, .inl (upd f i.toNatClampNeg x)))) H1 → va_D A (ws.set q0 (a, .inl (cI, n, .inl (upd f i.toNatClampNeg x)))) → va_S A s.heap H1 locs1 → W p l e R s m args below meth c H1 locs1 cells slots Q (F0 m (pc + 1) ls rest)) : W p l e R s m args below meth c H locs cells slots Q (F0 m pc ls (.int x :: .int i :: .ref a :: rest)) :=
  va_iast K.1 K.2.1 hK.1 hP hD hS q0 0 ha rfl hin hdg kk
theorem fq_len (K : fq_Ctx p m c cc nL s args own) (hK : fq_K D cI cO s) (hP : va_P D fq_cl ws H) (q0 : Nat) {n : Nat} {f : Nat → Int32} (ha : ws[q0]? = some (a, .inl (cI, n, .inl f))) (hdg : decode cc pc = .ok (.arraylength, 1))
    (kk : W p l e R s m args below meth c H locs cells slots Q (F0 m (pc + 1) ls (.int (nI n) :: rest))) : W p l e R s m args below meth c H locs cells slots Q (F0 m pc ls (.ref a :: rest)) :=
  va_alen K.1 K.2.1 hK.1 hP q0 0 ha rfl rfl hdg kk
theorem fq_newI (K : fq_Ctx p m c cc nL s args own) (hK : fq_K D cI cO s) (harr : Cond.arrayClass .int ∈ fq_TB) (hP : va_P D fq_cl ws H) (hD : va_D A ws) (hS : va_S A s.heap H locs) (hA : ∀ q, s.heap.size ≤ q → A q) {i : Int32} (n : Nat) (hi : i = nI n) (hn : n < 100000) (h1 : cells + 1 ≤ R.cells) (h2 : slots + n ≤ R.slots) (hdg : decode cc pc = .ok (.newarray .int, 2))
    (kk : ∀ (q : Nat) (H1 : Heap), va_P D fq_cl (ws ++ [(q, .inl (cI, n, .inl (fun _ => 0)))]) H1 → va_D A (ws ++ [(q, .inl (cI, n, .inl (fun _ => 0)))]) → va_S A s.heap H1 locs → W p l e R s m args below meth c H1 locs (cells + 1) (slots + n) Q (F0 m (pc + 2) ls (.ref q :: rest))) : W p l e R s m args below meth c H locs cells slots Q (F0 m pc ls (.int i :: rest)) := by
  subst hi
  have hn2 : n < 2 ^ 31 := by omega
  refine va_newa (atype := .int) (ty := .int) (N' := n) (a0 := (n, .inl (fun _ => 0))) K.1 K.2.1 (K.2.2.2.2 _ harr) rfl hK.1 hP hD hS hA (fun _ => rfl) (nI_pos hn2) (nI_clamp hn2) (by show n * 4 ≤ _; omega) h1 h2 hdg (fun q cA H1 hK1 hP1 hD1 hS1 => ?_)
  have e1 := va_nm_int (hK1.2 2 (cA, .int) rfl).2
  have e2 := va_nm_int (hK.1.2 0 (cI, .int) rfl).2
  have e3 : cA = cI := Option.some.inj (e1.symm.trans e2)
  subst e3
  exact kk q H1 hP1 hD1 hS1
theorem fq_new (K : fq_Ctx p m c cc nL s args own) (hK : fq_K D cI cO s) (hL : fq_L ci C T N ty) (hcl : Cond.classLink own index C ∈ fq_TB) (hinst : Cond.instantiable C N ∈ fq_TB) (hini : Cond.initialized C ∈ fq_TB) (hP : va_P D fq_cl ws H) (hD : va_D A ws) (hS : va_S A s.heap H locs) (hA : ∀ q, s.heap.size ≤ q → A q) (hfs : ∀ j, j < N → defaultValue (ty j) = vp_V fs j) (h1 : cells + 1 ≤ R.cells) (h2 : slots + N ≤ R.slots) (hdg : decode cc pc = .ok (.new index, 3))
    (kk : ∀ (q : Nat) (H1 : Heap), va_P D fq_cl (ws ++ [(q, .inr (ci, fs))]) H1 → va_D A (ws ++ [(q, .inr (ci, fs))]) → va_S A s.heap H1 locs → W p l e R s m args below meth c H1 locs (cells + 1) (slots + N) Q (F0 m (pc + 3) ls (.ref q :: rest))) : W p l e R s m args below meth c H locs cells slots Q (F0 m pc ls rest) :=
  va_new K.1 K.2.1 K.2.2.2.2 hL.2.1 ty hL.2.2.1 K.2.2.2.1 (K.2.2.2.2 _ hcl) (K.2.2.2.2 _ hinst) (K.2.2.2.2 _ hini) hK.1 hP hD hS hA hL.1 hfs h1 h2 hdg kk
end FG
end
section
theorem wd_81 : Cond.lays cn_AL cn_AL "elementData" "[Ljava/lang/Object;" ∈ fq_TB := fq_in 81 (by decide +kernel) rfl
theorem wd_83 : Cond.lays cn_AL cn_AL "size" "I" ∈ fq_TB := fq_in 83 (by decide +kernel) rfl
theorem wd_85 : Cond.lays cn_AL cn_AbL "modCount" "I" ∈ fq_TB := fq_in 85 (by decide +kernel) rfl
theorem wd_97 : Cond.laysFinal cn_Row cn_Row "cells" "[I" ∈ fq_TB := fq_in 97 (by decide +kernel) rfl
theorem wd_99 : Cond.lays cn_Row cn_Row "first" "I" ∈ fq_TB := fq_in 99 (by decide +kernel) rfl
theorem wd_101 : Cond.lays cn_Row cn_Row "count" "I" ∈ fq_TB := fq_in 101 (by decide +kernel) rfl
theorem wd_108 : Cond.laysFinal cn_Chain cn_Chain "stages" "Ljava/util/ArrayList;" ∈ fq_TB := fq_in 108 (by decide +kernel) rfl
theorem wd_110 : Cond.laysFinal cn_Chain cn_Chain "passing" "LFilterPipe$Row;" ∈ fq_TB := fq_in 110 (by decide +kernel) rfl
theorem wd_112 : Cond.lays cn_Chain cn_Chain "resamplers" "I" ∈ fq_TB := fq_in 112 (by decide +kernel) rfl
theorem wd_131 : Cond.lays cn_Layout cn_Layout "width" "I" ∈ fq_TB := fq_in 131 (by decide +kernel) rfl
theorem wd_133 : Cond.lays cn_Layout cn_Layout "highFirst" "Z" ∈ fq_TB := fq_in 133 (by decide +kernel) rfl
theorem wd_145 : Cond.laysFinal cn_Source cn_Source "layout" "LFilterPipe$Layout;" ∈ fq_TB := fq_in 145 (by decide +kernel) rfl
theorem wd_147 : Cond.laysFinal cn_Source cn_Source "waitingBytes" "LFilterPipe$Row;" ∈ fq_TB := fq_in 147 (by decide +kernel) rfl
theorem wd_149 : Cond.lays cn_Source cn_Source "came" "I" ∈ fq_TB := fq_in 149 (by decide +kernel) rfl
theorem wd_151 : Cond.lays cn_Source cn_Source "closed" "Z" ∈ fq_TB := fq_in 151 (by decide +kernel) rfl
theorem wd_170 : Cond.laysFinal cn_Sink cn_Sink "layout" "LFilterPipe$Layout;" ∈ fq_TB := fq_in 170 (by decide +kernel) rfl
theorem wd_172 : Cond.laysFinal cn_Sink cn_Sink "samples" "LFilterPipe$Row;" ∈ fq_TB := fq_in 172 (by decide +kernel) rfl
theorem wd_189 : Cond.laysFinal cn_FP cn_FP "chain" "LFilterPipe$Chain;" ∈ fq_TB := fq_in 189 (by decide +kernel) rfl
theorem wd_191 : Cond.laysFinal cn_FP cn_FP "source" "LFilterPipe$Source;" ∈ fq_TB := fq_in 191 (by decide +kernel) rfl
theorem wd_193 : Cond.laysFinal cn_FP cn_FP "held" "LFilterPipe$Row;" ∈ fq_TB := fq_in 193 (by decide +kernel) rfl
theorem wd_195 : Cond.laysFinal cn_FP cn_FP "ring" "LFilterPipe$Row;" ∈ fq_TB := fq_in 195 (by decide +kernel) rfl
theorem wd_197 : Cond.laysFinal cn_FP cn_FP "sink" "LFilterPipe$Sink;" ∈ fq_TB := fq_in 197 (by decide +kernel) rfl
theorem wd_199 : Cond.lays cn_FP cn_FP "flushed" "Z" ∈ fq_TB := fq_in 199 (by decide +kernel) rfl
theorem wd_201 : Cond.lays cn_FP cn_FP "producerState" "I" ∈ fq_TB := fq_in 201 (by decide +kernel) rfl
theorem wd_203 : Cond.lays cn_FP cn_FP "consumerState" "I" ∈ fq_TB := fq_in 203 (by decide +kernel) rfl
theorem wd_251 : Cond.laysFinal cn_Section cn_Section "b0" "I" ∈ fq_TB := fq_in 251 (by decide +kernel) rfl
theorem wd_253 : Cond.laysFinal cn_Section cn_Section "b1" "I" ∈ fq_TB := fq_in 253 (by decide +kernel) rfl
theorem wd_255 : Cond.laysFinal cn_Section cn_Section "b2" "I" ∈ fq_TB := fq_in 255 (by decide +kernel) rfl
theorem wd_257 : Cond.laysFinal cn_Section cn_Section "a1" "I" ∈ fq_TB := fq_in 257 (by decide +kernel) rfl
theorem wd_259 : Cond.laysFinal cn_Section cn_Section "a2" "I" ∈ fq_TB := fq_in 259 (by decide +kernel) rfl
theorem wd_261 : Cond.lays cn_Section cn_Section "x0" "I" ∈ fq_TB := fq_in 261 (by decide +kernel) rfl
theorem wd_263 : Cond.lays cn_Section cn_Section "x1" "I" ∈ fq_TB := fq_in 263 (by decide +kernel) rfl
theorem wd_265 : Cond.lays cn_Section cn_Section "x2" "I" ∈ fq_TB := fq_in 265 (by decide +kernel) rfl
theorem wd_267 : Cond.lays cn_Section cn_Section "y1" "I" ∈ fq_TB := fq_in 267 (by decide +kernel) rfl
theorem wd_269 : Cond.lays cn_Section cn_Section "y2" "I" ∈ fq_TB := fq_in 269 (by decide +kernel) rfl
theorem wd_362 : Cond.laysFinal cn_Gain cn_Gain "factor" "I" ∈ fq_TB := fq_in 362 (by decide +kernel) rfl
theorem wd_364 : Cond.lays cn_Gain cn_Gain "latest" "I" ∈ fq_TB := fq_in 364 (by decide +kernel) rfl
theorem wd_385 : Cond.laysFinal cn_Recent cn_Recent "cells" "[I" ∈ fq_TB := fq_in 385 (by decide +kernel) rfl
theorem wd_387 : Cond.lays cn_Recent cn_Recent "count" "I" ∈ fq_TB := fq_in 387 (by decide +kernel) rfl
theorem wd_398 : Cond.laysFinal cn_Window cn_Window "weights" "[I" ∈ fq_TB := fq_in 398 (by decide +kernel) rfl
theorem wd_400 : Cond.laysFinal cn_Window cn_Window "total" "I" ∈ fq_TB := fq_in 400 (by decide +kernel) rfl
theorem wd_402 : Cond.laysFinal cn_Window cn_Window "recent" "LFilterPipe$Recent;" ∈ fq_TB := fq_in 402 (by decide +kernel) rfl
theorem wd_404 : Cond.lays cn_Window cn_Window "next" "I" ∈ fq_TB := fq_in 404 (by decide +kernel) rfl
theorem wd_435 : Cond.laysFinal cn_Resampler cn_Resampler "up" "I" ∈ fq_TB := fq_in 435 (by decide +kernel) rfl
theorem wd_437 : Cond.laysFinal cn_Resampler cn_Resampler "down" "I" ∈ fq_TB := fq_in 437 (by decide +kernel) rfl
theorem wd_439 : Cond.laysFinal cn_Resampler cn_Resampler "reach" "I" ∈ fq_TB := fq_in 439 (by decide +kernel) rfl
theorem wd_441 : Cond.laysFinal cn_Resampler cn_Resampler "recent" "LFilterPipe$Recent;" ∈ fq_TB := fq_in 441 (by decide +kernel) rfl
theorem wd_443 : Cond.lays cn_Resampler cn_Resampler "next" "I" ∈ fq_TB := fq_in 443 (by decide +kernel) rfl
theorem wd_793 : Cond.laysFinal cn_Mo cn_Mo "room" "I" ∈ fq_TB := fq_in 793 (by decide +kernel) rfl
theorem wd_795 : Cond.lays cn_Mo cn_Mo "started" "Z" ∈ fq_TB := fq_in 795 (by decide +kernel) rfl
theorem wd_797 : Cond.lays cn_Mo cn_Mo "stages" "I" ∈ fq_TB := fq_in 797 (by decide +kernel) rfl
theorem wd_799 : Cond.laysFinal cn_Mo cn_Mo "kind" "[I" ∈ fq_TB := fq_in 799 (by decide +kernel) rfl
theorem wd_801 : Cond.laysFinal cn_Mo cn_Mo "number" "[I" ∈ fq_TB := fq_in 801 (by decide +kernel) rfl
theorem wd_803 : Cond.lays cn_Mo cn_Mo "inWidth" "I" ∈ fq_TB := fq_in 803 (by decide +kernel) rfl
theorem wd_805 : Cond.lays cn_Mo cn_Mo "outWidth" "I" ∈ fq_TB := fq_in 805 (by decide +kernel) rfl
theorem wd_807 : Cond.lays cn_Mo cn_Mo "inHigh" "Z" ∈ fq_TB := fq_in 807 (by decide +kernel) rfl
theorem wd_809 : Cond.lays cn_Mo cn_Mo "outHigh" "Z" ∈ fq_TB := fq_in 809 (by decide +kernel) rfl
theorem wd_811 : Cond.laysFinal cn_Mo cn_Mo "bytesIn" "[I" ∈ fq_TB := fq_in 811 (by decide +kernel) rfl
theorem wd_813 : Cond.lays cn_Mo cn_Mo "came" "I" ∈ fq_TB := fq_in 813 (by decide +kernel) rfl
theorem wd_815 : Cond.lays cn_Mo cn_Mo "used" "I" ∈ fq_TB := fq_in 815 (by decide +kernel) rfl
theorem wd_817 : Cond.lays cn_Mo cn_Mo "closed" "Z" ∈ fq_TB := fq_in 817 (by decide +kernel) rfl
theorem wd_819 : Cond.lays cn_Mo cn_Mo "flushed" "Z" ∈ fq_TB := fq_in 819 (by decide +kernel) rfl
theorem wd_821 : Cond.laysFinal cn_Mo cn_Mo "samples" "[I" ∈ fq_TB := fq_in 821 (by decide +kernel) rfl
theorem wd_823 : Cond.lays cn_Mo cn_Mo "taken" "I" ∈ fq_TB := fq_in 823 (by decide +kernel) rfl
theorem wd_825 : Cond.laysFinal cn_Mo cn_Mo "line" "[I" ∈ fq_TB := fq_in 825 (by decide +kernel) rfl
theorem wd_827 : Cond.laysFinal cn_Mo cn_Mo "next" "[I" ∈ fq_TB := fq_in 827 (by decide +kernel) rfl
theorem wd_829 : Cond.lays cn_Mo cn_Mo "made" "I" ∈ fq_TB := fq_in 829 (by decide +kernel) rfl
theorem wd_831 : Cond.lays cn_Mo cn_Mo "given" "I" ∈ fq_TB := fq_in 831 (by decide +kernel) rfl
theorem wd_833 : Cond.lays cn_Mo cn_Mo "sunk" "I" ∈ fq_TB := fq_in 833 (by decide +kernel) rfl
theorem wd_835 : Cond.lays cn_Mo cn_Mo "producer" "I" ∈ fq_TB := fq_in 835 (by decide +kernel) rfl
theorem wd_837 : Cond.lays cn_Mo cn_Mo "consumer" "I" ∈ fq_TB := fq_in 837 (by decide +kernel) rfl
section FA
variable {p : Program} {l : Launch} {e : Env} {R : Room} {s : State} {m : MethodId} {args : Array Value} {below : List Frame} {meth : Method} {c : Code} {H : Heap} {locs : List Loc} {cells slots : Nat} {Q : State → Prop} {pc : Nat} {ls : Array Slot} {rest : List Value}
theorem fq_asi {x y : Int32} (h : x = y) (k : W p l e R s m args below meth c H locs cells slots Q (F0 m pc ls (.int y :: rest))) : W p l e R s m args below meth c H locs cells slots Q (F0 m pc ls (.int x :: rest)) := h ▸ k
theorem fq_asl {x y : Int64} (h : x = y) (k : W p l e R s m args below meth c H locs cells slots Q (F0 m pc ls (.long y :: rest))) : W p l e R s m args below meth c H locs cells slots Q (F0 m pc ls (.long x :: rest)) := h ▸ k
theorem fq_asv {x y : Value} (h : x = y) (k : W p l e R s m args below meth c H locs cells slots Q (F0 m pc ls (y :: rest))) : W p l e R s m args below meth c H locs cells slots Q (F0 m pc ls (x :: rest)) := h ▸ k
theorem fq_lp {σ : Type} {st : List Value} (μ : σ → Nat) (I : σ → Heap → List Loc → Array Slot → Prop)
    (hs : ∀ (x : σ) (H : Heap) (locs : List Loc) (ls : Array Slot), I x H locs ls → (∀ (x' : σ) (H' : Heap) (locs' : List Loc) (ls' : Array Slot), μ x' < μ x → I x' H' locs' ls' → W p l e R s m args below meth c H' locs' cells slots Q (F0 m pc ls' st)) → W p l e R s m args below meth c H locs cells slots Q (F0 m pc ls st)) :
    ∀ (x : σ) (H : Heap) (locs : List Loc) (ls : Array Slot), I x H locs ls → W p l e R s m args below meth c H locs cells slots Q (F0 m pc ls st) := by
  have key : ∀ (n : Nat) (x : σ) (H : Heap) (locs : List Loc) (ls : Array Slot), μ x < n → I x H locs ls → W p l e R s m args below meth c H locs cells slots Q (F0 m pc ls st) := by
    intro n
    induction n with
    | zero => intro x H locs ls h; exact absurd h (Nat.not_lt_zero _)
    | succ n ih => intro x H locs ls h hI; exact hs x H locs ls hI (fun x' H' locs' ls' h' hI' => ih x' H' locs' ls' (by omega) hI')
  intro x H locs ls hI
  exact key (μ x + 1) x H locs ls (Nat.lt_succ_self _) hI
end FA

theorem cl_Row : fq_L 0 cn_Row ft_Row 3 ty_Row := ⟨rfl, (List.forall_mem_cons.mpr ⟨wd_97, List.forall_mem_cons.mpr ⟨wd_99, List.forall_mem_cons.mpr ⟨wd_101, fun _ h => absurd h List.not_mem_nil⟩⟩⟩ : ∀ w ∈ ([Cond.laysFinal cn_Row cn_Row "cells" "[I", Cond.lays cn_Row cn_Row "first" "I", Cond.lays cn_Row cn_Row "count" "I"] : List Cond), w ∈ fq_TB), tk_Row, nm_Row⟩
theorem cl_Recent : fq_L 1 cn_Recent ft_Recent 2 ty_Recent := ⟨rfl, (List.forall_mem_cons.mpr ⟨wd_385, List.forall_mem_cons.mpr ⟨wd_387, fun _ h => absurd h List.not_mem_nil⟩⟩ : ∀ w ∈ ([Cond.laysFinal cn_Recent cn_Recent "cells" "[I", Cond.lays cn_Recent cn_Recent "count" "I"] : List Cond), w ∈ fq_TB), tk_Recent, nm_Recent⟩
theorem cl_Section : fq_L 2 cn_Section ft_Section 10 ty_Section := ⟨rfl, (List.forall_mem_cons.mpr ⟨wd_251, List.forall_mem_cons.mpr ⟨wd_253, List.forall_mem_cons.mpr ⟨wd_255, List.forall_mem_cons.mpr ⟨wd_257, List.forall_mem_cons.mpr ⟨wd_259, List.forall_mem_cons.mpr ⟨wd_261, List.forall_mem_cons.mpr ⟨wd_263, List.forall_mem_cons.mpr ⟨wd_265, List.forall_mem_cons.mpr ⟨wd_267, List.forall_mem_cons.mpr ⟨wd_269, fun _ h => absurd h List.not_mem_nil⟩⟩⟩⟩⟩⟩⟩⟩⟩⟩ : ∀ w ∈ ([Cond.laysFinal cn_Section cn_Section "b0" "I", Cond.laysFinal cn_Section cn_Section "b1" "I", Cond.laysFinal cn_Section cn_Section "b2" "I", Cond.laysFinal cn_Section cn_Section "a1" "I", Cond.laysFinal cn_Section cn_Section "a2" "I", Cond.lays cn_Section cn_Section "x0" "I", Cond.lays cn_Section cn_Section "x1" "I", Cond.lays cn_Section cn_Section "x2" "I", Cond.lays cn_Section cn_Section "y1" "I", Cond.lays cn_Section cn_Section "y2" "I"] : List Cond), w ∈ fq_TB), tk_Section, nm_Section⟩
theorem cl_Gain : fq_L 3 cn_Gain ft_Gain 2 ty_Gain := ⟨rfl, (List.forall_mem_cons.mpr ⟨wd_362, List.forall_mem_cons.mpr ⟨wd_364, fun _ h => absurd h List.not_mem_nil⟩⟩ : ∀ w ∈ ([Cond.laysFinal cn_Gain cn_Gain "factor" "I", Cond.lays cn_Gain cn_Gain "latest" "I"] : List Cond), w ∈ fq_TB), tk_Gain, nm_Gain⟩
theorem cl_Window : fq_L 4 cn_Window ft_Window 4 ty_Window := ⟨rfl, (List.forall_mem_cons.mpr ⟨wd_398, List.forall_mem_cons.mpr ⟨wd_400, List.forall_mem_cons.mpr ⟨wd_402, List.forall_mem_cons.mpr ⟨wd_404, fun _ h => absurd h List.not_mem_nil⟩⟩⟩⟩ : ∀ w ∈ ([Cond.laysFinal cn_Window cn_Window "weights" "[I", Cond.laysFinal cn_Window cn_Window "total" "I", Cond.laysFinal cn_Window cn_Window "recent" "LFilterPipe$Recent;", Cond.lays cn_Window cn_Window "next" "I"] : List Cond), w ∈ fq_TB), tk_Window, nm_Window⟩
theorem cl_Resampler : fq_L 5 cn_Resampler ft_Resampler 5 ty_Resampler := ⟨rfl, (List.forall_mem_cons.mpr ⟨wd_435, List.forall_mem_cons.mpr ⟨wd_437, List.forall_mem_cons.mpr ⟨wd_439, List.forall_mem_cons.mpr ⟨wd_441, List.forall_mem_cons.mpr ⟨wd_443, fun _ h => absurd h List.not_mem_nil⟩⟩⟩⟩⟩ : ∀ w ∈ ([Cond.laysFinal cn_Resampler cn_Resampler "up" "I", Cond.laysFinal cn_Resampler cn_Resampler "down" "I", Cond.laysFinal cn_Resampler cn_Resampler "reach" "I", Cond.laysFinal cn_Resampler cn_Resampler "recent" "LFilterPipe$Recent;", Cond.lays cn_Resampler cn_Resampler "next" "I"] : List Cond), w ∈ fq_TB), tk_Resampler, nm_Resampler⟩
theorem cl_Chain : fq_L 6 cn_Chain ft_Chain 3 ty_Chain := ⟨rfl, (List.forall_mem_cons.mpr ⟨wd_108, List.forall_mem_cons.mpr ⟨wd_110, List.forall_mem_cons.mpr ⟨wd_112, fun _ h => absurd h List.not_mem_nil⟩⟩⟩ : ∀ w ∈ ([Cond.laysFinal cn_Chain cn_Chain "stages" "Ljava/util/ArrayList;", Cond.laysFinal cn_Chain cn_Chain "passing" "LFilterPipe$Row;", Cond.lays cn_Chain cn_Chain "resamplers" "I"] : List Cond), w ∈ fq_TB), tk_Chain, nm_Chain⟩
theorem cl_Layout : fq_L 7 cn_Layout ft_Layout 2 ty_Layout := ⟨rfl, (List.forall_mem_cons.mpr ⟨wd_131, List.forall_mem_cons.mpr ⟨wd_133, fun _ h => absurd h List.not_mem_nil⟩⟩ : ∀ w ∈ ([Cond.lays cn_Layout cn_Layout "width" "I", Cond.lays cn_Layout cn_Layout "highFirst" "Z"] : List Cond), w ∈ fq_TB), tk_Layout, nm_Layout⟩
theorem cl_Source : fq_L 8 cn_Source ft_Source 4 ty_Source := ⟨rfl, (List.forall_mem_cons.mpr ⟨wd_145, List.forall_mem_cons.mpr ⟨wd_147, List.forall_mem_cons.mpr ⟨wd_149, List.forall_mem_cons.mpr ⟨wd_151, fun _ h => absurd h List.not_mem_nil⟩⟩⟩⟩ : ∀ w ∈ ([Cond.laysFinal cn_Source cn_Source "layout" "LFilterPipe$Layout;", Cond.laysFinal cn_Source cn_Source "waitingBytes" "LFilterPipe$Row;", Cond.lays cn_Source cn_Source "came" "I", Cond.lays cn_Source cn_Source "closed" "Z"] : List Cond), w ∈ fq_TB), tk_Source, nm_Source⟩
theorem cl_Sink : fq_L 9 cn_Sink ft_Sink 2 ty_Sink := ⟨rfl, (List.forall_mem_cons.mpr ⟨wd_170, List.forall_mem_cons.mpr ⟨wd_172, fun _ h => absurd h List.not_mem_nil⟩⟩ : ∀ w ∈ ([Cond.laysFinal cn_Sink cn_Sink "layout" "LFilterPipe$Layout;", Cond.laysFinal cn_Sink cn_Sink "samples" "LFilterPipe$Row;"] : List Cond), w ∈ fq_TB), tk_Sink, nm_Sink⟩
theorem cl_FP : fq_L 10 cn_FP ft_FP 8 ty_FP := ⟨rfl, (List.forall_mem_cons.mpr ⟨wd_189, List.forall_mem_cons.mpr ⟨wd_191, List.forall_mem_cons.mpr ⟨wd_193, List.forall_mem_cons.mpr ⟨wd_195, List.forall_mem_cons.mpr ⟨wd_197, List.forall_mem_cons.mpr ⟨wd_199, List.forall_mem_cons.mpr ⟨wd_201, List.forall_mem_cons.mpr ⟨wd_203, fun _ h => absurd h List.not_mem_nil⟩⟩⟩⟩⟩⟩⟩⟩ : ∀ w ∈ ([Cond.laysFinal cn_FP cn_FP "chain" "LFilterPipe$Chain;", Cond.laysFinal cn_FP cn_FP "source" "LFilterPipe$Source;", Cond.laysFinal cn_FP cn_FP "held" "LFilterPipe$Row;", Cond.laysFinal cn_FP cn_FP "ring" "LFilterPipe$Row;", Cond.laysFinal cn_FP cn_FP "sink" "LFilterPipe$Sink;", Cond.lays cn_FP cn_FP "flushed" "Z", Cond.lays cn_FP cn_FP "producerState" "I", Cond.lays cn_FP cn_FP "consumerState" "I"] : List Cond), w ∈ fq_TB), tk_FP, nm_FP⟩
theorem cl_AL : fq_L 11 cn_AL ft_AL 3 ty_AL := ⟨rfl, (List.forall_mem_cons.mpr ⟨wd_81, List.forall_mem_cons.mpr ⟨wd_83, List.forall_mem_cons.mpr ⟨wd_85, fun _ h => absurd h List.not_mem_nil⟩⟩⟩ : ∀ w ∈ ([Cond.lays cn_AL cn_AL "elementData" "[Ljava/lang/Object;", Cond.lays cn_AL cn_AL "size" "I", Cond.lays cn_AL cn_AbL "modCount" "I"] : List Cond), w ∈ fq_TB), tk_AL, nm_AL⟩
theorem cl_Mo : fq_L 12 cn_Mo ft_Mo 23 ty_Mo := ⟨rfl, (List.forall_mem_cons.mpr ⟨wd_793, List.forall_mem_cons.mpr ⟨wd_795, List.forall_mem_cons.mpr ⟨wd_797, List.forall_mem_cons.mpr ⟨wd_799, List.forall_mem_cons.mpr ⟨wd_801, List.forall_mem_cons.mpr ⟨wd_803, List.forall_mem_cons.mpr ⟨wd_805, List.forall_mem_cons.mpr ⟨wd_807, List.forall_mem_cons.mpr ⟨wd_809, List.forall_mem_cons.mpr ⟨wd_811, List.forall_mem_cons.mpr ⟨wd_813, List.forall_mem_cons.mpr ⟨wd_815, List.forall_mem_cons.mpr ⟨wd_817, List.forall_mem_cons.mpr ⟨wd_819, List.forall_mem_cons.mpr ⟨wd_821, List.forall_mem_cons.mpr ⟨wd_823, List.forall_mem_cons.mpr ⟨wd_825, List.forall_mem_cons.mpr ⟨wd_827, List.forall_mem_cons.mpr ⟨wd_829, List.forall_mem_cons.mpr ⟨wd_831, List.forall_mem_cons.mpr ⟨wd_833, List.forall_mem_cons.mpr ⟨wd_835, List.forall_mem_cons.mpr ⟨wd_837, fun _ h => absurd h List.not_mem_nil⟩⟩⟩⟩⟩⟩⟩⟩⟩⟩⟩⟩⟩⟩⟩⟩⟩⟩⟩⟩⟩⟩⟩ : ∀ w ∈ ([Cond.laysFinal cn_Mo cn_Mo "room" "I", Cond.lays cn_Mo cn_Mo "started" "Z", Cond.lays cn_Mo cn_Mo "stages" "I", Cond.laysFinal cn_Mo cn_Mo "kind" "[I", Cond.laysFinal cn_Mo cn_Mo "number" "[I", Cond.lays cn_Mo cn_Mo "inWidth" "I", Cond.lays cn_Mo cn_Mo "outWidth" "I", Cond.lays cn_Mo cn_Mo "inHigh" "Z", Cond.lays cn_Mo cn_Mo "outHigh" "Z", Cond.laysFinal cn_Mo cn_Mo "bytesIn" "[I", Cond.lays cn_Mo cn_Mo "came" "I", Cond.lays cn_Mo cn_Mo "used" "I", Cond.lays cn_Mo cn_Mo "closed" "Z", Cond.lays cn_Mo cn_Mo "flushed" "Z", Cond.laysFinal cn_Mo cn_Mo "samples" "[I", Cond.lays cn_Mo cn_Mo "taken" "I", Cond.laysFinal cn_Mo cn_Mo "line" "[I", Cond.laysFinal cn_Mo cn_Mo "next" "[I", Cond.lays cn_Mo cn_Mo "made" "I", Cond.lays cn_Mo cn_Mo "given" "I", Cond.lays cn_Mo cn_Mo "sunk" "I", Cond.lays cn_Mo cn_Mo "producer" "I", Cond.lays cn_Mo cn_Mo "consumer" "I"] : List Cond), w ∈ fq_TB), tk_Mo, nm_Mo⟩
end
section
theorem wd_31 : Cond.initialized cn_Row ∈ fq_TB := fq_in 31 (by decide +kernel) rfl
theorem wd_54 : Cond.instanceMethod my_Oj_init ∈ fq_TB := fq_in 54 (by decide +kernel) rfl
theorem wd_55 : Cond.code my_Oj_init cb_Oj_init 1 none ∈ fq_TB := fq_in 55 (by decide +kernel) rfl
theorem wd_91 : Cond.instanceMethod my_Row_init ∈ fq_TB := fq_in 91 (by decide +kernel) rfl
theorem wd_92 : Cond.code my_Row_init cb_Row_init 2 none ∈ fq_TB := fq_in 92 (by decide +kernel) rfl
theorem wd_93 : Cond.methodLink cn_Row 1 my_Oj_init ∈ fq_TB := fq_in 93 (by decide +kernel) rfl
theorem wd_94 : Cond.fieldLink cn_Row 7 cn_Row "cells" "[I" ∈ fq_TB := fq_in 94 (by decide +kernel) rfl
theorem wd_95 : Cond.fieldLink cn_Row 17 cn_Row "first" "I" ∈ fq_TB := fq_in 95 (by decide +kernel) rfl
theorem wd_96 : Cond.fieldLink cn_Row 13 cn_Row "count" "I" ∈ fq_TB := fq_in 96 (by decide +kernel) rfl
theorem wd_104 : Cond.arrayClass .int ∈ fq_TB := fq_in 104 (by decide +kernel) rfl
theorem wd_509 : Cond.instanceMethod my_Row_empty ∈ fq_TB := fq_in 509 (by decide +kernel) rfl
theorem wd_510 : Cond.selects cn_Row my_Row_empty my_Row_empty ∈ fq_TB := fq_in 510 (by decide +kernel) rfl
theorem wd_511 : Cond.code my_Row_empty cb_Row_empty 1 none ∈ fq_TB := fq_in 511 (by decide +kernel) rfl
theorem wd_554 : Cond.instanceMethod my_Row_add ∈ fq_TB := fq_in 554 (by decide +kernel) rfl
theorem wd_555 : Cond.selects cn_Row my_Row_add my_Row_add ∈ fq_TB := fq_in 555 (by decide +kernel) rfl
theorem wd_556 : Cond.code my_Row_add cb_Row_add 2 none ∈ fq_TB := fq_in 556 (by decide +kernel) rfl
theorem wd_557 : Cond.methodLink cn_Row 20 my_Row_hasRoom ∈ fq_TB := fq_in 557 (by decide +kernel) rfl
theorem wd_558 : Cond.instanceMethod my_Row_hasRoom ∈ fq_TB := fq_in 558 (by decide +kernel) rfl
theorem wd_559 : Cond.selects cn_Row my_Row_hasRoom my_Row_hasRoom ∈ fq_TB := fq_in 559 (by decide +kernel) rfl
theorem wd_560 : Cond.code my_Row_hasRoom cb_Row_hasRoom 1 (some .boolean) ∈ fq_TB := fq_in 560 (by decide +kernel) rfl
theorem wd_574 : Cond.instanceMethod my_Row_size ∈ fq_TB := fq_in 574 (by decide +kernel) rfl
theorem wd_575 : Cond.selects cn_Row my_Row_size my_Row_size ∈ fq_TB := fq_in 575 (by decide +kernel) rfl
theorem wd_576 : Cond.code my_Row_size cb_Row_size 1 (some .int) ∈ fq_TB := fq_in 576 (by decide +kernel) rfl
theorem wd_583 : Cond.instanceMethod my_Row_takeOldest ∈ fq_TB := fq_in 583 (by decide +kernel) rfl
theorem wd_584 : Cond.selects cn_Row my_Row_takeOldest my_Row_takeOldest ∈ fq_TB := fq_in 584 (by decide +kernel) rfl
theorem wd_585 : Cond.code my_Row_takeOldest cb_Row_takeOldest 2 (some .int) ∈ fq_TB := fq_in 585 (by decide +kernel) rfl
theorem wd_737 : Cond.instanceMethod my_Row_get ∈ fq_TB := fq_in 737 (by decide +kernel) rfl
theorem wd_738 : Cond.selects cn_Row my_Row_get my_Row_get ∈ fq_TB := fq_in 738 (by decide +kernel) rfl
theorem wd_739 : Cond.code my_Row_get cb_Row_get 2 (some .int) ∈ fq_TB := fq_in 739 (by decide +kernel) rfl
/-! A row of numbers in a ring of n places, from place i on. -/
theorem rw_md {a n : Nat} (h : a < 2 * n) : a % n = if a < n then a else a - n := by
  split
  · exact Nat.mod_eq_of_lt (by assumption)
  · rw [Nat.mod_eq_sub_mod (by omega)]
    exact Nat.mod_eq_of_lt (by omega)
def rw_ok (n : Nat) (f : Nat → Int32) (i : Nat) (L : List Int32) : Prop := 0 < n ∧ n ≤ 5000 ∧ i < n ∧ L.length ≤ n ∧ ∀ k, k < L.length → f ((i + k) % n) = L.getD k 0
theorem rw_nil {n : Nat} {f : Nat → Int32} (h0 : 0 < n) (h : n ≤ 5000) : rw_ok n f 0 [] := ⟨h0, h, h0, Nat.zero_le _, fun k hk => absurd hk (Nat.not_lt_zero k)⟩
theorem rw_add {n : Nat} {f : Nat → Int32} {i : Nat} {L : List Int32} {x : Int32} (h : rw_ok n f i L) (hr : L.length < n) : rw_ok n (upd f ((i + L.length) % n) x) i (L ++ [x]) := by
  obtain ⟨h0, h1, h2, h3, h4⟩ := h
  refine ⟨h0, h1, h2, by simp; omega, fun k hk => ?_⟩
  simp at hk
  by_cases e : k = L.length
  · subst e
    rw [pk_us]
    simp [List.getD_eq_getElem?_getD]
  · rw [pk_un, h4 k (by omega)]
    · simp only [List.getD_eq_getElem?_getD]
      rw [List.getElem?_append_left (by omega)]
    · rw [rw_md (by omega), rw_md (by omega)]
      split <;> split <;> omega
theorem rw_hd {n : Nat} {f : Nat → Int32} {i : Nat} {L : List Int32} {x : Int32} (h : rw_ok n f i (x :: L)) : f i = x ∧ rw_ok n f ((i + 1) % n) L := by
  obtain ⟨h0, h1, h2, h3, h4⟩ := h
  simp at h3
  refine ⟨?_, h0, h1, Nat.mod_lt _ h0, by omega, fun k hk => ?_⟩
  · have h := h4 0 (by simp)
    rw [Nat.add_zero, Nat.mod_eq_of_lt h2] at h
    exact h
  · have h := h4 (k + 1) (by simp; omega)
    rw [show ((i + 1) % n + k) % n = (i + (k + 1)) % n by rw [Nat.mod_add_mod]; congr 1; omega, h]
    rfl

def rw_put (n : Nat) (L : List Int32) (x : Int32) : List Int32 := if L.length < n then L ++ [x] else L
theorem rw_put_lt {n : Nat} {L : List Int32} {x : Int32} (h : L.length < n) : rw_put n L x = L ++ [x] := if_pos h
theorem rw_put_ge {n : Nat} {L : List Int32} {x : Int32} (h : ¬ L.length < n) : rw_put n L x = L := if_neg h
def rw_get (L : List Int32) (x : Int32) : Int32 := if x < 0 then 0 else L.getD x.toNatClampNeg 0
theorem rw_getN {L : List Int32} {k : Nat} (h : k < 2 ^ 31) : rw_get L (nI k) = L.getD k 0 := by rw [rw_get, if_neg (nI_pos h), nI_clamp h]
theorem rw_get0 {L : List Int32} {x : Int32} (hL : L.length < 2 ^ 31) (h : x < 0 ∨ ¬ x < nI L.length) : (0 : Int32) = rw_get L x := by
  unfold rw_get
  split
  · rfl
  · rename_i hx
    obtain ⟨k, hk, rfl⟩ := nI_of hx
    rcases h with h | h
    · exact absurd h hx
    · rw [nI_ltI hk hL] at h
      rw [nI_clamp hk, List.getD_eq_getElem?_getD, List.getElem?_eq_none (by omega)]
      rfl
theorem rw_tl {n : Nat} {f : Nat → Int32} {i : Nat} {L : List Int32} (h : rw_ok n f i L) (hL : 0 < L.length) : f i = L.headD 0 ∧ rw_ok n f ((i + 1) % n) L.tail ∧ nI L.length - 1 = nI L.tail.length := by
  cases L with
  | nil => exact absurd hL (Nat.lt_irrefl 0)
  | cons x L => exact ⟨(rw_hd h).1, (rw_hd h).2, nI_pred _⟩

theorem dc_Row_init_0 : decode cb_Row_init 0 = .ok (.aload_n 0, 1) := by decide +kernel
theorem dc_Row_init_1 : decode cb_Row_init 1 = .ok (.invokespecial 1, 3) := by decide +kernel
theorem dc_Row_init_4 : decode cb_Row_init 4 = .ok (.aload_n 0, 1) := by decide +kernel
theorem dc_Row_init_5 : decode cb_Row_init 5 = .ok (.iload_n 1, 1) := by decide +kernel
theorem dc_Row_init_6 : decode cb_Row_init 6 = .ok (.newarray .int, 2) := by decide +kernel
theorem dc_Row_init_8 : decode cb_Row_init 8 = .ok (.putfield 7, 3) := by decide +kernel
theorem dc_Row_init_11 : decode cb_Row_init 11 = .ok (.return_, 1) := by decide +kernel
theorem yk_Row_init : fq_Y my_Row_init cb_Row_init 2 none 1 := ⟨wd_92, wd_31, by decide +kernel⟩
theorem dc_Row_size_0 : decode cb_Row_size 0 = .ok (.aload_n 0, 1) := by decide +kernel
theorem dc_Row_size_1 : decode cb_Row_size 1 = .ok (.getfield 13, 3) := by decide +kernel
theorem dc_Row_size_4 : decode cb_Row_size 4 = .ok (.ireturn, 1) := by decide +kernel
theorem yk_Row_size : fq_Y my_Row_size cb_Row_size 1 (some .int) 0 := ⟨wd_576, wd_31, by decide +kernel⟩
theorem dc_Row_hasRoom_0 : decode cb_Row_hasRoom 0 = .ok (.aload_n 0, 1) := by decide +kernel
theorem dc_Row_hasRoom_1 : decode cb_Row_hasRoom 1 = .ok (.getfield 13, 3) := by decide +kernel
theorem dc_Row_hasRoom_4 : decode cb_Row_hasRoom 4 = .ok (.aload_n 0, 1) := by decide +kernel
theorem dc_Row_hasRoom_5 : decode cb_Row_hasRoom 5 = .ok (.getfield 7, 3) := by decide +kernel
theorem dc_Row_hasRoom_8 : decode cb_Row_hasRoom 8 = .ok (.arraylength, 1) := by decide +kernel
theorem dc_Row_hasRoom_9 : decode cb_Row_hasRoom 9 = .ok (.if_icmp .ge 7, 3) := by decide +kernel
theorem dc_Row_hasRoom_12 : decode cb_Row_hasRoom 12 = .ok (.iconst 1, 1) := by decide +kernel
theorem dc_Row_hasRoom_13 : decode cb_Row_hasRoom 13 = .ok (.goto 4, 3) := by decide +kernel
theorem dc_Row_hasRoom_16 : decode cb_Row_hasRoom 16 = .ok (.iconst 0, 1) := by decide +kernel
theorem dc_Row_hasRoom_17 : decode cb_Row_hasRoom 17 = .ok (.ireturn, 1) := by decide +kernel
theorem yk_Row_hasRoom : fq_Y my_Row_hasRoom cb_Row_hasRoom 1 (some .boolean) 0 := ⟨wd_560, wd_31, by decide +kernel⟩
theorem dc_Row_empty_0 : decode cb_Row_empty 0 = .ok (.aload_n 0, 1) := by decide +kernel
theorem dc_Row_empty_1 : decode cb_Row_empty 1 = .ok (.iconst 0, 1) := by decide +kernel
theorem dc_Row_empty_2 : decode cb_Row_empty 2 = .ok (.putfield 17, 3) := by decide +kernel
theorem dc_Row_empty_5 : decode cb_Row_empty 5 = .ok (.aload_n 0, 1) := by decide +kernel
theorem dc_Row_empty_6 : decode cb_Row_empty 6 = .ok (.iconst 0, 1) := by decide +kernel
theorem dc_Row_empty_7 : decode cb_Row_empty 7 = .ok (.putfield 13, 3) := by decide +kernel
theorem dc_Row_empty_10 : decode cb_Row_empty 10 = .ok (.return_, 1) := by decide +kernel
theorem yk_Row_empty : fq_Y my_Row_empty cb_Row_empty 1 none 0 := ⟨wd_511, wd_31, by decide +kernel⟩
theorem dc_Row_add_0 : decode cb_Row_add 0 = .ok (.aload_n 0, 1) := by decide +kernel
theorem dc_Row_add_1 : decode cb_Row_add 1 = .ok (.invokevirtual 20, 3) := by decide +kernel
theorem dc_Row_add_4 : decode cb_Row_add 4 = .ok (.ifCond .eq 34, 3) := by decide +kernel
theorem dc_Row_add_7 : decode cb_Row_add 7 = .ok (.aload_n 0, 1) := by decide +kernel
theorem dc_Row_add_8 : decode cb_Row_add 8 = .ok (.getfield 7, 3) := by decide +kernel
theorem dc_Row_add_11 : decode cb_Row_add 11 = .ok (.aload_n 0, 1) := by decide +kernel
theorem dc_Row_add_12 : decode cb_Row_add 12 = .ok (.getfield 17, 3) := by decide +kernel
theorem dc_Row_add_15 : decode cb_Row_add 15 = .ok (.aload_n 0, 1) := by decide +kernel
theorem dc_Row_add_16 : decode cb_Row_add 16 = .ok (.getfield 13, 3) := by decide +kernel
theorem dc_Row_add_19 : decode cb_Row_add 19 = .ok (.iadd, 1) := by decide +kernel
theorem dc_Row_add_20 : decode cb_Row_add 20 = .ok (.aload_n 0, 1) := by decide +kernel
theorem dc_Row_add_21 : decode cb_Row_add 21 = .ok (.getfield 7, 3) := by decide +kernel
theorem dc_Row_add_24 : decode cb_Row_add 24 = .ok (.arraylength, 1) := by decide +kernel
theorem dc_Row_add_25 : decode cb_Row_add 25 = .ok (.irem, 1) := by decide +kernel
theorem dc_Row_add_26 : decode cb_Row_add 26 = .ok (.iload_n 1, 1) := by decide +kernel
theorem dc_Row_add_27 : decode cb_Row_add 27 = .ok (.iastore, 1) := by decide +kernel
theorem dc_Row_add_28 : decode cb_Row_add 28 = .ok (.aload_n 0, 1) := by decide +kernel
theorem dc_Row_add_29 : decode cb_Row_add 29 = .ok (.dup, 1) := by decide +kernel
theorem dc_Row_add_30 : decode cb_Row_add 30 = .ok (.getfield 13, 3) := by decide +kernel
theorem dc_Row_add_33 : decode cb_Row_add 33 = .ok (.iconst 1, 1) := by decide +kernel
theorem dc_Row_add_34 : decode cb_Row_add 34 = .ok (.iadd, 1) := by decide +kernel
theorem dc_Row_add_35 : decode cb_Row_add 35 = .ok (.putfield 13, 3) := by decide +kernel
theorem dc_Row_add_38 : decode cb_Row_add 38 = .ok (.return_, 1) := by decide +kernel
theorem yk_Row_add : fq_Y my_Row_add cb_Row_add 2 none 1 := ⟨wd_556, wd_31, by decide +kernel⟩
theorem dc_Row_takeOldest_0 : decode cb_Row_takeOldest 0 = .ok (.aload_n 0, 1) := by decide +kernel
theorem dc_Row_takeOldest_1 : decode cb_Row_takeOldest 1 = .ok (.getfield 13, 3) := by decide +kernel
theorem dc_Row_takeOldest_4 : decode cb_Row_takeOldest 4 = .ok (.ifCond .ne 5, 3) := by decide +kernel
theorem dc_Row_takeOldest_7 : decode cb_Row_takeOldest 7 = .ok (.iconst 0, 1) := by decide +kernel
theorem dc_Row_takeOldest_8 : decode cb_Row_takeOldest 8 = .ok (.ireturn, 1) := by decide +kernel
theorem dc_Row_takeOldest_9 : decode cb_Row_takeOldest 9 = .ok (.aload_n 0, 1) := by decide +kernel
theorem dc_Row_takeOldest_10 : decode cb_Row_takeOldest 10 = .ok (.getfield 7, 3) := by decide +kernel
theorem dc_Row_takeOldest_13 : decode cb_Row_takeOldest 13 = .ok (.aload_n 0, 1) := by decide +kernel
theorem dc_Row_takeOldest_14 : decode cb_Row_takeOldest 14 = .ok (.getfield 17, 3) := by decide +kernel
theorem dc_Row_takeOldest_17 : decode cb_Row_takeOldest 17 = .ok (.iaload, 1) := by decide +kernel
theorem dc_Row_takeOldest_18 : decode cb_Row_takeOldest 18 = .ok (.istore_n 1, 1) := by decide +kernel
theorem dc_Row_takeOldest_19 : decode cb_Row_takeOldest 19 = .ok (.aload_n 0, 1) := by decide +kernel
theorem dc_Row_takeOldest_20 : decode cb_Row_takeOldest 20 = .ok (.aload_n 0, 1) := by decide +kernel
theorem dc_Row_takeOldest_21 : decode cb_Row_takeOldest 21 = .ok (.getfield 17, 3) := by decide +kernel
theorem dc_Row_takeOldest_24 : decode cb_Row_takeOldest 24 = .ok (.iconst 1, 1) := by decide +kernel
theorem dc_Row_takeOldest_25 : decode cb_Row_takeOldest 25 = .ok (.iadd, 1) := by decide +kernel
theorem dc_Row_takeOldest_26 : decode cb_Row_takeOldest 26 = .ok (.aload_n 0, 1) := by decide +kernel
theorem dc_Row_takeOldest_27 : decode cb_Row_takeOldest 27 = .ok (.getfield 7, 3) := by decide +kernel
theorem dc_Row_takeOldest_30 : decode cb_Row_takeOldest 30 = .ok (.arraylength, 1) := by decide +kernel
theorem dc_Row_takeOldest_31 : decode cb_Row_takeOldest 31 = .ok (.irem, 1) := by decide +kernel
theorem dc_Row_takeOldest_32 : decode cb_Row_takeOldest 32 = .ok (.putfield 17, 3) := by decide +kernel
theorem dc_Row_takeOldest_35 : decode cb_Row_takeOldest 35 = .ok (.aload_n 0, 1) := by decide +kernel
theorem dc_Row_takeOldest_36 : decode cb_Row_takeOldest 36 = .ok (.dup, 1) := by decide +kernel
theorem dc_Row_takeOldest_37 : decode cb_Row_takeOldest 37 = .ok (.getfield 13, 3) := by decide +kernel
theorem dc_Row_takeOldest_40 : decode cb_Row_takeOldest 40 = .ok (.iconst 1, 1) := by decide +kernel
theorem dc_Row_takeOldest_41 : decode cb_Row_takeOldest 41 = .ok (.isub, 1) := by decide +kernel
theorem dc_Row_takeOldest_42 : decode cb_Row_takeOldest 42 = .ok (.putfield 13, 3) := by decide +kernel
theorem dc_Row_takeOldest_45 : decode cb_Row_takeOldest 45 = .ok (.iload_n 1, 1) := by decide +kernel
theorem dc_Row_takeOldest_46 : decode cb_Row_takeOldest 46 = .ok (.ireturn, 1) := by decide +kernel
theorem yk_Row_takeOldest : fq_Y my_Row_takeOldest cb_Row_takeOldest 2 (some .int) 0 := ⟨wd_585, wd_31, by decide +kernel⟩
theorem dc_Row_get_0 : decode cb_Row_get 0 = .ok (.iload_n 1, 1) := by decide +kernel
theorem dc_Row_get_1 : decode cb_Row_get 1 = .ok (.ifCond .lt 11, 3) := by decide +kernel
theorem dc_Row_get_4 : decode cb_Row_get 4 = .ok (.iload_n 1, 1) := by decide +kernel
theorem dc_Row_get_5 : decode cb_Row_get 5 = .ok (.aload_n 0, 1) := by decide +kernel
theorem dc_Row_get_6 : decode cb_Row_get 6 = .ok (.getfield 13, 3) := by decide +kernel
theorem dc_Row_get_9 : decode cb_Row_get 9 = .ok (.if_icmp .lt 7, 3) := by decide +kernel
theorem dc_Row_get_12 : decode cb_Row_get 12 = .ok (.iconst 0, 1) := by decide +kernel
theorem dc_Row_get_13 : decode cb_Row_get 13 = .ok (.goto 20, 3) := by decide +kernel
theorem dc_Row_get_16 : decode cb_Row_get 16 = .ok (.aload_n 0, 1) := by decide +kernel
theorem dc_Row_get_17 : decode cb_Row_get 17 = .ok (.getfield 7, 3) := by decide +kernel
theorem dc_Row_get_20 : decode cb_Row_get 20 = .ok (.aload_n 0, 1) := by decide +kernel
theorem dc_Row_get_21 : decode cb_Row_get 21 = .ok (.getfield 17, 3) := by decide +kernel
theorem dc_Row_get_24 : decode cb_Row_get 24 = .ok (.iload_n 1, 1) := by decide +kernel
theorem dc_Row_get_25 : decode cb_Row_get 25 = .ok (.iadd, 1) := by decide +kernel
theorem dc_Row_get_26 : decode cb_Row_get 26 = .ok (.aload_n 0, 1) := by decide +kernel
theorem dc_Row_get_27 : decode cb_Row_get 27 = .ok (.getfield 7, 3) := by decide +kernel
theorem dc_Row_get_30 : decode cb_Row_get 30 = .ok (.arraylength, 1) := by decide +kernel
theorem dc_Row_get_31 : decode cb_Row_get 31 = .ok (.irem, 1) := by decide +kernel
theorem dc_Row_get_32 : decode cb_Row_get 32 = .ok (.iaload, 1) := by decide +kernel
theorem dc_Row_get_33 : decode cb_Row_get 33 = .ok (.ireturn, 1) := by decide +kernel
theorem yk_Row_get : fq_Y my_Row_get cb_Row_get 2 (some .int) 1 := ⟨wd_739, wd_31, by decide +kernel⟩
set_option maxHeartbeats 4000000 in
set_option maxRecDepth 100000 in
theorem ct_Row_init (l : Launch) (D : va_G) (cI cO : ClassId) (tE : Nat) (h n : Nat) (hn : n ≤ 5000) (sz : Nat) : Met l my_Row_init (fq_w my_Row_init cb_Row_init 2 none) ({ frames := 1, cells := 1, slots := n, locals := 12 }) (va_Pc ([.ref h, .int (nI n)]) (fq_Pre D cI cO tE sz ([(h, .inr (0, [.null, .int 0, .int 0]))]))) (va_Qv (S := va_W) (fun w => ∃ q : Nat, w = [(h, .inr (0, [.ref q, .int 0, .int 0])), (q, .inl (cI, n, .inl (fun _ => 0)))]) (fq_Bw D (va_A ([(h, .inr (0, [.null, .int 0, .int 0]))]) sz)) (va_A ([(h, .inr (0, [.null, .int 0, .int 0]))]) sz)) (1) (n) (va_A ([(h, .inr (0, [.null, .int 0, .int 0]))]) sz) := by
  refine fq_open (by decide +kernel) (Nat.le_of_ble_eq_true rfl) ?_
  intro pg ev s mt below meth cd ls K hret hlk hin hK hZ hP hD hA hS hl
  generalize va_A ([(h, .inr (0, [.null, .int 0, .int 0]))]) sz = A at hZ hD hA hS ⊢
  have K : fq_Ctx pg mt cd cb_Row_init 2 s _ cn_Row := K
  have hin : meth.name = "<init>" := hin
  have hl : lv_has ls 2 [(0, .ref h), (1, .int (nI n))] := hl
  refine lv_aload_n K.1 K.2.1 dc_Row_init_0 rfl (lv_at hl 0 rfl) ?_
  refine W.objInit K.1 K.2.1 K.2.2.2.1 (K.2.2.2.2 _ wd_93) (K.2.2.2.2 _ wd_54) (K.2.2.2.2 _ wd_55) rfl (by rw [K.2.2.1]; exact hl.1) rfl dc_Row_init_1 (Nat.le_of_ble_eq_true rfl) (Nat.le_of_ble_eq_true rfl) ?_
  refine W.eq (g2 := F0 mt 4 ls []) rfl ?_
  refine lv_aload_n K.1 K.2.1 dc_Row_init_4 rfl (lv_at hl 0 rfl) ?_
  refine lv_iload_n K.1 K.2.1 dc_Row_init_5 rfl (lv_at hl 1 rfl) ?_
  refine fq_newI K hK wd_104 hP hD hS hA n rfl (by omega) (Nat.le_of_ble_eq_true rfl) (by show 0 + n ≤ n; omega) dc_Row_init_6 (fun q1 H hP hD hS => ?_)
  have hP : va_P D fq_cl ([(h, .inr (0, [.null, .int 0, .int 0])), (q1, .inl (cI, n, .inl (fun _ => 0)))]) _ := hP
  have hD : va_D A ([(h, .inr (0, [.null, .int 0, .int 0])), (q1, .inl (cI, n, .inl (fun _ => 0)))]) := hD
  refine fq_putF K hK cl_Row hP hD hS hin 0 0 rfl (by decide) wd_94 rfl rfl rfl rfl (Nat.le_of_ble_eq_true rfl) dc_Row_init_8 (fun H locs hP hD hS => ?_)
  have hP : va_P D fq_cl ([(h, .inr (0, [.ref q1, .int 0, .int 0])), (q1, .inl (cI, n, .inl (fun _ => 0)))]) _ := hP
  have hD : va_D A ([(h, .inr (0, [.ref q1, .int 0, .int 0])), (q1, .inl (cI, n, .inl (fun _ => 0)))]) := hD
  exact fq_retv K hret hlk hS hP hD ⟨_, rfl⟩ dc_Row_init_11 (Nat.le_of_ble_eq_true rfl) (by omega)
set_option maxHeartbeats 4000000 in
set_option maxRecDepth 100000 in
theorem ct_Row_size (l : Launch) (D : va_G) (cI cO : ClassId) (tE : Nat) (h a n : Nat) (f : Nat → Int32) (i : Nat) (L : List Int32) (hrow : rw_ok n f i L) (sz : Nat) : Met l my_Row_size (fq_w my_Row_size cb_Row_size 1 (some .int)) ({ frames := 0, cells := 0, slots := 0, locals := 0 }) (va_Pc ([.ref h]) (fq_Pre D cI cO tE sz ([(h, .inr (0, [.ref a, .int (nI i), .int (nI L.length)])), (a, .inl (cI, n, .inl f))]))) (va_Qi (S := va_W) (fun r w => w = [(h, .inr (0, [.ref a, .int (nI i), .int (nI L.length)])), (a, .inl (cI, n, .inl f))] ∧ r = nI L.length) (fq_Bw D (va_A ([(h, .inr (0, [.ref a, .int (nI i), .int (nI L.length)])), (a, .inl (cI, n, .inl f))]) sz)) (va_A ([(h, .inr (0, [.ref a, .int (nI i), .int (nI L.length)])), (a, .inl (cI, n, .inl f))]) sz)) (0) (0) (va_A ([(h, .inr (0, [.ref a, .int (nI i), .int (nI L.length)])), (a, .inl (cI, n, .inl f))]) sz) := by
  refine fq_open (by decide +kernel) (Nat.le_of_ble_eq_true rfl) ?_
  intro pg ev s mt below meth cd ls K hret hlk hin hK hZ hP hD hA hS hl
  generalize va_A ([(h, .inr (0, [.ref a, .int (nI i), .int (nI L.length)])), (a, .inl (cI, n, .inl f))]) sz = A at hZ hD hA hS ⊢
  have K : fq_Ctx pg mt cd cb_Row_size 1 s _ cn_Row := K
  have hl : lv_has ls 1 [(0, .ref h)] := hl
  refine lv_aload_n K.1 K.2.1 dc_Row_size_0 rfl (lv_at hl 0 rfl) ?_
  refine fq_get K hK cl_Row hP 0 2 rfl (by decide) wd_96 rfl dc_Row_size_1 ?_
  exact fq_reti K hret hlk hS hP hD ⟨rfl, rfl⟩ dc_Row_size_4 (Nat.le_of_ble_eq_true rfl) (Nat.le_of_ble_eq_true rfl)
set_option maxHeartbeats 4000000 in
set_option maxRecDepth 100000 in
theorem ct_Row_hasRoom (l : Launch) (D : va_G) (cI cO : ClassId) (tE : Nat) (h a n : Nat) (f : Nat → Int32) (i : Nat) (L : List Int32) (hrow : rw_ok n f i L) (sz : Nat) : Met l my_Row_hasRoom (fq_w my_Row_hasRoom cb_Row_hasRoom 1 (some .boolean)) ({ frames := 0, cells := 0, slots := 0, locals := 0 }) (va_Pc ([.ref h]) (fq_Pre D cI cO tE sz ([(h, .inr (0, [.ref a, .int (nI i), .int (nI L.length)])), (a, .inl (cI, n, .inl f))]))) (va_Qi (S := va_W) (fun r w => w = [(h, .inr (0, [.ref a, .int (nI i), .int (nI L.length)])), (a, .inl (cI, n, .inl f))] ∧ r = if L.length < n then 1 else 0) (fq_Bw D (va_A ([(h, .inr (0, [.ref a, .int (nI i), .int (nI L.length)])), (a, .inl (cI, n, .inl f))]) sz)) (va_A ([(h, .inr (0, [.ref a, .int (nI i), .int (nI L.length)])), (a, .inl (cI, n, .inl f))]) sz)) (0) (0) (va_A ([(h, .inr (0, [.ref a, .int (nI i), .int (nI L.length)])), (a, .inl (cI, n, .inl f))]) sz) := by
  refine fq_open (by decide +kernel) (Nat.le_of_ble_eq_true rfl) ?_
  intro pg ev s mt below meth cd ls K hret hlk hin hK hZ hP hD hA hS hl
  generalize va_A ([(h, .inr (0, [.ref a, .int (nI i), .int (nI L.length)])), (a, .inl (cI, n, .inl f))]) sz = A at hZ hD hA hS ⊢
  have K : fq_Ctx pg mt cd cb_Row_hasRoom 1 s _ cn_Row := K
  have hl : lv_has ls 1 [(0, .ref h)] := hl
  obtain ⟨h0, h1, h2, h3, h4⟩ := id hrow
  refine lv_aload_n K.1 K.2.1 dc_Row_hasRoom_0 rfl (lv_at hl 0 rfl) ?_
  refine fq_get K hK cl_Row hP 0 2 rfl (by decide) wd_96 rfl dc_Row_hasRoom_1 ?_
  refine lv_aload_n K.1 K.2.1 dc_Row_hasRoom_4 rfl (lv_at hl 0 rfl) ?_
  refine fq_get K hK cl_Row hP 0 0 rfl (by decide) wd_94 rfl dc_Row_hasRoom_5 ?_
  refine fq_len K hK hP 1 rfl dc_Row_hasRoom_8 ?_
  refine lv_icmp_ge (tgt := 16) K.1 K.2.1 dc_Row_hasRoom_9 rfl (fun b9 => ?_) (fun b9 => ?_)
  · skip
    refine lv_iconst (v := 0) K.1 K.2.1 dc_Row_hasRoom_16 (by decide) ?_
    exact fq_retz K hret hlk hS hP hD (by first | exact Or.inl rfl | exact Or.inr rfl) ⟨rfl, by rw [nI_leI (by omega) (by omega)] at b9; first | rw [if_pos (by omega)] | rw [if_neg (by omega)]⟩ dc_Row_hasRoom_17 (Nat.le_of_ble_eq_true rfl) (Nat.le_of_ble_eq_true rfl)
  · skip
    refine lv_iconst (v := 1) K.1 K.2.1 dc_Row_hasRoom_12 (by decide) ?_
    refine lv_goto (tgt := 17) K.1 K.2.1 dc_Row_hasRoom_13 rfl ?_
    exact fq_retz K hret hlk hS hP hD (by first | exact Or.inl rfl | exact Or.inr rfl) ⟨rfl, by rw [nI_leI (by omega) (by omega)] at b9; first | rw [if_pos (by omega)] | rw [if_neg (by omega)]⟩ dc_Row_hasRoom_17 (Nat.le_of_ble_eq_true rfl) (Nat.le_of_ble_eq_true rfl)
set_option maxHeartbeats 4000000 in
set_option maxRecDepth 100000 in
theorem ct_Row_empty (l : Launch) (D : va_G) (cI cO : ClassId) (tE : Nat) (h a n : Nat) (f : Nat → Int32) (i : Nat) (L : List Int32)  (sz : Nat) : Met l my_Row_empty (fq_w my_Row_empty cb_Row_empty 1 none) ({ frames := 0, cells := 0, slots := 0, locals := 0 }) (va_Pc ([.ref h]) (fq_Pre D cI cO tE sz ([(h, .inr (0, [.ref a, .int (nI i), .int (nI L.length)])), (a, .inl (cI, n, .inl f))]))) (va_Qv (S := va_W) (fun w => w = [(h, .inr (0, [.ref a, .int 0, .int 0])), (a, .inl (cI, n, .inl f))]) (fq_Bw D (va_A ([(h, .inr (0, [.ref a, .int (nI i), .int (nI L.length)])), (a, .inl (cI, n, .inl f))]) sz)) (va_A ([(h, .inr (0, [.ref a, .int (nI i), .int (nI L.length)])), (a, .inl (cI, n, .inl f))]) sz)) (0) (0) (va_A ([(h, .inr (0, [.ref a, .int (nI i), .int (nI L.length)])), (a, .inl (cI, n, .inl f))]) sz) := by
  refine fq_open (by decide +kernel) (Nat.le_of_ble_eq_true rfl) ?_
  intro pg ev s mt below meth cd ls K hret hlk hin hK hZ hP hD hA hS hl
  generalize va_A ([(h, .inr (0, [.ref a, .int (nI i), .int (nI L.length)])), (a, .inl (cI, n, .inl f))]) sz = A at hZ hD hA hS ⊢
  have K : fq_Ctx pg mt cd cb_Row_empty 1 s _ cn_Row := K
  have hl : lv_has ls 1 [(0, .ref h)] := hl
  refine lv_aload_n K.1 K.2.1 dc_Row_empty_0 rfl (lv_at hl 0 rfl) ?_
  refine lv_iconst (v := 0) K.1 K.2.1 dc_Row_empty_1 (by decide) ?_
  refine fq_put K hK cl_Row hP hD hS 0 1 rfl (by decide) wd_95 rfl rfl rfl (Nat.le_of_ble_eq_true rfl) dc_Row_empty_2 (fun H locs hP hD hS => ?_)
  have hP : va_P D fq_cl ([(h, .inr (0, [.ref a, .int 0, .int (nI L.length)])), (a, .inl (cI, n, .inl f))]) _ := hP
  have hD : va_D A ([(h, .inr (0, [.ref a, .int 0, .int (nI L.length)])), (a, .inl (cI, n, .inl f))]) := hD
  refine lv_aload_n K.1 K.2.1 dc_Row_empty_5 rfl (lv_at hl 0 rfl) ?_
  refine lv_iconst (v := 0) K.1 K.2.1 dc_Row_empty_6 (by decide) ?_
  refine fq_put K hK cl_Row hP hD hS 0 2 rfl (by decide) wd_96 rfl rfl rfl (Nat.le_of_ble_eq_true rfl) dc_Row_empty_7 (fun H locs hP hD hS => ?_)
  have hP : va_P D fq_cl ([(h, .inr (0, [.ref a, .int 0, .int 0])), (a, .inl (cI, n, .inl f))]) _ := hP
  have hD : va_D A ([(h, .inr (0, [.ref a, .int 0, .int 0])), (a, .inl (cI, n, .inl f))]) := hD
  exact fq_retv K hret hlk hS hP hD rfl dc_Row_empty_10 (Nat.le_of_ble_eq_true rfl) (Nat.le_of_ble_eq_true rfl)
set_option maxHeartbeats 4000000 in
set_option maxRecDepth 100000 in
theorem ct_Row_add (l : Launch) (D : va_G) (cI cO : ClassId) (tE : Nat) (h a n : Nat) (f : Nat → Int32) (i : Nat) (L : List Int32) (x : Int32) (hrow : rw_ok n f i L) (sz : Nat) : Met l my_Row_add (fq_w my_Row_add cb_Row_add 2 none) ({ frames := 1, cells := 0, slots := 0, locals := 20 }) (va_Pc ([.ref h, .int x]) (fq_Pre D cI cO tE sz ([(h, .inr (0, [.ref a, .int (nI i), .int (nI L.length)])), (a, .inl (cI, n, .inl f))]))) (va_Qv (S := va_W) (fun w => ∃ g : Nat → Int32, w = [(h, .inr (0, [.ref a, .int (nI i), .int (nI (rw_put n L x).length)])), (a, .inl (cI, n, .inl g))] ∧ rw_ok n g i (rw_put n L x)) (fq_Bw D (va_A ([(h, .inr (0, [.ref a, .int (nI i), .int (nI L.length)])), (a, .inl (cI, n, .inl f))]) sz)) (va_A ([(h, .inr (0, [.ref a, .int (nI i), .int (nI L.length)])), (a, .inl (cI, n, .inl f))]) sz)) (0) (0) (va_A ([(h, .inr (0, [.ref a, .int (nI i), .int (nI L.length)])), (a, .inl (cI, n, .inl f))]) sz) := by
  refine fq_open (by decide +kernel) (Nat.le_of_ble_eq_true rfl) ?_
  intro pg ev s mt below meth cd ls K hret hlk hin hK hZ hP hD hA hS hl
  generalize va_A ([(h, .inr (0, [.ref a, .int (nI i), .int (nI L.length)])), (a, .inl (cI, n, .inl f))]) sz = A at hZ hD hA hS ⊢
  have K : fq_Ctx pg mt cd cb_Row_add 2 s _ cn_Row := K
  have hl : lv_has ls 2 [(0, .ref h), (1, .int x)] := hl
  obtain ⟨h0, h1, h2, h3, h4⟩ := id hrow
  refine lv_aload_n K.1 K.2.1 dc_Row_add_0 rfl (lv_at hl 0 rfl) ?_
  have hc := fq_cut.of (wc := [(h, .inr (0, [.ref a, .int (nI i), .int (nI L.length)])), (a, .inl (cI, n, .inl f))]) hP hD hS hA [0, 1] (by decide) rfl
  refine fq_ci (wr := []) (fq_rV K hK hZ hS hc (ct_Row_hasRoom l D cI cO tE h a n f i L (by first | assumption | omega) _) yk_Row_hasRoom wd_558 wd_559 wd_557 0 rfl rfl rfl ⟨⟨rfl, rfl⟩, ⟨Nat.le_of_ble_eq_true rfl, Nat.le_of_ble_eq_true rfl⟩, ⟨Nat.le_of_ble_eq_true rfl, Nat.le_of_ble_eq_true rfl⟩⟩ hl.1 rfl (Nat.le_of_ble_eq_true rfl) dc_Row_add_1) hP hD hS hc [0, 1] [] rfl rfl (by decide) (by decide) (fun r1 w H locs hw1 hP hD hS => ?_)
  obtain ⟨rfl, rfl⟩ := hw1
  have hP : va_P D fq_cl ([(h, .inr (0, [.ref a, .int (nI i), .int (nI L.length)])), (a, .inl (cI, n, .inl f))]) _ := hP
  have hD : va_D A ([(h, .inr (0, [.ref a, .int (nI i), .int (nI L.length)])), (a, .inl (cI, n, .inl f))]) := hD
  refine lv_if_eq (tgt := 38) K.1 K.2.1 dc_Row_add_4 rfl (fun b4 => ?_) (fun b4 => ?_)
  · skip
    have hlt : ¬ L.length < n := fun z => by rw [if_pos z] at b4; exact absurd b4 (by decide)
    exact fq_retv K hret hlk hS hP hD ⟨f, by rw [rw_put_ge hlt], by rw [rw_put_ge hlt]; exact hrow⟩ dc_Row_add_38 (Nat.le_of_ble_eq_true rfl) (Nat.le_of_ble_eq_true rfl)
  · skip
    have hlt : L.length < n := Decidable.not_not.mp (fun z => b4 (if_neg z))
    refine lv_aload_n K.1 K.2.1 dc_Row_add_7 rfl (lv_at hl 0 rfl) ?_
    refine fq_get K hK cl_Row hP 0 0 rfl (by decide) wd_94 rfl dc_Row_add_8 ?_
    refine lv_aload_n K.1 K.2.1 dc_Row_add_11 rfl (lv_at hl 0 rfl) ?_
    refine fq_get K hK cl_Row hP 0 1 rfl (by decide) wd_95 rfl dc_Row_add_12 ?_
    refine lv_aload_n K.1 K.2.1 dc_Row_add_15 rfl (lv_at hl 0 rfl) ?_
    refine fq_get K hK cl_Row hP 0 2 rfl (by decide) wd_96 rfl dc_Row_add_16 ?_
    refine lv_iadd K.1 K.2.1 dc_Row_add_19 ?_
    refine lv_aload_n K.1 K.2.1 dc_Row_add_20 rfl (lv_at hl 0 rfl) ?_
    refine fq_get K hK cl_Row hP 0 0 rfl (by decide) wd_94 rfl dc_Row_add_21 ?_
    refine fq_len K hK hP 1 rfl dc_Row_add_24 ?_
    refine lv_irem K.1 K.2.1 dc_Row_add_25 (nI_ne0 (by omega) (by omega)) ?_
    refine fq_asi (y := nI ((i + L.length) % n)) (by rw [nI_add]; exact pk_rem (by omega) (by omega) (by omega)) ?_
    refine lv_iload_n K.1 K.2.1 dc_Row_add_26 rfl (lv_at hl 1 rfl) ?_
    refine fq_ast K hK hP hD hS 1 rfl (vp_in_nI (Nat.mod_lt _ h0) (by omega)) dc_Row_add_27 (fun H locs hP hD hS => ?_)
    rw [nI_clamp (by have := Nat.mod_lt (i + L.length) h0; omega)] at hP hD
    have hP : va_P D fq_cl ([(h, .inr (0, [.ref a, .int (nI i), .int (nI L.length)])), (a, .inl (cI, n, .inl (upd f ((i + L.length) % n) x)))]) _ := hP
    have hD : va_D A ([(h, .inr (0, [.ref a, .int (nI i), .int (nI L.length)])), (a, .inl (cI, n, .inl (upd f ((i + L.length) % n) x)))]) := hD
    refine lv_aload_n K.1 K.2.1 dc_Row_add_28 rfl (lv_at hl 0 rfl) ?_
    refine lv_dup K.1 K.2.1 dc_Row_add_29 rfl ?_
    refine fq_get K hK cl_Row hP 0 2 rfl (by decide) wd_96 rfl dc_Row_add_30 ?_
    refine lv_iconst (v := 1) K.1 K.2.1 dc_Row_add_33 (by decide) ?_
    refine lv_iadd K.1 K.2.1 dc_Row_add_34 ?_
    refine fq_asi (y := nI (rw_put n L x).length) (by rw [rw_put_lt hlt, nI_1, List.length_append]; rfl) ?_
    refine fq_put K hK cl_Row hP hD hS 0 2 rfl (by decide) wd_96 rfl rfl rfl (Nat.le_of_ble_eq_true rfl) dc_Row_add_35 (fun H locs hP hD hS => ?_)
    have hP : va_P D fq_cl ([(h, .inr (0, [.ref a, .int (nI i), .int (nI (rw_put n L x).length)])), (a, .inl (cI, n, .inl (upd f ((i + L.length) % n) x)))]) _ := hP
    have hD : va_D A ([(h, .inr (0, [.ref a, .int (nI i), .int (nI (rw_put n L x).length)])), (a, .inl (cI, n, .inl (upd f ((i + L.length) % n) x)))]) := hD
    exact fq_retv K hret hlk hS hP hD ⟨_, rfl, by rw [rw_put_lt hlt]; exact rw_add hrow hlt⟩ dc_Row_add_38 (Nat.le_of_ble_eq_true rfl) (Nat.le_of_ble_eq_true rfl)
set_option maxHeartbeats 4000000 in
set_option maxRecDepth 100000 in
theorem ct_Row_takeOldest (l : Launch) (D : va_G) (cI cO : ClassId) (tE : Nat) (h a n : Nat) (f : Nat → Int32) (i : Nat) (L : List Int32) (hrow : rw_ok n f i L) (sz : Nat) : Met l my_Row_takeOldest (fq_w my_Row_takeOldest cb_Row_takeOldest 2 (some .int)) ({ frames := 0, cells := 0, slots := 0, locals := 0 }) (va_Pc ([.ref h]) (fq_Pre D cI cO tE sz ([(h, .inr (0, [.ref a, .int (nI i), .int (nI L.length)])), (a, .inl (cI, n, .inl f))]))) (va_Qi (S := va_W) (fun r w => ∃ j : Nat, w = [(h, .inr (0, [.ref a, .int (nI j), .int (nI L.tail.length)])), (a, .inl (cI, n, .inl f))] ∧ r = L.headD 0 ∧ rw_ok n f j L.tail) (fq_Bw D (va_A ([(h, .inr (0, [.ref a, .int (nI i), .int (nI L.length)])), (a, .inl (cI, n, .inl f))]) sz)) (va_A ([(h, .inr (0, [.ref a, .int (nI i), .int (nI L.length)])), (a, .inl (cI, n, .inl f))]) sz)) (0) (0) (va_A ([(h, .inr (0, [.ref a, .int (nI i), .int (nI L.length)])), (a, .inl (cI, n, .inl f))]) sz) := by
  refine fq_open (by decide +kernel) (Nat.le_of_ble_eq_true rfl) ?_
  intro pg ev s mt below meth cd ls K hret hlk hin hK hZ hP hD hA hS hl
  generalize va_A ([(h, .inr (0, [.ref a, .int (nI i), .int (nI L.length)])), (a, .inl (cI, n, .inl f))]) sz = A at hZ hD hA hS ⊢
  have K : fq_Ctx pg mt cd cb_Row_takeOldest 2 s _ cn_Row := K
  have hl : lv_has ls 2 [(0, .ref h)] := hl
  obtain ⟨h0, h1, h2, h3, h4⟩ := id hrow
  refine lv_aload_n K.1 K.2.1 dc_Row_takeOldest_0 rfl (lv_at hl 0 rfl) ?_
  refine fq_get K hK cl_Row hP 0 2 rfl (by decide) wd_96 rfl dc_Row_takeOldest_1 ?_
  refine lv_if_ne (tgt := 9) K.1 K.2.1 dc_Row_takeOldest_4 rfl (fun b4 => ?_) (fun b4 => ?_)
  · skip
    have hL : 0 < L.length := Nat.pos_of_ne_zero (fun z => b4 (by rw [z, nI_0]))
    obtain ⟨k1, k2, k3⟩ := rw_tl hrow hL
    refine lv_aload_n K.1 K.2.1 dc_Row_takeOldest_9 rfl (lv_at hl 0 rfl) ?_
    refine fq_get K hK cl_Row hP 0 0 rfl (by decide) wd_94 rfl dc_Row_takeOldest_10 ?_
    refine lv_aload_n K.1 K.2.1 dc_Row_takeOldest_13 rfl (lv_at hl 0 rfl) ?_
    refine fq_get K hK cl_Row hP 0 1 rfl (by decide) wd_95 rfl dc_Row_takeOldest_14 ?_
    refine fq_ald K hK hP 1 rfl (vp_in_nI h2 (by omega)) dc_Row_takeOldest_17 ?_
    refine fq_asi (y := f i) (by rw [nI_clamp (by omega)]) ?_
    refine lv_topi (fun v1 e_v1 => ?_)
    refine lv_istore_n K.1 K.2.1 dc_Row_takeOldest_18 rfl hl (by decide) rfl (fun ls hl => ?_)
    have hl : lv_has ls 2 [(1, .int v1), (0, .ref h)] := hl
    refine lv_aload_n K.1 K.2.1 dc_Row_takeOldest_19 rfl (lv_at hl 1 rfl) ?_
    refine lv_aload_n K.1 K.2.1 dc_Row_takeOldest_20 rfl (lv_at hl 1 rfl) ?_
    refine fq_get K hK cl_Row hP 0 1 rfl (by decide) wd_95 rfl dc_Row_takeOldest_21 ?_
    refine lv_iconst (v := 1) K.1 K.2.1 dc_Row_takeOldest_24 (by decide) ?_
    refine lv_iadd K.1 K.2.1 dc_Row_takeOldest_25 ?_
    refine lv_aload_n K.1 K.2.1 dc_Row_takeOldest_26 rfl (lv_at hl 1 rfl) ?_
    refine fq_get K hK cl_Row hP 0 0 rfl (by decide) wd_94 rfl dc_Row_takeOldest_27 ?_
    refine fq_len K hK hP 1 rfl dc_Row_takeOldest_30 ?_
    refine lv_irem K.1 K.2.1 dc_Row_takeOldest_31 (nI_ne0 (by omega) (by omega)) ?_
    refine fq_asi (y := nI ((i + 1) % n)) (by rw [nI_1]; exact pk_rem (by omega) (by omega) (by omega)) ?_
    refine fq_put K hK cl_Row hP hD hS 0 1 rfl (by decide) wd_95 rfl rfl rfl (Nat.le_of_ble_eq_true rfl) dc_Row_takeOldest_32 (fun H locs hP hD hS => ?_)
    have hP : va_P D fq_cl ([(h, .inr (0, [.ref a, .int (nI ((i + 1) % n)), .int (nI L.length)])), (a, .inl (cI, n, .inl f))]) _ := hP
    have hD : va_D A ([(h, .inr (0, [.ref a, .int (nI ((i + 1) % n)), .int (nI L.length)])), (a, .inl (cI, n, .inl f))]) := hD
    refine lv_aload_n K.1 K.2.1 dc_Row_takeOldest_35 rfl (lv_at hl 1 rfl) ?_
    refine lv_dup K.1 K.2.1 dc_Row_takeOldest_36 rfl ?_
    refine fq_get K hK cl_Row hP 0 2 rfl (by decide) wd_96 rfl dc_Row_takeOldest_37 ?_
    refine lv_iconst (v := 1) K.1 K.2.1 dc_Row_takeOldest_40 (by decide) ?_
    refine lv_isub K.1 K.2.1 dc_Row_takeOldest_41 ?_
    refine fq_asi (y := nI L.tail.length) (k3) ?_
    refine fq_put K hK cl_Row hP hD hS 0 2 rfl (by decide) wd_96 rfl rfl rfl (Nat.le_of_ble_eq_true rfl) dc_Row_takeOldest_42 (fun H locs hP hD hS => ?_)
    have hP : va_P D fq_cl ([(h, .inr (0, [.ref a, .int (nI ((i + 1) % n)), .int (nI L.tail.length)])), (a, .inl (cI, n, .inl f))]) _ := hP
    have hD : va_D A ([(h, .inr (0, [.ref a, .int (nI ((i + 1) % n)), .int (nI L.tail.length)])), (a, .inl (cI, n, .inl f))]) := hD
    refine lv_iload_n K.1 K.2.1 dc_Row_takeOldest_45 rfl (lv_at hl 0 rfl) ?_
    exact fq_reti K hret hlk hS hP hD ⟨_, rfl, e_v1.trans k1, k2⟩ dc_Row_takeOldest_46 (Nat.le_of_ble_eq_true rfl) (Nat.le_of_ble_eq_true rfl)
  · skip
    have hL : L = [] := List.eq_nil_of_length_eq_zero ((nI_eq (by omega) (by omega)).mp (b4.trans nI_0.symm))
    refine lv_iconst (v := 0) K.1 K.2.1 dc_Row_takeOldest_7 (by decide) ?_
    exact fq_reti K hret hlk hS hP hD ⟨i, by rw [hL]; rfl, by rw [hL]; rfl, by rw [hL] at hrow ⊢; exact hrow⟩ dc_Row_takeOldest_8 (Nat.le_of_ble_eq_true rfl) (Nat.le_of_ble_eq_true rfl)
set_option maxHeartbeats 4000000 in
set_option maxRecDepth 100000 in
theorem ct_Row_get (l : Launch) (D : va_G) (cI cO : ClassId) (tE : Nat) (h a n : Nat) (f : Nat → Int32) (i : Nat) (L : List Int32) (x : Int32) (hrow : rw_ok n f i L) (sz : Nat) : Met l my_Row_get (fq_w my_Row_get cb_Row_get 2 (some .int)) ({ frames := 0, cells := 0, slots := 0, locals := 0 }) (va_Pc ([.ref h, .int x]) (fq_Pre D cI cO tE sz ([(h, .inr (0, [.ref a, .int (nI i), .int (nI L.length)])), (a, .inl (cI, n, .inl f))]))) (va_Qi (S := va_W) (fun r w => w = [(h, .inr (0, [.ref a, .int (nI i), .int (nI L.length)])), (a, .inl (cI, n, .inl f))] ∧ r = rw_get L x) (fq_Bw D (va_A ([(h, .inr (0, [.ref a, .int (nI i), .int (nI L.length)])), (a, .inl (cI, n, .inl f))]) sz)) (va_A ([(h, .inr (0, [.ref a, .int (nI i), .int (nI L.length)])), (a, .inl (cI, n, .inl f))]) sz)) (0) (0) (va_A ([(h, .inr (0, [.ref a, .int (nI i), .int (nI L.length)])), (a, .inl (cI, n, .inl f))]) sz) := by
  refine fq_open (by decide +kernel) (Nat.le_of_ble_eq_true rfl) ?_
  intro pg ev s mt below meth cd ls K hret hlk hin hK hZ hP hD hA hS hl
  generalize va_A ([(h, .inr (0, [.ref a, .int (nI i), .int (nI L.length)])), (a, .inl (cI, n, .inl f))]) sz = A at hZ hD hA hS ⊢
  have K : fq_Ctx pg mt cd cb_Row_get 2 s _ cn_Row := K
  have hl : lv_has ls 2 [(0, .ref h), (1, .int x)] := hl
  obtain ⟨h0, h1, h2, h3, h4⟩ := id hrow
  refine lv_iload_n K.1 K.2.1 dc_Row_get_0 rfl (lv_at hl 1 rfl) ?_
  refine lv_if_lt (tgt := 12) K.1 K.2.1 dc_Row_get_1 rfl (fun b1 => ?_) (fun b1 => ?_)
  · skip
    refine lv_iconst (v := 0) K.1 K.2.1 dc_Row_get_12 (by decide) ?_
    refine lv_goto (tgt := 33) K.1 K.2.1 dc_Row_get_13 rfl ?_
    exact fq_reti K hret hlk hS hP hD ⟨rfl, rw_get0 (by omega) (by first | exact Or.inl b1 | exact Or.inr b9)⟩ dc_Row_get_33 (Nat.le_of_ble_eq_true rfl) (Nat.le_of_ble_eq_true rfl)
  · skip
    refine lv_iload_n K.1 K.2.1 dc_Row_get_4 rfl (lv_at hl 1 rfl) ?_
    refine lv_aload_n K.1 K.2.1 dc_Row_get_5 rfl (lv_at hl 0 rfl) ?_
    refine fq_get K hK cl_Row hP 0 2 rfl (by decide) wd_96 rfl dc_Row_get_6 ?_
    refine lv_icmp_lt (tgt := 16) K.1 K.2.1 dc_Row_get_9 rfl (fun b9 => ?_) (fun b9 => ?_)
    · skip
      obtain ⟨k, hk, hx⟩ := nI_of b1
      have hkl : k < L.length := (nI_ltI hk (by omega)).mp (hx ▸ b9)
      refine lv_aload_n K.1 K.2.1 dc_Row_get_16 rfl (lv_at hl 0 rfl) ?_
      refine fq_get K hK cl_Row hP 0 0 rfl (by decide) wd_94 rfl dc_Row_get_17 ?_
      refine lv_aload_n K.1 K.2.1 dc_Row_get_20 rfl (lv_at hl 0 rfl) ?_
      refine fq_get K hK cl_Row hP 0 1 rfl (by decide) wd_95 rfl dc_Row_get_21 ?_
      refine lv_iload_n K.1 K.2.1 dc_Row_get_24 rfl (lv_at hl 1 rfl) ?_
      refine lv_iadd K.1 K.2.1 dc_Row_get_25 ?_
      refine lv_aload_n K.1 K.2.1 dc_Row_get_26 rfl (lv_at hl 0 rfl) ?_
      refine fq_get K hK cl_Row hP 0 0 rfl (by decide) wd_94 rfl dc_Row_get_27 ?_
      refine fq_len K hK hP 1 rfl dc_Row_get_30 ?_
      refine lv_irem K.1 K.2.1 dc_Row_get_31 (nI_ne0 (by omega) (by omega)) ?_
      refine fq_asi (y := nI ((i + k) % n)) (by rw [hx, nI_add]; exact pk_rem (by omega) (by omega) (by omega)) ?_
      refine fq_ald K hK hP 1 rfl (vp_in_nI (Nat.mod_lt _ h0) (by omega)) dc_Row_get_32 ?_
      refine fq_asi (y := f ((i + k) % n)) (by rw [nI_clamp (by have := Nat.mod_lt (i + k) h0; omega)]) ?_
      exact fq_reti K hret hlk hS hP hD ⟨rfl, by rw [h4 k hkl, hx, rw_getN (by omega)]⟩ dc_Row_get_33 (Nat.le_of_ble_eq_true rfl) (Nat.le_of_ble_eq_true rfl)
    · skip
      refine lv_iconst (v := 0) K.1 K.2.1 dc_Row_get_12 (by decide) ?_
      refine lv_goto (tgt := 33) K.1 K.2.1 dc_Row_get_13 rfl ?_
      exact fq_reti K hret hlk hS hP hD ⟨rfl, rw_get0 (by omega) (by first | exact Or.inl b1 | exact Or.inr b9)⟩ dc_Row_get_33 (Nat.le_of_ble_eq_true rfl) (Nat.le_of_ble_eq_true rfl)
end
section
theorem wd_26 : Cond.initialized cn_FP ∈ fq_TB := fq_in 26 (by decide +kernel) rfl
theorem wd_33 : Cond.initialized cn_Layout ∈ fq_TB := fq_in 33 (by decide +kernel) rfl
theorem wd_35 : Cond.initialized cn_Ma ∈ fq_TB := fq_in 35 (by decide +kernel) rfl
theorem wd_36 : Cond.initialized cn_Mo ∈ fq_TB := fq_in 36 (by decide +kernel) rfl
theorem wd_44 : Cond.initialized cn_Recent ∈ fq_TB := fq_in 44 (by decide +kernel) rfl
theorem wd_124 : Cond.instanceMethod my_Layout_init ∈ fq_TB := fq_in 124 (by decide +kernel) rfl
theorem wd_125 : Cond.code my_Layout_init cb_Layout_init 1 none ∈ fq_TB := fq_in 125 (by decide +kernel) rfl
theorem wd_126 : Cond.methodLink cn_Layout 1 my_Oj_init ∈ fq_TB := fq_in 126 (by decide +kernel) rfl
theorem wd_127 : Cond.fieldLink cn_Layout 7 cn_Layout "width" "I" ∈ fq_TB := fq_in 127 (by decide +kernel) rfl
theorem wd_130 : Cond.fieldLink cn_Layout 13 cn_Layout "highFirst" "Z" ∈ fq_TB := fq_in 130 (by decide +kernel) rfl
theorem wd_341 : Cond.static my_FP_near ∈ fq_TB := fq_in 341 (by decide +kernel) rfl
theorem wd_342 : Cond.code my_FP_near cb_FP_near 4 (some .int) ∈ fq_TB := fq_in 342 (by decide +kernel) rfl
theorem wd_343 : Cond.constantLong cn_FP 219 2 ∈ fq_TB := fq_in 343 (by decide +kernel) rfl
theorem wd_344 : Cond.methodLink cn_FP 221 my_Ma_floorDiv ∈ fq_TB := fq_in 344 (by decide +kernel) rfl
theorem wd_345 : Cond.static my_Ma_floorDiv ∈ fq_TB := fq_in 345 (by decide +kernel) rfl
theorem wd_346 : Cond.code my_Ma_floorDiv cb_Ma_floorDiv 6 (some .long) ∈ fq_TB := fq_in 346 (by decide +kernel) rfl
theorem wd_380 : Cond.instanceMethod my_Recent_init ∈ fq_TB := fq_in 380 (by decide +kernel) rfl
theorem wd_381 : Cond.code my_Recent_init cb_Recent_init 1 none ∈ fq_TB := fq_in 381 (by decide +kernel) rfl
theorem wd_382 : Cond.methodLink cn_Recent 1 my_Oj_init ∈ fq_TB := fq_in 382 (by decide +kernel) rfl
theorem wd_383 : Cond.fieldLink cn_Recent 9 cn_Recent "cells" "[I" ∈ fq_TB := fq_in 383 (by decide +kernel) rfl
theorem wd_384 : Cond.fieldLink cn_Recent 13 cn_Recent "count" "I" ∈ fq_TB := fq_in 384 (by decide +kernel) rfl
theorem wd_455 : Cond.instanceMethod my_Layout_choose ∈ fq_TB := fq_in 455 (by decide +kernel) rfl
theorem wd_456 : Cond.selects cn_Layout my_Layout_choose my_Layout_choose ∈ fq_TB := fq_in 456 (by decide +kernel) rfl
theorem wd_457 : Cond.code my_Layout_choose cb_Layout_choose 3 none ∈ fq_TB := fq_in 457 (by decide +kernel) rfl
theorem wd_527 : Cond.instanceMethod my_Recent_forget ∈ fq_TB := fq_in 527 (by decide +kernel) rfl
theorem wd_528 : Cond.selects cn_Recent my_Recent_forget my_Recent_forget ∈ fq_TB := fq_in 528 (by decide +kernel) rfl
theorem wd_529 : Cond.code my_Recent_forget cb_Recent_forget 1 none ∈ fq_TB := fq_in 529 (by decide +kernel) rfl
theorem wd_598 : Cond.instanceMethod my_Layout_shiftOf ∈ fq_TB := fq_in 598 (by decide +kernel) rfl
theorem wd_599 : Cond.selects cn_Layout my_Layout_shiftOf my_Layout_shiftOf ∈ fq_TB := fq_in 599 (by decide +kernel) rfl
theorem wd_600 : Cond.code my_Layout_shiftOf cb_Layout_shiftOf 2 (some .int) ∈ fq_TB := fq_in 600 (by decide +kernel) rfl
theorem wd_623 : Cond.instanceMethod my_Recent_put ∈ fq_TB := fq_in 623 (by decide +kernel) rfl
theorem wd_624 : Cond.selects cn_Recent my_Recent_put my_Recent_put ∈ fq_TB := fq_in 624 (by decide +kernel) rfl
theorem wd_625 : Cond.code my_Recent_put cb_Recent_put 2 none ∈ fq_TB := fq_in 625 (by decide +kernel) rfl
theorem wd_627 : Cond.instanceMethod my_Recent_count ∈ fq_TB := fq_in 627 (by decide +kernel) rfl
theorem wd_628 : Cond.selects cn_Recent my_Recent_count my_Recent_count ∈ fq_TB := fq_in 628 (by decide +kernel) rfl
theorem wd_629 : Cond.code my_Recent_count cb_Recent_count 1 (some .int) ∈ fq_TB := fq_in 629 (by decide +kernel) rfl
theorem wd_654 : Cond.static my_FP_clipped ∈ fq_TB := fq_in 654 (by decide +kernel) rfl
theorem wd_655 : Cond.code my_FP_clipped cb_FP_clipped 2 (some .int) ∈ fq_TB := fq_in 655 (by decide +kernel) rfl
theorem wd_656 : Cond.constantLong cn_FP 225 (-8388608) ∈ fq_TB := fq_in 656 (by decide +kernel) rfl
theorem wd_657 : Cond.constantLong cn_FP 227 8388607 ∈ fq_TB := fq_in 657 (by decide +kernel) rfl
theorem wd_658 : Cond.methodLink cn_FP 229 my_Ma_min2 ∈ fq_TB := fq_in 658 (by decide +kernel) rfl
theorem wd_659 : Cond.static my_Ma_min2 ∈ fq_TB := fq_in 659 (by decide +kernel) rfl
theorem wd_660 : Cond.code my_Ma_min2 cb_Ma_min2 4 (some .long) ∈ fq_TB := fq_in 660 (by decide +kernel) rfl
theorem wd_661 : Cond.methodLink cn_FP 231 my_Ma_max2 ∈ fq_TB := fq_in 661 (by decide +kernel) rfl
theorem wd_662 : Cond.static my_Ma_max2 ∈ fq_TB := fq_in 662 (by decide +kernel) rfl
theorem wd_663 : Cond.code my_Ma_max2 cb_Ma_max2 4 (some .long) ∈ fq_TB := fq_in 663 (by decide +kernel) rfl
theorem wd_668 : Cond.instanceMethod my_Recent_at ∈ fq_TB := fq_in 668 (by decide +kernel) rfl
theorem wd_669 : Cond.selects cn_Recent my_Recent_at my_Recent_at ∈ fq_TB := fq_in 669 (by decide +kernel) rfl
theorem wd_670 : Cond.code my_Recent_at cb_Recent_at 2 (some .int) ∈ fq_TB := fq_in 670 (by decide +kernel) rfl
theorem wd_747 : Cond.static my_Ma_floorDiv2 ∈ fq_TB := fq_in 747 (by decide +kernel) rfl
theorem wd_748 : Cond.code my_Ma_floorDiv2 cb_Ma_floorDiv2 3 (some .int) ∈ fq_TB := fq_in 748 (by decide +kernel) rfl
theorem wd_864 : Cond.static my_Mo_near ∈ fq_TB := fq_in 864 (by decide +kernel) rfl
theorem wd_865 : Cond.code my_Mo_near cb_Mo_near 4 (some .int) ∈ fq_TB := fq_in 865 (by decide +kernel) rfl
theorem wd_866 : Cond.constantLong cn_Mo 38 2 ∈ fq_TB := fq_in 866 (by decide +kernel) rfl
theorem wd_867 : Cond.methodLink cn_Mo 40 my_Mo_floor ∈ fq_TB := fq_in 867 (by decide +kernel) rfl
theorem wd_868 : Cond.static my_Mo_floor ∈ fq_TB := fq_in 868 (by decide +kernel) rfl
theorem wd_869 : Cond.code my_Mo_floor cb_Mo_floor 6 (some .long) ∈ fq_TB := fq_in 869 (by decide +kernel) rfl
theorem wd_954 : Cond.static my_Mo_clipped ∈ fq_TB := fq_in 954 (by decide +kernel) rfl
theorem wd_955 : Cond.code my_Mo_clipped cb_Mo_clipped 2 (some .int) ∈ fq_TB := fq_in 955 (by decide +kernel) rfl
theorem wd_956 : Cond.constantLong cn_Mo 44 (-8388608) ∈ fq_TB := fq_in 956 (by decide +kernel) rfl
theorem wd_957 : Cond.constant cn_Mo 46 (-8388608) ∈ fq_TB := fq_in 957 (by decide +kernel) rfl
theorem wd_958 : Cond.constantLong cn_Mo 47 8388607 ∈ fq_TB := fq_in 958 (by decide +kernel) rfl
theorem wd_959 : Cond.constant cn_Mo 49 8388607 ∈ fq_TB := fq_in 959 (by decide +kernel) rfl
/-! The document's numbers as whole numbers: what a stage makes of the samples that came, and how many. -/
def fm_clip (v : Int) : Int := if v < -8388608 then -8388608 else if 8388607 < v then 8388607 else v
def fm_in (v : Int) : Prop := -8388608 ≤ v ∧ v ≤ 8388607
theorem fm_clip_in (v : Int) : fm_in (fm_clip v) := by
  unfold fm_clip fm_in
  split
  · omega
  · split <;> omega
theorem fm_clip_id {v : Int} (h : fm_in v) : fm_clip v = v := by
  unfold fm_clip
  unfold fm_in at h
  rw [if_neg (by omega), if_neg (by omega)]
/-- a sample by its place; 0 where there is none -/
def fm_x (xs : List Int) (i : Int) : Int := if i < 0 then 0 else xs.getD i.toNat 0
theorem fm_x_neg {xs : List Int} {i : Int} (h : i < 0) : fm_x xs i = 0 := if_pos h
theorem fm_x_ge {xs : List Int} {i : Int} (h : (xs.length : Int) ≤ i) : fm_x xs i = 0 := by
  unfold fm_x
  split
  · rfl
  · simp only [List.getD_eq_getElem?_getD]
    rw [List.getElem?_eq_none (by omega)]
    rfl
theorem fm_x_nat (xs : List Int) (i : Nat) : fm_x xs (i : Int) = xs.getD i 0 := by
  unfold fm_x
  rw [if_neg (by omega)]
  rfl
theorem fm_x_app {xs zs : List Int} {i : Int} (h : i < xs.length) : fm_x (xs ++ zs) i = fm_x xs i := by
  unfold fm_x
  split
  · rfl
  · simp only [List.getD_eq_getElem?_getD]
    rw [List.getElem?_append_left (by omega)]
theorem fm_x_in {xs : List Int} (h : ∀ v ∈ xs, fm_in v) (i : Int) : fm_in (fm_x xs i) := by
  unfold fm_x
  split
  · unfold fm_in; omega
  · simp only [List.getD_eq_getElem?_getD]
    cases hq : xs[i.toNat]? with
    | none => show fm_in 0; unfold fm_in; omega
    | some v => exact h v (List.mem_of_getElem? hq)
/-- a section's last two answers behind i of them -/
def fm_sec (b0 b1 b2 a1 a2 : Int) (xs : List Int) : Nat → Int × Int
  | 0 => (0, 0)
  | i + 1 => (fm_clip ((b0 * fm_x xs (i : Int) + b1 * fm_x xs ((i : Int) - 1) + b2 * fm_x xs ((i : Int) - 2) - a1 * (fm_sec b0 b1 b2 a1 a2 xs i).1 - a2 * (fm_sec b0 b1 b2 a1 a2 xs i).2) / 16384), (fm_sec b0 b1 b2 a1 a2 xs i).1)
def fm_sum (f : Nat → Int) : Nat → Int
  | 0 => 0
  | n + 1 => fm_sum f n + f n
theorem fm_sum_congr {f g : Nat → Int} : ∀ {n : Nat}, (∀ k, k < n → f k = g k) → fm_sum f n = fm_sum g n
  | 0, _ => rfl
  | n + 1, h => by
    show fm_sum f n + f n = fm_sum g n + g n
    rw [fm_sum_congr (fun k hk => h k (by omega)), h n (by omega)]
def fm_wt (shape : Int) (len k : Nat) : Int := if shape = 0 then 1 else if shape = 2 then ((k : Int) + 1) * ((len : Int) - k) else if (k : Int) + 1 < (len : Int) - k then (k : Int) + 1 else (len : Int) - k
def fm_u (up : Int) (xs : List Int) (place : Int) : Int := if 0 ≤ place ∧ place % up = 0 then fm_x xs (place / up) else 0
def fm_far (r : Int) (k : Nat) : Int := r - (if (k : Int) - (r - 1) < 0 then -((k : Int) - (r - 1)) else (k : Int) - (r - 1))
def fm_max (a b : Int) : Int := if b < a then a else b
/-- a stage: kind 0 section, 1 gain, 2 window, 3 resampler; and its five numbers -/
abbrev fm_S : Type := Nat × Int × Int × Int × Int × Int
def fm_y (sp : fm_S) (xs : List Int) (i : Nat) : Int :=
  if sp.1 = 0 then (fm_sec sp.2.1 sp.2.2.1 sp.2.2.2.1 sp.2.2.2.2.1 sp.2.2.2.2.2 xs (i + 1)).1
  else if sp.1 = 1 then fm_clip (sp.2.1 * fm_x xs (i : Int) / 256)
  else if sp.1 = 2 then fm_sum (fun k => fm_wt sp.2.1 sp.2.2.1.toNat k * fm_x xs ((i : Int) - k)) sp.2.2.1.toNat / fm_sum (fm_wt sp.2.1 sp.2.2.1.toNat) sp.2.2.1.toNat
  else fm_clip (sp.2.1 * fm_sum (fun k => fm_far (fm_max sp.2.1 sp.2.2.1) k * fm_u sp.2.1 xs ((i : Int) * sp.2.2.1 - k)) (2 * fm_max sp.2.1 sp.2.2.1 - 1).toNat / (fm_max sp.2.1 sp.2.2.1 * fm_max sp.2.1 sp.2.2.1))
def fm_m (sp : fm_S) (fl : Bool) (n : Nat) : Nat :=
  if n = 0 ∨ sp.1 < 2 then n
  else if sp.1 = 2 then (if fl then n + sp.2.2.1.toNat - 1 else n)
  else if fl then (n * sp.2.1.toNat + 2 * (fm_max sp.2.1 sp.2.2.1).toNat - 3) / sp.2.2.1.toNat + 1
  else (n * sp.2.1.toNat + sp.2.2.1.toNat - 1) / sp.2.2.1.toNat
/-- what a stage may be -/
def fm_ok (sp : fm_S) : Prop :=
  sp.1 ≤ 3 ∧ (sp.1 = 0 → (-65536 ≤ sp.2.1 ∧ sp.2.1 ≤ 65536) ∧ (-65536 ≤ sp.2.2.1 ∧ sp.2.2.1 ≤ 65536) ∧ (-65536 ≤ sp.2.2.2.1 ∧ sp.2.2.2.1 ≤ 65536) ∧ (-65536 ≤ sp.2.2.2.2.1 ∧ sp.2.2.2.2.1 ≤ 65536) ∧ (-65536 ≤ sp.2.2.2.2.2 ∧ sp.2.2.2.2.2 ≤ 65536))
  ∧ (sp.1 = 1 → -1024 ≤ sp.2.1 ∧ sp.2.1 ≤ 1024)
  ∧ (sp.1 = 2 → (sp.2.1 = 0 ∨ sp.2.1 = 1 ∨ sp.2.1 = 2) ∧ 1 ≤ sp.2.2.1 ∧ sp.2.2.1 ≤ 8)
  ∧ (sp.1 = 3 → (1 ≤ sp.2.1 ∧ sp.2.1 ≤ 4) ∧ 1 ≤ sp.2.2.1 ∧ sp.2.2.1 ≤ 4)
def fm_o (sp : fm_S) (fl : Bool) (xs : List Int) : List Int := (List.range (fm_m sp fl xs.length)).map (fm_y sp xs)
def fm_O : List fm_S → Bool → List Int → List Int
  | [], _, xs => xs
  | sp :: r, fl, xs => fm_O r fl (fm_o sp fl xs)
theorem fm_o_length (sp : fm_S) (fl : Bool) (xs : List Int) : (fm_o sp fl xs).length = fm_m sp fl xs.length := by
  simp [fm_o]
theorem fm_sec_app {b0 b1 b2 a1 a2 : Int} {xs zs : List Int} : ∀ {i : Nat}, i ≤ xs.length → fm_sec b0 b1 b2 a1 a2 (xs ++ zs) i = fm_sec b0 b1 b2 a1 a2 xs i
  | 0, _ => rfl
  | i + 1, h => by
    have ih := fm_sec_app (b0 := b0) (b1 := b1) (b2 := b2) (a1 := a1) (a2 := a2) (xs := xs) (zs := zs) (i := i) (by omega)
    show (_, _) = (_, _)
    rw [ih, fm_x_app (by omega), fm_x_app (by omega), fm_x_app (by omega)]
theorem fm_u_app {up : Int} {xs zs : List Int} {p : Int} (hu : 1 ≤ up) (h : p < xs.length * up) : fm_u up (xs ++ zs) p = fm_u up xs p := by
  unfold fm_u
  split
  · exact fm_x_app (Int.ediv_lt_of_lt_mul (by omega) h)
  · rfl
/-- what is made before the flush rests on what came before alone -/
theorem fm_y_app {sp : fm_S} (hok : fm_ok sp) {xs zs : List Int} {i : Nat} (h : i < fm_m sp false xs.length) : fm_y sp (xs ++ zs) i = fm_y sp xs i := by
  obtain ⟨h3, -, -, hw, hr⟩ := hok
  unfold fm_m at h
  unfold fm_y
  by_cases k0 : sp.1 = 0
  · rw [if_pos k0, if_pos k0]
    rw [if_pos (Or.inr (by omega))] at h
    rw [fm_sec_app (by omega)]
  rw [if_neg k0, if_neg k0]
  by_cases k1 : sp.1 = 1
  · rw [if_pos k1, if_pos k1]
    rw [if_pos (Or.inr (by omega))] at h
    rw [fm_x_app (by omega)]
  rw [if_neg k1, if_neg k1]
  by_cases k2 : sp.1 = 2
  · rw [if_pos k2, if_pos k2]
    have h' : i < xs.length := by
      by_cases hz : xs.length = 0 ∨ sp.1 < 2
      · rw [if_pos hz] at h; exact h
      · rw [if_neg hz, if_pos k2, if_neg (by decide)] at h
        exact h
    rw [fm_sum_congr (fun k _ => by rw [fm_x_app (by omega)])]
  rw [if_neg k2, if_neg k2]
  have k3 : sp.1 = 3 := by omega
  obtain ⟨⟨u1, u4⟩, d1, d4⟩ := hr k3
  by_cases hz : xs.length = 0 ∨ sp.1 < 2
  · rw [if_pos hz] at h; omega
  · rw [if_neg hz, if_neg k2, if_neg (by decide)] at h
    have hx : (i : Int) * sp.2.2.1 < xs.length * sp.2.1 := by
      have e1 : sp.2.1 = (sp.2.1.toNat : Int) := by omega
      have e2 : sp.2.2.1 = (sp.2.2.1.toNat : Int) := by omega
      have h5 := (Nat.lt_div_iff_mul_lt (by omega)).mp h
      rw [e1, e2]
      have : i * sp.2.2.1.toNat < xs.length * sp.2.1.toNat := by omega
      exact_mod_cast this
    rw [fm_sum_congr (fun k _ => by rw [fm_u_app u1 (by omega)])]
theorem fm_m_le {sp : fm_S} (hok : fm_ok sp) {n k : Nat} (fl : Bool) (h : n ≤ k) : fm_m sp false n ≤ fm_m sp fl k := by
  obtain ⟨h3, -, -, hw, hr⟩ := hok
  unfold fm_m
  by_cases hk : sp.1 < 2
  · rw [if_pos (Or.inr hk), if_pos (Or.inr hk)]; exact h
  by_cases h0 : n = 0
  · rw [if_pos (Or.inl h0)]; omega
  rw [if_neg (show ¬ (n = 0 ∨ sp.1 < 2) by omega), if_neg (show ¬ (k = 0 ∨ sp.1 < 2) by omega)]
  by_cases k2 : sp.1 = 2
  · obtain ⟨-, l1, l8⟩ := hw k2
    rw [if_pos k2, if_pos k2, if_neg (by decide)]
    split <;> omega
  · obtain ⟨⟨u1, u4⟩, d1, d4⟩ := hr (by omega)
    rw [if_neg k2, if_neg k2, if_neg (by decide)]
    have hm : n * sp.2.1.toNat ≤ k * sp.2.1.toNat := Nat.mul_le_mul_right _ h
    have hd : 0 < sp.2.2.1.toNat := by omega
    have hmx : sp.2.1.toNat ≤ (fm_max sp.2.1 sp.2.2.1).toNat ∧ sp.2.2.1.toNat ≤ (fm_max sp.2.1 sp.2.2.1).toNat := by
      unfold fm_max
      split <;> omega
    split
    · have hn : 1 ≤ n * sp.2.1.toNat := Nat.mul_pos (by omega) (by omega)
      have e1 : (n * sp.2.1.toNat + sp.2.2.1.toNat - 1) = (n * sp.2.1.toNat - 1) + sp.2.2.1.toNat := by omega
      rw [e1, Nat.add_div_right _ hd]
      exact Nat.succ_le_succ (Nat.div_le_div_right (by omega))
    · exact Nat.div_le_div_right (by omega)
/-- what came before stays, what is new stands behind it -/
theorem fm_o_app {sp : fm_S} (hok : fm_ok sp) (fl : Bool) (xs zs : List Int) : fm_o sp fl (xs ++ zs) = fm_o sp false xs ++ (fm_o sp fl (xs ++ zs)).drop (fm_m sp false xs.length) := by
  have h : (fm_o sp fl (xs ++ zs)).take (fm_m sp false xs.length) = fm_o sp false xs := by
    unfold fm_o
    rw [← List.map_take, List.take_range, Nat.min_eq_left (fm_m_le hok fl (by simp))]
    exact List.map_congr_left (fun i hi => fm_y_app hok (List.mem_range.mp hi))
  conv => lhs; rw [← List.take_append_drop (fm_m sp false xs.length) (fm_o sp fl (xs ++ zs)), h]
def fm_d (sp : fm_S) (fl : Bool) (xs zs : List Int) : List Int := (fm_o sp fl (xs ++ zs)).drop (fm_m sp false xs.length)
/-- what comes out at the end of the chain when zs come in behind xs -/
def fm_N : List fm_S → Bool → List Int → List Int → List Int
  | [], _, _, zs => zs
  | sp :: r, fl, xs, zs => fm_N r fl (fm_o sp false xs) (fm_d sp fl xs zs)
theorem fm_O_app (fl : Bool) : ∀ (sps : List fm_S), (∀ sp ∈ sps, fm_ok sp) → ∀ (xs zs : List Int), fm_O sps fl (xs ++ zs) = fm_O sps false xs ++ fm_N sps fl xs zs
  | [], _, xs, zs => rfl
  | sp :: r, h, xs, zs => by
    show fm_O r fl (fm_o sp fl (xs ++ zs)) = fm_O r false (fm_o sp false xs) ++ fm_N r fl (fm_o sp false xs) (fm_d sp fl xs zs)
    rw [fm_o_app (h sp List.mem_cons_self) fl xs zs]
    exact fm_O_app fl r (fun q hq => h q (List.mem_cons_of_mem _ hq)) _ _
/-- what the flush lets out, stage by stage -/
def fm_G : List fm_S → List Int → List Int
  | [], _ => []
  | sp :: r, xs => fm_N r false (fm_o sp false xs) (fm_d sp true xs []) ++ fm_G r (fm_o sp true xs)
theorem fm_O_flush : ∀ (sps : List fm_S), (∀ sp ∈ sps, fm_ok sp) → ∀ (xs : List Int), fm_O sps true xs = fm_O sps false xs ++ fm_G sps xs
  | [], _, xs => (List.append_nil xs).symm
  | sp :: r, h, xs => by
    have h1 := fm_o_app (h sp List.mem_cons_self) true xs []
    rw [List.append_nil] at h1
    have h2 := fm_O_flush r (fun q hq => h q (List.mem_cons_of_mem _ hq)) (fm_o sp true xs)
    show fm_O r true (fm_o sp true xs) = fm_O r false (fm_o sp false xs) ++ (fm_N r false (fm_o sp false xs) (fm_d sp true xs []) ++ fm_G r (fm_o sp true xs))
    rw [h2, ← List.append_assoc]
    congr 1
    rw [h1]
    show fm_O r false (fm_o sp false xs ++ _) = _
    rw [fm_O_app false r (fun q hq => h q (List.mem_cons_of_mem _ hq))]
    unfold fm_d
    rw [List.append_nil]

/-! numbers -/
theorem fn_td {a b : Int} (hb : 0 < b) : (b ∣ a ∧ a.tdiv b = a / b) ∨ (¬ b ∣ a ∧ 0 ≤ a ∧ a.tdiv b = a / b) ∨ (¬ b ∣ a ∧ a < 0 ∧ a.tdiv b = a / b + 1) := by
  have e := Int.tdiv_eq_ediv (a := a) (b := b)
  by_cases h1 : b ∣ a
  · rw [if_pos (Or.inr h1)] at e
    exact Or.inl ⟨h1, by omega⟩
  · by_cases h2 : 0 ≤ a
    · rw [if_pos (Or.inl h2)] at e
      exact Or.inr (Or.inl ⟨h1, h2, by omega⟩)
    · rw [if_neg (fun z => z.elim h2 h1), Int.sign_eq_one_of_pos hb] at e
      exact Or.inr (Or.inr ⟨h1, by omega, e⟩)
theorem fn_dle {a b : Int} (hb : 0 < b) (ha : a < 0) : a ≤ a / b ∧ a / b < 0 := by
  refine ⟨Int.le_ediv_of_mul_le hb ?_, Int.ediv_neg_of_neg_of_pos ha hb⟩
  have h := Int.mul_le_mul_of_nonpos_left (a := a) (b := b) (c := 1) (by omega) (by omega)
  omega
theorem fn_mul1 {a b : Int} (hb : 0 < b) (ha : a < 0) : a ≤ (a / b + 1) * b ∧ (a / b + 1) * b ≤ 0 := by
  have h1 := Int.ediv_mul_add_emod a b
  have h2 := Int.emod_nonneg a (b := b) (by omega)
  have h3 := Int.emod_lt_of_pos a hb
  have h4 := (fn_dle hb ha).2
  have h5 := Int.mul_nonpos_of_nonpos_of_nonneg (a := a / b + 1) (b := b) (by omega) (by omega)
  rw [Int.add_mul, Int.one_mul] at h5 ⊢
  omega
theorem fn_xor {x y : Int64} (hy : 0 < y.toInt) : 0 ≤ x ^^^ y ↔ 0 ≤ x.toInt := by
  rw [Kit.i64_nonneg]
  have e : (x ^^^ y).toBitVec.msb = (x.toBitVec.msb ^^ y.toBitVec.msb) := by rw [Int64.toBitVec_xor, BitVec.msb_xor]
  rw [BitVec.msb_eq_toInt, BitVec.msb_eq_toInt, BitVec.msb_eq_toInt, Int64.toInt_toBitVec, Int64.toInt_toBitVec, Int64.toInt_toBitVec, decide_eq_false (p := y.toInt < 0) (by omega), Bool.xor_false] at e
  have e2 := decide_eq_decide.mp e
  omega
theorem fn_div {x y : Int64} (hy : 0 < y.toInt) : (x / y).toInt = x.toInt.tdiv y.toInt := Kit.i64_div (fun z => by omega)
theorem fn_fd1 {x y : Int64} (hy : 0 < y.toInt) (h : 0 ≤ x ^^^ y) : (x / y).toInt = x.toInt / y.toInt := by
  rw [fn_xor hy] at h
  rw [fn_div hy]
  rcases fn_td (a := x.toInt) hy with z | z | z <;> omega
theorem fn_fd2 {x y : Int64} (hy : 0 < y.toInt) (h : x / y * y = x) : (x / y).toInt = x.toInt / y.toInt := by
  rw [fn_div hy]
  rcases fn_td (a := x.toInt) hy with z | z | ⟨z1, z2, z3⟩
  · exact z.2
  · exact z.2.2
  · exfalso
    have hx := Int64.le_toInt x
    have hm := fn_mul1 hy z2
    have e : (x / y * y).toInt = x.toInt.tdiv y.toInt * y.toInt := by
      rw [Kit.i64_mul (by rw [fn_div hy, z3]; omega) (by rw [fn_div hy, z3]; omega), fn_div hy]
    rw [h] at e
    exact z1 (e ▸ Int.dvd_mul_left _ _)
theorem fn_fd3 {x y : Int64} (hy : 0 < y.toInt) (h1 : ¬ 0 ≤ x ^^^ y) (h2 : ¬ x / y * y = x) : (x / y - 1).toInt = x.toInt / y.toInt := by
  rw [fn_xor hy] at h1
  have hx := Int64.le_toInt x
  have hd := fn_dle hy (by omega : x.toInt < 0)
  have h1' : (1 : Int64).toInt = 1 := by decide
  rcases fn_td (a := x.toInt) hy with ⟨z1, z2⟩ | z | ⟨z1, z2, z3⟩
  · exfalso
    apply h2
    apply Int64.toInt.inj
    have e : x.toInt / y.toInt * y.toInt = x.toInt := Int.ediv_mul_cancel z1
    rw [Kit.i64_mul (by rw [fn_div hy, z2, e]; exact hx) (by rw [fn_div hy, z2, e]; exact Int64.toInt_lt x), fn_div hy, z2, e]
  · omega
  · rw [Kit.i64_sub (by rw [fn_div hy, z3, h1']; omega) (by rw [fn_div hy, z3, h1']; omega), fn_div hy, z3, h1']
    omega
theorem fn_fm1 {x y : Int64} (hy : 0 < y.toInt) (h : 0 ≤ x - x / y * y) : (x / y).toInt = x.toInt / y.toInt := by
  rw [Kit.i64_nonneg, Kit.i64_rem, Int.tmod_eq_emod] at h
  rw [fn_div hy]
  rcases fn_td (a := x.toInt) hy with z | z | ⟨z1, z2, z3⟩
  · exact z.2
  · exact z.2.2
  · rw [if_neg (fun z => z.elim (by omega) z1)] at h
    have := Int.emod_lt_of_pos x.toInt hy
    omega
theorem fn_fm2 {x y : Int64} (hy : 0 < y.toInt) (h : ¬ 0 ≤ x - x / y * y) : (x / y - 1).toInt = x.toInt / y.toInt := by
  rw [Kit.i64_nonneg, Kit.i64_rem, Int.tmod_eq_emod] at h
  have hx := Int64.le_toInt x
  have h1' : (1 : Int64).toInt = 1 := by decide
  have hn := Int.emod_nonneg x.toInt (b := y.toInt) (by omega)
  rcases fn_td (a := x.toInt) hy with ⟨z1, z2⟩ | ⟨z1, z2, z3⟩ | ⟨z1, z2, z3⟩
  · rw [if_pos (Or.inr z1)] at h; omega
  · rw [if_pos (Or.inl z2)] at h; omega
  · have hd := fn_dle hy z2
    rw [Kit.i64_sub (by rw [fn_div hy, z3, h1']; omega) (by rw [fn_div hy, z3, h1']; omega), fn_div hy, z3, h1']
    omega
theorem fn_xori {x y : Int32} (hy : 0 < y.toInt) : 0 ≤ x ^^^ y ↔ 0 ≤ x.toInt := by
  rw [Kit.i32_nonneg]
  have e : (x ^^^ y).toBitVec.msb = (x.toBitVec.msb ^^ y.toBitVec.msb) := by rw [Int32.toBitVec_xor, BitVec.msb_xor]
  rw [BitVec.msb_eq_toInt, BitVec.msb_eq_toInt, BitVec.msb_eq_toInt, Int32.toInt_toBitVec, Int32.toInt_toBitVec, Int32.toInt_toBitVec, decide_eq_false (p := y.toInt < 0) (by omega), Bool.xor_false] at e
  have e2 := decide_eq_decide.mp e
  omega
theorem fn_divi {x y : Int32} (hy : 0 < y.toInt) : (x / y).toInt = x.toInt.tdiv y.toInt := Kit.i32_div (fun z => by omega)
theorem fn_fi1 {x y : Int32} (hy : 0 < y.toInt) (h : 0 ≤ x ^^^ y) : (x / y).toInt = x.toInt / y.toInt := by
  rw [fn_xori hy] at h
  rw [fn_divi hy]
  rcases fn_td (a := x.toInt) hy with z | z | z <;> omega
theorem fn_fi2 {x y : Int32} (hy : 0 < y.toInt) (h : x / y * y = x) : (x / y).toInt = x.toInt / y.toInt := by
  rw [fn_divi hy]
  rcases fn_td (a := x.toInt) hy with z | z | ⟨z1, z2, z3⟩
  · exact z.2
  · exact z.2.2
  · exfalso
    have hx := Int32.le_toInt x
    have hm := fn_mul1 hy z2
    have e : (x / y * y).toInt = x.toInt.tdiv y.toInt * y.toInt := by
      rw [Kit.i32_mul (by rw [fn_divi hy, z3]; omega) (by rw [fn_divi hy, z3]; omega), fn_divi hy]
    rw [h] at e
    exact z1 (e ▸ Int.dvd_mul_left _ _)
theorem fn_fi3 {x y : Int32} (hy : 0 < y.toInt) (h1 : ¬ 0 ≤ x ^^^ y) (h2 : ¬ x / y * y = x) : (x / y - 1).toInt = x.toInt / y.toInt := by
  rw [fn_xori hy] at h1
  have hx := Int32.le_toInt x
  have hd := fn_dle hy (by omega : x.toInt < 0)
  have h1' : (1 : Int32).toInt = 1 := by decide
  rcases fn_td (a := x.toInt) hy with ⟨z1, z2⟩ | z | ⟨z1, z2, z3⟩
  · exfalso
    apply h2
    apply Int32.toInt.inj
    have e : x.toInt / y.toInt * y.toInt = x.toInt := Int.ediv_mul_cancel z1
    rw [Kit.i32_mul (by rw [fn_divi hy, z2, e]; exact hx) (by rw [fn_divi hy, z2, e]; exact Int32.toInt_lt x), fn_divi hy, z2, e]
  · omega
  · rw [Kit.i32_sub (by rw [fn_divi hy, z3, h1']; omega) (by rw [fn_divi hy, z3, h1']; omega), fn_divi hy, z3, h1']
    omega
theorem fn_clip1 (x : Int64) : (if (if (8388607 : Int64) < x then 8388607 else x) < (-8388608 : Int64) then (-8388608 : Int64) else (if (8388607 : Int64) < x then 8388607 else x)).toInt32.toInt = fm_clip x.toInt := by
  have e1 : (8388607 : Int64).toInt = 8388607 := by decide
  have e2 : (-8388608 : Int64).toInt = -8388608 := by decide
  unfold fm_clip
  by_cases h1 : (8388607 : Int64) < x
  · rw [if_pos h1, if_neg (by decide)]
    rw [Int64.lt_iff_toInt_lt, e1] at h1
    rw [if_neg (by omega), if_pos h1]
    decide
  · rw [if_neg h1]
    rw [Int64.lt_iff_toInt_lt, e1] at h1
    by_cases h2 : x < (-8388608 : Int64)
    · rw [if_pos h2]
      rw [Int64.lt_iff_toInt_lt, e2] at h2
      rw [if_pos h2]; decide
    · rw [if_neg h2]
      rw [Int64.lt_iff_toInt_lt, e2] at h2
      rw [if_neg h2, if_neg h1, Kit.i32_of_i64 (by omega) (by omega)]
theorem fn_clip2 {x : Int64} (h : ¬ (-8388608 : Int64) ≤ x) : (-8388608 : Int32).toInt = fm_clip x.toInt := by
  rw [Int64.le_iff_toInt_le, show (-8388608 : Int64).toInt = -8388608 by decide] at h
  rw [fm_clip, if_pos (by omega)]
  decide
theorem fn_clip3 {x : Int64} (h : ¬ x ≤ (8388607 : Int64)) : (8388607 : Int32).toInt = fm_clip x.toInt := by
  rw [Int64.le_iff_toInt_le, show (8388607 : Int64).toInt = 8388607 by decide] at h
  rw [fm_clip, if_neg (by omega), if_pos (by omega)]
  decide
theorem fn_clip4 {x : Int64} (h : (-8388608 : Int64) ≤ x) (h2 : x ≤ (8388607 : Int64)) : x.toInt32.toInt = fm_clip x.toInt := by
  rw [Int64.le_iff_toInt_le, show (8388607 : Int64).toInt = 8388607 by decide] at h2
  rw [Int64.le_iff_toInt_le, show (-8388608 : Int64).toInt = -8388608 by decide] at h
  rw [fm_clip, if_neg (by omega), if_neg (by omega), Kit.i32_of_i64 (by omega) (by omega)]
def fn_nr (x y : Int64) : Prop := 0 < y.toInt ∧ y.toInt < 2 ^ 61 ∧ -2 ^ 61 ≤ x.toInt ∧ x.toInt < 2 ^ 61 ∧ -2 ^ 31 ≤ (2 * x.toInt + y.toInt) / (2 * y.toInt) ∧ (2 * x.toInt + y.toInt) / (2 * y.toInt) < 2 ^ 31
theorem fn_two {y : Int64} (h1 : -2 ^ 61 ≤ y.toInt) (h2 : y.toInt < 2 ^ 61) : (2 * y).toInt = 2 * y.toInt := by
  have e : (2 : Int64).toInt = 2 := by decide
  rw [Kit.i64_mul (by rw [e]; omega) (by rw [e]; omega), e]
theorem fn_nr2 {x y : Int64} (h : fn_nr x y) : 0 < (2 * y).toInt := by
  obtain ⟨h1, h2, h3, h4, h5, h6⟩ := h
  rw [fn_two (by omega) h2]; omega
theorem fn_nr3 {x y r : Int64} (h : fn_nr x y) (e : r.toInt = (2 * x + y).toInt / (2 * y).toInt) : r.toInt32.toInt = (2 * x.toInt + y.toInt) / (2 * y.toInt) := by
  obtain ⟨h1, h2, h3, h4, h5, h6⟩ := h
  rw [fn_two (by omega) h2, Kit.i64_add (by rw [fn_two h3 h4]; omega) (by rw [fn_two h3 h4]; omega), fn_two h3 h4] at e
  rw [Kit.i32_of_i64 (by omega) (by omega), e]
/-! the last eight -/
def rc_ok (f : Nat → Int32) (xs : List Int) : Prop := xs.length < 2000000 ∧ ∀ i, i < xs.length → xs.length ≤ i + 8 → (f (i % 8)).toInt = xs.getD i 0
theorem rc_rem {k : Nat} (h : k < 2 ^ 31) : nI k - nI k / 8 * 8 = nI (k % 8) := pk_rem h (by decide) (by decide)
theorem rc_nil {f : Nat → Int32} : rc_ok f [] := ⟨by decide, fun i h => absurd h (Nat.not_lt_zero i)⟩
theorem rc_put {f : Nat → Int32} {xs : List Int} {x : Int32} (h : rc_ok f xs) (hl : xs.length < 1000000 := by assumption) : rc_ok (upd f (xs.length % 8) x) (xs ++ [x.toInt]) := by
  refine ⟨by simp; omega, fun i h1 h2 => ?_⟩
  simp at h1 h2
  by_cases e : i = xs.length
  · subst e
    rw [pk_us]
    simp [List.getD_eq_getElem?_getD]
  · rw [pk_un (by omega), h.2 i (by omega) (by omega)]
    simp only [List.getD_eq_getElem?_getD]
    rw [List.getElem?_append_left (by omega)]
def rc_at (xs : List Int) (i : Int) : Int := if i < 0 ∨ (xs.length : Int) ≤ i ∨ i < (xs.length : Int) - 8 then 0 else xs.getD i.toNat 0
theorem rc_at_x {xs : List Int} {i : Int} (h : (xs.length : Int) - 8 ≤ i) : rc_at xs i = fm_x xs i := by
  unfold rc_at
  by_cases h1 : i < 0
  · rw [if_pos (Or.inl h1), fm_x_neg h1]
  · by_cases h2 : (xs.length : Int) ≤ i
    · rw [if_pos (Or.inr (Or.inl h2)), fm_x_ge h2]
    · rw [if_neg (by omega)]
      unfold fm_x
      rw [if_neg h1]
theorem rc_sub {n : Nat} (h : n < 2000000) : (nI n - 8).toInt = (n : Int) - 8 := by
  have e : (8 : Int32).toInt = 8 := by decide
  rw [Kit.i32_sub (by rw [nI_toInt (by omega), e]; omega) (by rw [nI_toInt (by omega), e]; omega), nI_toInt (by omega), e]
theorem rc_at0 {f : Nat → Int32} {xs : List Int} {x : Int32} (h : rc_ok f xs) (hx : x < 0 ∨ nI xs.length ≤ x ∨ ¬ nI xs.length - 8 ≤ x) : (0 : Int32).toInt = rc_at xs x.toInt := by
  have hl := h.1
  rw [Int32.lt_iff_toInt_lt, Int32.le_iff_toInt_le, Int32.le_iff_toInt_le, nI_toInt (by omega), rc_sub hl, Int32.toInt_zero] at hx
  rw [rc_at, if_pos (by omega)]
  rfl
theorem rc_at1 {f : Nat → Int32} {xs : List Int} {x : Int32} {k : Nat} (h : rc_ok f xs) (hk : k < 2 ^ 31) (hx : x = nI k) (h2 : ¬ nI xs.length ≤ x) (h3 : nI xs.length - 8 ≤ x) : (f (k % 8)).toInt = rc_at xs x.toInt := by
  have hl := h.1
  rw [Int32.le_iff_toInt_le, rc_sub hl, hx, nI_toInt hk] at h3
  rw [hx, nI_leI (by omega) hk] at h2
  rw [hx, nI_toInt hk, rc_at, if_neg (by omega), h.2 k (by omega) (by omega)]
  rfl
/-! truth values, layouts -/
def fq_b (b : Bool) : Int32 := if b then 1 else 0
theorem fq_bn (b : Bool) : narrow .boolean (.int (fq_b b)) = .int (fq_b b) := by cases b <;> rfl
theorem fq_bf (b : Bool) : fits .boolean (.int (fq_b b)) = true := by cases b <;> rfl
theorem fq_b0 {b : Bool} (h : fq_b b = 0) : b = false := by cases b with
  | false => rfl
  | true => exact absurd h (by decide)
theorem fq_b1 {b : Bool} (h : ¬ fq_b b = 0) : b = true := by cases b with
  | true => rfl
  | false => exact absurd rfl h
def ly_sh (w : Nat) (b : Bool) (k : Nat) : Nat := 8 * (if b then w - 1 - k else k)
theorem ly_sh1 {w k : Nat} {b : Bool} (h : b = true) : 8 * nI (w - 1 - k) = nI (ly_sh w b k) := by
  rw [ly_sh, if_pos h]; exact pk_mul 8 _
theorem ly_sh0 {w k : Nat} {b : Bool} (h : b = false) : 8 * nI k = nI (ly_sh w b k) := by
  rw [ly_sh, if_neg (by rw [h]; decide)]; exact pk_mul 8 _
theorem ly_sub {w k : Nat} (h : k < w) : nI w - 1 - nI k = nI (w - 1 - k) := by
  have e : nI w - 1 = nI (w - 1) := pk_sub (a := w) (b := 1) (by omega)
  rw [e, pk_sub (by omega)]
theorem ly_div {w : Nat} (h : w < 1000) : nI (8 * w) / 8 = nI w := by
  have e := pk_div (a := 8 * w) (d := 8) (by omega) (by decide) (by decide)
  rw [Nat.mul_div_cancel_left w (by decide)] at e
  exact e

theorem dc_Ma_floorDiv_0 : decode cb_Ma_floorDiv 0 = .ok (.lload_n 0, 1) := by decide +kernel
theorem dc_Ma_floorDiv_1 : decode cb_Ma_floorDiv 1 = .ok (.lload_n 2, 1) := by decide +kernel
theorem dc_Ma_floorDiv_2 : decode cb_Ma_floorDiv 2 = .ok (.ldiv, 1) := by decide +kernel
theorem dc_Ma_floorDiv_3 : decode cb_Ma_floorDiv 3 = .ok (.lstore 4, 2) := by decide +kernel
theorem dc_Ma_floorDiv_5 : decode cb_Ma_floorDiv 5 = .ok (.lload_n 0, 1) := by decide +kernel
theorem dc_Ma_floorDiv_6 : decode cb_Ma_floorDiv 6 = .ok (.lload_n 2, 1) := by decide +kernel
theorem dc_Ma_floorDiv_7 : decode cb_Ma_floorDiv 7 = .ok (.lxor, 1) := by decide +kernel
theorem dc_Ma_floorDiv_8 : decode cb_Ma_floorDiv 8 = .ok (.lconst 0, 1) := by decide +kernel
theorem dc_Ma_floorDiv_9 : decode cb_Ma_floorDiv 9 = .ok (.lcmp, 1) := by decide +kernel
theorem dc_Ma_floorDiv_10 : decode cb_Ma_floorDiv 10 = .ok (.ifCond .ge 17, 3) := by decide +kernel
theorem dc_Ma_floorDiv_13 : decode cb_Ma_floorDiv 13 = .ok (.lload 4, 2) := by decide +kernel
theorem dc_Ma_floorDiv_15 : decode cb_Ma_floorDiv 15 = .ok (.lload_n 2, 1) := by decide +kernel
theorem dc_Ma_floorDiv_16 : decode cb_Ma_floorDiv 16 = .ok (.lmul, 1) := by decide +kernel
theorem dc_Ma_floorDiv_17 : decode cb_Ma_floorDiv 17 = .ok (.lload_n 0, 1) := by decide +kernel
theorem dc_Ma_floorDiv_18 : decode cb_Ma_floorDiv 18 = .ok (.lcmp, 1) := by decide +kernel
theorem dc_Ma_floorDiv_19 : decode cb_Ma_floorDiv 19 = .ok (.ifCond .eq 8, 3) := by decide +kernel
theorem dc_Ma_floorDiv_22 : decode cb_Ma_floorDiv 22 = .ok (.lload 4, 2) := by decide +kernel
theorem dc_Ma_floorDiv_24 : decode cb_Ma_floorDiv 24 = .ok (.lconst 1, 1) := by decide +kernel
theorem dc_Ma_floorDiv_25 : decode cb_Ma_floorDiv 25 = .ok (.lsub, 1) := by decide +kernel
theorem dc_Ma_floorDiv_26 : decode cb_Ma_floorDiv 26 = .ok (.lreturn, 1) := by decide +kernel
theorem dc_Ma_floorDiv_27 : decode cb_Ma_floorDiv 27 = .ok (.lload 4, 2) := by decide +kernel
theorem dc_Ma_floorDiv_29 : decode cb_Ma_floorDiv 29 = .ok (.lreturn, 1) := by decide +kernel
theorem yk_Ma_floorDiv : fq_Y my_Ma_floorDiv cb_Ma_floorDiv 6 (some .long) 2 := ⟨wd_346, wd_35, by decide +kernel⟩
theorem dc_Ma_floorDiv2_0 : decode cb_Ma_floorDiv2 0 = .ok (.iload_n 0, 1) := by decide +kernel
theorem dc_Ma_floorDiv2_1 : decode cb_Ma_floorDiv2 1 = .ok (.iload_n 1, 1) := by decide +kernel
theorem dc_Ma_floorDiv2_2 : decode cb_Ma_floorDiv2 2 = .ok (.idiv, 1) := by decide +kernel
theorem dc_Ma_floorDiv2_3 : decode cb_Ma_floorDiv2 3 = .ok (.istore_n 2, 1) := by decide +kernel
theorem dc_Ma_floorDiv2_4 : decode cb_Ma_floorDiv2 4 = .ok (.iload_n 0, 1) := by decide +kernel
theorem dc_Ma_floorDiv2_5 : decode cb_Ma_floorDiv2 5 = .ok (.iload_n 1, 1) := by decide +kernel
theorem dc_Ma_floorDiv2_6 : decode cb_Ma_floorDiv2 6 = .ok (.ixor, 1) := by decide +kernel
theorem dc_Ma_floorDiv2_7 : decode cb_Ma_floorDiv2 7 = .ok (.ifCond .ge 14, 3) := by decide +kernel
theorem dc_Ma_floorDiv2_10 : decode cb_Ma_floorDiv2 10 = .ok (.iload_n 2, 1) := by decide +kernel
theorem dc_Ma_floorDiv2_11 : decode cb_Ma_floorDiv2 11 = .ok (.iload_n 1, 1) := by decide +kernel
theorem dc_Ma_floorDiv2_12 : decode cb_Ma_floorDiv2 12 = .ok (.imul, 1) := by decide +kernel
theorem dc_Ma_floorDiv2_13 : decode cb_Ma_floorDiv2 13 = .ok (.iload_n 0, 1) := by decide +kernel
theorem dc_Ma_floorDiv2_14 : decode cb_Ma_floorDiv2 14 = .ok (.if_icmp .eq 7, 3) := by decide +kernel
theorem dc_Ma_floorDiv2_17 : decode cb_Ma_floorDiv2 17 = .ok (.iload_n 2, 1) := by decide +kernel
theorem dc_Ma_floorDiv2_18 : decode cb_Ma_floorDiv2 18 = .ok (.iconst 1, 1) := by decide +kernel
theorem dc_Ma_floorDiv2_19 : decode cb_Ma_floorDiv2 19 = .ok (.isub, 1) := by decide +kernel
theorem dc_Ma_floorDiv2_20 : decode cb_Ma_floorDiv2 20 = .ok (.ireturn, 1) := by decide +kernel
theorem dc_Ma_floorDiv2_21 : decode cb_Ma_floorDiv2 21 = .ok (.iload_n 2, 1) := by decide +kernel
theorem dc_Ma_floorDiv2_22 : decode cb_Ma_floorDiv2 22 = .ok (.ireturn, 1) := by decide +kernel
theorem yk_Ma_floorDiv2 : fq_Y my_Ma_floorDiv2 cb_Ma_floorDiv2 3 (some .int) 2 := ⟨wd_748, wd_35, by decide +kernel⟩
theorem dc_FP_clipped_0 : decode cb_FP_clipped 0 = .ok (.ldc2_w 225, 3) := by decide +kernel
theorem dc_FP_clipped_3 : decode cb_FP_clipped 3 = .ok (.lload_n 0, 1) := by decide +kernel
theorem dc_FP_clipped_4 : decode cb_FP_clipped 4 = .ok (.ldc2_w 227, 3) := by decide +kernel
theorem dc_FP_clipped_7 : decode cb_FP_clipped 7 = .ok (.invokestatic 229, 3) := by decide +kernel
theorem dc_FP_clipped_10 : decode cb_FP_clipped 10 = .ok (.invokestatic 231, 3) := by decide +kernel
theorem dc_FP_clipped_13 : decode cb_FP_clipped 13 = .ok (.l2i, 1) := by decide +kernel
theorem dc_FP_clipped_14 : decode cb_FP_clipped 14 = .ok (.ireturn, 1) := by decide +kernel
theorem yk_FP_clipped : fq_Y my_FP_clipped cb_FP_clipped 2 (some .int) 1 := ⟨wd_655, wd_26, by decide +kernel⟩
theorem dc_FP_near_0 : decode cb_FP_near 0 = .ok (.ldc2_w 219, 3) := by decide +kernel
theorem dc_FP_near_3 : decode cb_FP_near 3 = .ok (.lload_n 0, 1) := by decide +kernel
theorem dc_FP_near_4 : decode cb_FP_near 4 = .ok (.lmul, 1) := by decide +kernel
theorem dc_FP_near_5 : decode cb_FP_near 5 = .ok (.lload_n 2, 1) := by decide +kernel
theorem dc_FP_near_6 : decode cb_FP_near 6 = .ok (.ladd, 1) := by decide +kernel
theorem dc_FP_near_7 : decode cb_FP_near 7 = .ok (.ldc2_w 219, 3) := by decide +kernel
theorem dc_FP_near_10 : decode cb_FP_near 10 = .ok (.lload_n 2, 1) := by decide +kernel
theorem dc_FP_near_11 : decode cb_FP_near 11 = .ok (.lmul, 1) := by decide +kernel
theorem dc_FP_near_12 : decode cb_FP_near 12 = .ok (.invokestatic 221, 3) := by decide +kernel
theorem dc_FP_near_15 : decode cb_FP_near 15 = .ok (.l2i, 1) := by decide +kernel
theorem dc_FP_near_16 : decode cb_FP_near 16 = .ok (.ireturn, 1) := by decide +kernel
theorem yk_FP_near : fq_Y my_FP_near cb_FP_near 4 (some .int) 2 := ⟨wd_342, wd_26, by decide +kernel⟩
theorem dc_Mo_floor_0 : decode cb_Mo_floor 0 = .ok (.lload_n 0, 1) := by decide +kernel
theorem dc_Mo_floor_1 : decode cb_Mo_floor 1 = .ok (.lload_n 2, 1) := by decide +kernel
theorem dc_Mo_floor_2 : decode cb_Mo_floor 2 = .ok (.ldiv, 1) := by decide +kernel
theorem dc_Mo_floor_3 : decode cb_Mo_floor 3 = .ok (.lstore 4, 2) := by decide +kernel
theorem dc_Mo_floor_5 : decode cb_Mo_floor 5 = .ok (.lload_n 0, 1) := by decide +kernel
theorem dc_Mo_floor_6 : decode cb_Mo_floor 6 = .ok (.lload_n 2, 1) := by decide +kernel
theorem dc_Mo_floor_7 : decode cb_Mo_floor 7 = .ok (.lrem, 1) := by decide +kernel
theorem dc_Mo_floor_8 : decode cb_Mo_floor 8 = .ok (.lconst 0, 1) := by decide +kernel
theorem dc_Mo_floor_9 : decode cb_Mo_floor 9 = .ok (.lcmp, 1) := by decide +kernel
theorem dc_Mo_floor_10 : decode cb_Mo_floor 10 = .ok (.ifCond .ge 10, 3) := by decide +kernel
theorem dc_Mo_floor_13 : decode cb_Mo_floor 13 = .ok (.lload 4, 2) := by decide +kernel
theorem dc_Mo_floor_15 : decode cb_Mo_floor 15 = .ok (.lconst 1, 1) := by decide +kernel
theorem dc_Mo_floor_16 : decode cb_Mo_floor 16 = .ok (.lsub, 1) := by decide +kernel
theorem dc_Mo_floor_17 : decode cb_Mo_floor 17 = .ok (.goto 5, 3) := by decide +kernel
theorem dc_Mo_floor_20 : decode cb_Mo_floor 20 = .ok (.lload 4, 2) := by decide +kernel
theorem dc_Mo_floor_22 : decode cb_Mo_floor 22 = .ok (.lreturn, 1) := by decide +kernel
theorem yk_Mo_floor : fq_Y my_Mo_floor cb_Mo_floor 6 (some .long) 2 := ⟨wd_869, wd_36, by decide +kernel⟩
theorem dc_Mo_near_0 : decode cb_Mo_near 0 = .ok (.ldc2_w 38, 3) := by decide +kernel
theorem dc_Mo_near_3 : decode cb_Mo_near 3 = .ok (.lload_n 0, 1) := by decide +kernel
theorem dc_Mo_near_4 : decode cb_Mo_near 4 = .ok (.lmul, 1) := by decide +kernel
theorem dc_Mo_near_5 : decode cb_Mo_near 5 = .ok (.lload_n 2, 1) := by decide +kernel
theorem dc_Mo_near_6 : decode cb_Mo_near 6 = .ok (.ladd, 1) := by decide +kernel
theorem dc_Mo_near_7 : decode cb_Mo_near 7 = .ok (.ldc2_w 38, 3) := by decide +kernel
theorem dc_Mo_near_10 : decode cb_Mo_near 10 = .ok (.lload_n 2, 1) := by decide +kernel
theorem dc_Mo_near_11 : decode cb_Mo_near 11 = .ok (.lmul, 1) := by decide +kernel
theorem dc_Mo_near_12 : decode cb_Mo_near 12 = .ok (.invokestatic 40, 3) := by decide +kernel
theorem dc_Mo_near_15 : decode cb_Mo_near 15 = .ok (.l2i, 1) := by decide +kernel
theorem dc_Mo_near_16 : decode cb_Mo_near 16 = .ok (.ireturn, 1) := by decide +kernel
theorem yk_Mo_near : fq_Y my_Mo_near cb_Mo_near 4 (some .int) 2 := ⟨wd_865, wd_36, by decide +kernel⟩
theorem dc_Mo_clipped_0 : decode cb_Mo_clipped 0 = .ok (.lload_n 0, 1) := by decide +kernel
theorem dc_Mo_clipped_1 : decode cb_Mo_clipped 1 = .ok (.ldc2_w 44, 3) := by decide +kernel
theorem dc_Mo_clipped_4 : decode cb_Mo_clipped 4 = .ok (.lcmp, 1) := by decide +kernel
theorem dc_Mo_clipped_5 : decode cb_Mo_clipped 5 = .ok (.ifCond .ge 8, 3) := by decide +kernel
theorem dc_Mo_clipped_8 : decode cb_Mo_clipped 8 = .ok (.ldc 46, 2) := by decide +kernel
theorem dc_Mo_clipped_10 : decode cb_Mo_clipped 10 = .ok (.goto 18, 3) := by decide +kernel
theorem dc_Mo_clipped_13 : decode cb_Mo_clipped 13 = .ok (.lload_n 0, 1) := by decide +kernel
theorem dc_Mo_clipped_14 : decode cb_Mo_clipped 14 = .ok (.ldc2_w 47, 3) := by decide +kernel
theorem dc_Mo_clipped_17 : decode cb_Mo_clipped 17 = .ok (.lcmp, 1) := by decide +kernel
theorem dc_Mo_clipped_18 : decode cb_Mo_clipped 18 = .ok (.ifCond .le 8, 3) := by decide +kernel
theorem dc_Mo_clipped_21 : decode cb_Mo_clipped 21 = .ok (.ldc 49, 2) := by decide +kernel
theorem dc_Mo_clipped_23 : decode cb_Mo_clipped 23 = .ok (.goto 5, 3) := by decide +kernel
theorem dc_Mo_clipped_26 : decode cb_Mo_clipped 26 = .ok (.lload_n 0, 1) := by decide +kernel
theorem dc_Mo_clipped_27 : decode cb_Mo_clipped 27 = .ok (.l2i, 1) := by decide +kernel
theorem dc_Mo_clipped_28 : decode cb_Mo_clipped 28 = .ok (.ireturn, 1) := by decide +kernel
theorem yk_Mo_clipped : fq_Y my_Mo_clipped cb_Mo_clipped 2 (some .int) 1 := ⟨wd_955, wd_36, by decide +kernel⟩
theorem dc_Recent_init_0 : decode cb_Recent_init 0 = .ok (.aload_n 0, 1) := by decide +kernel
theorem dc_Recent_init_1 : decode cb_Recent_init 1 = .ok (.invokespecial 1, 3) := by decide +kernel
theorem dc_Recent_init_4 : decode cb_Recent_init 4 = .ok (.aload_n 0, 1) := by decide +kernel
theorem dc_Recent_init_5 : decode cb_Recent_init 5 = .ok (.bipush 8, 2) := by decide +kernel
theorem dc_Recent_init_7 : decode cb_Recent_init 7 = .ok (.newarray .int, 2) := by decide +kernel
theorem dc_Recent_init_9 : decode cb_Recent_init 9 = .ok (.putfield 9, 3) := by decide +kernel
theorem dc_Recent_init_12 : decode cb_Recent_init 12 = .ok (.return_, 1) := by decide +kernel
theorem yk_Recent_init : fq_Y my_Recent_init cb_Recent_init 1 none 0 := ⟨wd_381, wd_44, by decide +kernel⟩
theorem dc_Recent_count_0 : decode cb_Recent_count 0 = .ok (.aload_n 0, 1) := by decide +kernel
theorem dc_Recent_count_1 : decode cb_Recent_count 1 = .ok (.getfield 13, 3) := by decide +kernel
theorem dc_Recent_count_4 : decode cb_Recent_count 4 = .ok (.ireturn, 1) := by decide +kernel
theorem yk_Recent_count : fq_Y my_Recent_count cb_Recent_count 1 (some .int) 0 := ⟨wd_629, wd_44, by decide +kernel⟩
theorem dc_Recent_forget_0 : decode cb_Recent_forget 0 = .ok (.aload_n 0, 1) := by decide +kernel
theorem dc_Recent_forget_1 : decode cb_Recent_forget 1 = .ok (.iconst 0, 1) := by decide +kernel
theorem dc_Recent_forget_2 : decode cb_Recent_forget 2 = .ok (.putfield 13, 3) := by decide +kernel
theorem dc_Recent_forget_5 : decode cb_Recent_forget 5 = .ok (.return_, 1) := by decide +kernel
theorem yk_Recent_forget : fq_Y my_Recent_forget cb_Recent_forget 1 none 0 := ⟨wd_529, wd_44, by decide +kernel⟩
theorem dc_Recent_put_0 : decode cb_Recent_put 0 = .ok (.aload_n 0, 1) := by decide +kernel
theorem dc_Recent_put_1 : decode cb_Recent_put 1 = .ok (.getfield 9, 3) := by decide +kernel
theorem dc_Recent_put_4 : decode cb_Recent_put 4 = .ok (.aload_n 0, 1) := by decide +kernel
theorem dc_Recent_put_5 : decode cb_Recent_put 5 = .ok (.getfield 13, 3) := by decide +kernel
theorem dc_Recent_put_8 : decode cb_Recent_put 8 = .ok (.bipush 8, 2) := by decide +kernel
theorem dc_Recent_put_10 : decode cb_Recent_put 10 = .ok (.irem, 1) := by decide +kernel
theorem dc_Recent_put_11 : decode cb_Recent_put 11 = .ok (.iload_n 1, 1) := by decide +kernel
theorem dc_Recent_put_12 : decode cb_Recent_put 12 = .ok (.iastore, 1) := by decide +kernel
theorem dc_Recent_put_13 : decode cb_Recent_put 13 = .ok (.aload_n 0, 1) := by decide +kernel
theorem dc_Recent_put_14 : decode cb_Recent_put 14 = .ok (.dup, 1) := by decide +kernel
theorem dc_Recent_put_15 : decode cb_Recent_put 15 = .ok (.getfield 13, 3) := by decide +kernel
theorem dc_Recent_put_18 : decode cb_Recent_put 18 = .ok (.iconst 1, 1) := by decide +kernel
theorem dc_Recent_put_19 : decode cb_Recent_put 19 = .ok (.iadd, 1) := by decide +kernel
theorem dc_Recent_put_20 : decode cb_Recent_put 20 = .ok (.putfield 13, 3) := by decide +kernel
theorem dc_Recent_put_23 : decode cb_Recent_put 23 = .ok (.return_, 1) := by decide +kernel
theorem yk_Recent_put : fq_Y my_Recent_put cb_Recent_put 2 none 1 := ⟨wd_625, wd_44, by decide +kernel⟩
theorem dc_Recent_at_0 : decode cb_Recent_at 0 = .ok (.iload_n 1, 1) := by decide +kernel
theorem dc_Recent_at_1 : decode cb_Recent_at 1 = .ok (.ifCond .lt 22, 3) := by decide +kernel
theorem dc_Recent_at_4 : decode cb_Recent_at 4 = .ok (.iload_n 1, 1) := by decide +kernel
theorem dc_Recent_at_5 : decode cb_Recent_at 5 = .ok (.aload_n 0, 1) := by decide +kernel
theorem dc_Recent_at_6 : decode cb_Recent_at 6 = .ok (.getfield 13, 3) := by decide +kernel
theorem dc_Recent_at_9 : decode cb_Recent_at 9 = .ok (.if_icmp .ge 14, 3) := by decide +kernel
theorem dc_Recent_at_12 : decode cb_Recent_at 12 = .ok (.iload_n 1, 1) := by decide +kernel
theorem dc_Recent_at_13 : decode cb_Recent_at 13 = .ok (.aload_n 0, 1) := by decide +kernel
theorem dc_Recent_at_14 : decode cb_Recent_at 14 = .ok (.getfield 13, 3) := by decide +kernel
theorem dc_Recent_at_17 : decode cb_Recent_at 17 = .ok (.bipush 8, 2) := by decide +kernel
theorem dc_Recent_at_19 : decode cb_Recent_at 19 = .ok (.isub, 1) := by decide +kernel
theorem dc_Recent_at_20 : decode cb_Recent_at 20 = .ok (.if_icmp .ge 7, 3) := by decide +kernel
theorem dc_Recent_at_23 : decode cb_Recent_at 23 = .ok (.iconst 0, 1) := by decide +kernel
theorem dc_Recent_at_24 : decode cb_Recent_at 24 = .ok (.goto 12, 3) := by decide +kernel
theorem dc_Recent_at_27 : decode cb_Recent_at 27 = .ok (.aload_n 0, 1) := by decide +kernel
theorem dc_Recent_at_28 : decode cb_Recent_at 28 = .ok (.getfield 9, 3) := by decide +kernel
theorem dc_Recent_at_31 : decode cb_Recent_at 31 = .ok (.iload_n 1, 1) := by decide +kernel
theorem dc_Recent_at_32 : decode cb_Recent_at 32 = .ok (.bipush 8, 2) := by decide +kernel
theorem dc_Recent_at_34 : decode cb_Recent_at 34 = .ok (.irem, 1) := by decide +kernel
theorem dc_Recent_at_35 : decode cb_Recent_at 35 = .ok (.iaload, 1) := by decide +kernel
theorem dc_Recent_at_36 : decode cb_Recent_at 36 = .ok (.ireturn, 1) := by decide +kernel
theorem yk_Recent_at : fq_Y my_Recent_at cb_Recent_at 2 (some .int) 1 := ⟨wd_670, wd_44, by decide +kernel⟩
theorem dc_Layout_init_0 : decode cb_Layout_init 0 = .ok (.aload_n 0, 1) := by decide +kernel
theorem dc_Layout_init_1 : decode cb_Layout_init 1 = .ok (.invokespecial 1, 3) := by decide +kernel
theorem dc_Layout_init_4 : decode cb_Layout_init 4 = .ok (.aload_n 0, 1) := by decide +kernel
theorem dc_Layout_init_5 : decode cb_Layout_init 5 = .ok (.iconst 2, 1) := by decide +kernel
theorem dc_Layout_init_6 : decode cb_Layout_init 6 = .ok (.putfield 7, 3) := by decide +kernel
theorem dc_Layout_init_9 : decode cb_Layout_init 9 = .ok (.return_, 1) := by decide +kernel
theorem yk_Layout_init : fq_Y my_Layout_init cb_Layout_init 1 none 0 := ⟨wd_125, wd_33, by decide +kernel⟩
theorem dc_Layout_choose_0 : decode cb_Layout_choose 0 = .ok (.aload_n 0, 1) := by decide +kernel
theorem dc_Layout_choose_1 : decode cb_Layout_choose 1 = .ok (.iload_n 1, 1) := by decide +kernel
theorem dc_Layout_choose_2 : decode cb_Layout_choose 2 = .ok (.bipush 8, 2) := by decide +kernel
theorem dc_Layout_choose_4 : decode cb_Layout_choose 4 = .ok (.idiv, 1) := by decide +kernel
theorem dc_Layout_choose_5 : decode cb_Layout_choose 5 = .ok (.putfield 7, 3) := by decide +kernel
theorem dc_Layout_choose_8 : decode cb_Layout_choose 8 = .ok (.aload_n 0, 1) := by decide +kernel
theorem dc_Layout_choose_9 : decode cb_Layout_choose 9 = .ok (.iload_n 2, 1) := by decide +kernel
theorem dc_Layout_choose_10 : decode cb_Layout_choose 10 = .ok (.putfield 13, 3) := by decide +kernel
theorem dc_Layout_choose_13 : decode cb_Layout_choose 13 = .ok (.return_, 1) := by decide +kernel
theorem yk_Layout_choose : fq_Y my_Layout_choose cb_Layout_choose 3 none 2 := ⟨wd_457, wd_33, by decide +kernel⟩
theorem dc_Layout_shiftOf_0 : decode cb_Layout_shiftOf 0 = .ok (.bipush 8, 2) := by decide +kernel
theorem dc_Layout_shiftOf_2 : decode cb_Layout_shiftOf 2 = .ok (.aload_n 0, 1) := by decide +kernel
theorem dc_Layout_shiftOf_3 : decode cb_Layout_shiftOf 3 = .ok (.getfield 13, 3) := by decide +kernel
theorem dc_Layout_shiftOf_6 : decode cb_Layout_shiftOf 6 = .ok (.ifCond .eq 14, 3) := by decide +kernel
theorem dc_Layout_shiftOf_9 : decode cb_Layout_shiftOf 9 = .ok (.aload_n 0, 1) := by decide +kernel
theorem dc_Layout_shiftOf_10 : decode cb_Layout_shiftOf 10 = .ok (.getfield 7, 3) := by decide +kernel
theorem dc_Layout_shiftOf_13 : decode cb_Layout_shiftOf 13 = .ok (.iconst 1, 1) := by decide +kernel
theorem dc_Layout_shiftOf_14 : decode cb_Layout_shiftOf 14 = .ok (.isub, 1) := by decide +kernel
theorem dc_Layout_shiftOf_15 : decode cb_Layout_shiftOf 15 = .ok (.iload_n 1, 1) := by decide +kernel
theorem dc_Layout_shiftOf_16 : decode cb_Layout_shiftOf 16 = .ok (.isub, 1) := by decide +kernel
theorem dc_Layout_shiftOf_17 : decode cb_Layout_shiftOf 17 = .ok (.goto 4, 3) := by decide +kernel
theorem dc_Layout_shiftOf_20 : decode cb_Layout_shiftOf 20 = .ok (.iload_n 1, 1) := by decide +kernel
theorem dc_Layout_shiftOf_21 : decode cb_Layout_shiftOf 21 = .ok (.imul, 1) := by decide +kernel
theorem dc_Layout_shiftOf_22 : decode cb_Layout_shiftOf 22 = .ok (.ireturn, 1) := by decide +kernel
theorem yk_Layout_shiftOf : fq_Y my_Layout_shiftOf cb_Layout_shiftOf 2 (some .int) 1 := ⟨wd_600, wd_33, by decide +kernel⟩
set_option maxHeartbeats 4000000 in
set_option maxRecDepth 100000 in
theorem ct_Ma_floorDiv (l : Launch) (D : va_G) (cI cO : ClassId) (tE : Nat) (x y : Int64) (hy : 0 < y.toInt) (sz : Nat) : Met l my_Ma_floorDiv (fq_w my_Ma_floorDiv cb_Ma_floorDiv 6 (some .long)) ({ frames := 0, cells := 0, slots := 0, locals := 0 }) (va_Pc ([.long x, .long y]) (fq_Pre D cI cO tE sz ([]))) (va_Ql (S := va_W) (fun r w => w = [] ∧ r.toInt = x.toInt / y.toInt) (fq_Bw D (va_A ([]) sz)) (va_A ([]) sz)) (0) (0) (va_A ([]) sz) := by
  refine fq_open (by decide +kernel) (Nat.le_of_ble_eq_true rfl) ?_
  intro pg ev s mt below meth cd ls K hret hlk hin hK hZ hP hD hA hS hl
  generalize va_A ([]) sz = A at hZ hD hA hS ⊢
  have K : fq_Ctx pg mt cd cb_Ma_floorDiv 6 s _ cn_Ma := K
  have hl : lv_has ls 6 [(0, .long x), (2, .long y)] := hl
  refine lv_lload_n K.1 K.2.1 dc_Ma_floorDiv_0 rfl (lv_at hl 0 rfl) ?_
  refine lv_lload_n K.1 K.2.1 dc_Ma_floorDiv_1 rfl (lv_at hl 1 rfl) ?_
  refine lv_ldiv K.1 K.2.1 dc_Ma_floorDiv_2 (fun z => by rw [z] at hy; exact absurd hy (by decide)) ?_
  refine lv_topl (fun v1 e_v1 => ?_)
  refine lv_lstore K.1 K.2.1 dc_Ma_floorDiv_3 hl (by decide) rfl (fun ls hl => ?_)
  have hl : lv_has ls 6 [(4, .long v1), (0, .long x), (2, .long y)] := hl
  refine lv_lload_n K.1 K.2.1 dc_Ma_floorDiv_5 rfl (lv_at hl 1 rfl) ?_
  refine lv_lload_n K.1 K.2.1 dc_Ma_floorDiv_6 rfl (lv_at hl 2 rfl) ?_
  refine lv_lxor K.1 K.2.1 dc_Ma_floorDiv_7 ?_
  refine lv_lconst (v := 0) K.1 K.2.1 dc_Ma_floorDiv_8 (by decide) ?_
  refine W.lcmp K.1 K.2.1 dc_Ma_floorDiv_9 ?_
  refine lv_if_ge (tgt := 27) K.1 K.2.1 dc_Ma_floorDiv_10 rfl (fun b10 => ?_) (fun b10 => ?_)
  · skip
    rw [lg_cmp_ge] at b10
    refine lv_lload K.1 K.2.1 dc_Ma_floorDiv_27 (lv_at hl 0 rfl) ?_
    exact fq_retl K hret hlk hS hP hD ⟨rfl, by subst e_v1; first | exact fn_fd1 hy b10 | exact fn_fd2 hy b19⟩ dc_Ma_floorDiv_29 (Nat.le_of_ble_eq_true rfl) (Nat.le_of_ble_eq_true rfl)
  · skip
    rw [lg_cmp_ge] at b10
    refine lv_lload K.1 K.2.1 dc_Ma_floorDiv_13 (lv_at hl 0 rfl) ?_
    refine lv_lload_n K.1 K.2.1 dc_Ma_floorDiv_15 rfl (lv_at hl 2 rfl) ?_
    refine lv_lmul K.1 K.2.1 dc_Ma_floorDiv_16 ?_
    refine lv_lload_n K.1 K.2.1 dc_Ma_floorDiv_17 rfl (lv_at hl 1 rfl) ?_
    refine W.lcmp K.1 K.2.1 dc_Ma_floorDiv_18 ?_
    refine lv_if_eq (tgt := 27) K.1 K.2.1 dc_Ma_floorDiv_19 rfl (fun b19 => ?_) (fun b19 => ?_)
    · skip
      rw [lg_cmp_eq] at b19
      refine lv_lload K.1 K.2.1 dc_Ma_floorDiv_27 (lv_at hl 0 rfl) ?_
      exact fq_retl K hret hlk hS hP hD ⟨rfl, by subst e_v1; first | exact fn_fd1 hy b10 | exact fn_fd2 hy b19⟩ dc_Ma_floorDiv_29 (Nat.le_of_ble_eq_true rfl) (Nat.le_of_ble_eq_true rfl)
    · skip
      rw [lg_cmp_eq] at b19
      refine lv_lload K.1 K.2.1 dc_Ma_floorDiv_22 (lv_at hl 0 rfl) ?_
      refine lv_lconst (v := 1) K.1 K.2.1 dc_Ma_floorDiv_24 (by decide) ?_
      refine lv_lsub K.1 K.2.1 dc_Ma_floorDiv_25 ?_
      exact fq_retl K hret hlk hS hP hD ⟨rfl, by subst e_v1; exact fn_fd3 hy b10 b19⟩ dc_Ma_floorDiv_26 (Nat.le_of_ble_eq_true rfl) (Nat.le_of_ble_eq_true rfl)
set_option maxHeartbeats 4000000 in
set_option maxRecDepth 100000 in
theorem ct_Ma_floorDiv2 (l : Launch) (D : va_G) (cI cO : ClassId) (tE : Nat) (x y : Int32) (hy : 0 < y.toInt) (sz : Nat) : Met l my_Ma_floorDiv2 (fq_w my_Ma_floorDiv2 cb_Ma_floorDiv2 3 (some .int)) ({ frames := 0, cells := 0, slots := 0, locals := 0 }) (va_Pc ([.int x, .int y]) (fq_Pre D cI cO tE sz ([]))) (va_Qi (S := va_W) (fun r w => w = [] ∧ r.toInt = x.toInt / y.toInt) (fq_Bw D (va_A ([]) sz)) (va_A ([]) sz)) (0) (0) (va_A ([]) sz) := by
  refine fq_open (by decide +kernel) (Nat.le_of_ble_eq_true rfl) ?_
  intro pg ev s mt below meth cd ls K hret hlk hin hK hZ hP hD hA hS hl
  generalize va_A ([]) sz = A at hZ hD hA hS ⊢
  have K : fq_Ctx pg mt cd cb_Ma_floorDiv2 3 s _ cn_Ma := K
  have hl : lv_has ls 3 [(0, .int x), (1, .int y)] := hl
  refine lv_iload_n K.1 K.2.1 dc_Ma_floorDiv2_0 rfl (lv_at hl 0 rfl) ?_
  refine lv_iload_n K.1 K.2.1 dc_Ma_floorDiv2_1 rfl (lv_at hl 1 rfl) ?_
  refine lv_idiv K.1 K.2.1 dc_Ma_floorDiv2_2 (fun z => by rw [z] at hy; exact absurd hy (by decide)) ?_
  refine lv_topi (fun v1 e_v1 => ?_)
  refine lv_istore_n K.1 K.2.1 dc_Ma_floorDiv2_3 rfl hl (by decide) rfl (fun ls hl => ?_)
  have hl : lv_has ls 3 [(2, .int v1), (0, .int x), (1, .int y)] := hl
  refine lv_iload_n K.1 K.2.1 dc_Ma_floorDiv2_4 rfl (lv_at hl 1 rfl) ?_
  refine lv_iload_n K.1 K.2.1 dc_Ma_floorDiv2_5 rfl (lv_at hl 2 rfl) ?_
  refine lv_ixor K.1 K.2.1 dc_Ma_floorDiv2_6 ?_
  refine lv_if_ge (tgt := 21) K.1 K.2.1 dc_Ma_floorDiv2_7 rfl (fun b7 => ?_) (fun b7 => ?_)
  · skip
    refine lv_iload_n K.1 K.2.1 dc_Ma_floorDiv2_21 rfl (lv_at hl 0 rfl) ?_
    exact fq_reti K hret hlk hS hP hD ⟨rfl, by subst e_v1; first | exact fn_fi1 hy b7 | exact fn_fi2 hy b14⟩ dc_Ma_floorDiv2_22 (Nat.le_of_ble_eq_true rfl) (Nat.le_of_ble_eq_true rfl)
  · skip
    refine lv_iload_n K.1 K.2.1 dc_Ma_floorDiv2_10 rfl (lv_at hl 0 rfl) ?_
    refine lv_iload_n K.1 K.2.1 dc_Ma_floorDiv2_11 rfl (lv_at hl 2 rfl) ?_
    refine lv_imul K.1 K.2.1 dc_Ma_floorDiv2_12 ?_
    refine lv_iload_n K.1 K.2.1 dc_Ma_floorDiv2_13 rfl (lv_at hl 1 rfl) ?_
    refine lv_icmp_eq (tgt := 21) K.1 K.2.1 dc_Ma_floorDiv2_14 rfl (fun b14 => ?_) (fun b14 => ?_)
    · skip
      refine lv_iload_n K.1 K.2.1 dc_Ma_floorDiv2_21 rfl (lv_at hl 0 rfl) ?_
      exact fq_reti K hret hlk hS hP hD ⟨rfl, by subst e_v1; first | exact fn_fi1 hy b7 | exact fn_fi2 hy b14⟩ dc_Ma_floorDiv2_22 (Nat.le_of_ble_eq_true rfl) (Nat.le_of_ble_eq_true rfl)
    · skip
      refine lv_iload_n K.1 K.2.1 dc_Ma_floorDiv2_17 rfl (lv_at hl 0 rfl) ?_
      refine lv_iconst (v := 1) K.1 K.2.1 dc_Ma_floorDiv2_18 (by decide) ?_
      refine lv_isub K.1 K.2.1 dc_Ma_floorDiv2_19 ?_
      exact fq_reti K hret hlk hS hP hD ⟨rfl, by subst e_v1; exact fn_fi3 hy b7 b14⟩ dc_Ma_floorDiv2_20 (Nat.le_of_ble_eq_true rfl) (Nat.le_of_ble_eq_true rfl)
set_option maxHeartbeats 4000000 in
set_option maxRecDepth 100000 in
theorem ct_Mo_floor (l : Launch) (D : va_G) (cI cO : ClassId) (tE : Nat) (x y : Int64) (hy : 0 < y.toInt) (sz : Nat) : Met l my_Mo_floor (fq_w my_Mo_floor cb_Mo_floor 6 (some .long)) ({ frames := 0, cells := 0, slots := 0, locals := 0 }) (va_Pc ([.long x, .long y]) (fq_Pre D cI cO tE sz ([]))) (va_Ql (S := va_W) (fun r w => w = [] ∧ r.toInt = x.toInt / y.toInt) (fq_Bw D (va_A ([]) sz)) (va_A ([]) sz)) (0) (0) (va_A ([]) sz) := by
  refine fq_open (by decide +kernel) (Nat.le_of_ble_eq_true rfl) ?_
  intro pg ev s mt below meth cd ls K hret hlk hin hK hZ hP hD hA hS hl
  generalize va_A ([]) sz = A at hZ hD hA hS ⊢
  have K : fq_Ctx pg mt cd cb_Mo_floor 6 s _ cn_Mo := K
  have hl : lv_has ls 6 [(0, .long x), (2, .long y)] := hl
  refine lv_lload_n K.1 K.2.1 dc_Mo_floor_0 rfl (lv_at hl 0 rfl) ?_
  refine lv_lload_n K.1 K.2.1 dc_Mo_floor_1 rfl (lv_at hl 1 rfl) ?_
  refine lv_ldiv K.1 K.2.1 dc_Mo_floor_2 (fun z => by rw [z] at hy; exact absurd hy (by decide)) ?_
  refine lv_topl (fun v1 e_v1 => ?_)
  refine lv_lstore K.1 K.2.1 dc_Mo_floor_3 hl (by decide) rfl (fun ls hl => ?_)
  have hl : lv_has ls 6 [(4, .long v1), (0, .long x), (2, .long y)] := hl
  refine lv_lload_n K.1 K.2.1 dc_Mo_floor_5 rfl (lv_at hl 1 rfl) ?_
  refine lv_lload_n K.1 K.2.1 dc_Mo_floor_6 rfl (lv_at hl 2 rfl) ?_
  refine lv_lrem K.1 K.2.1 dc_Mo_floor_7 (fun z => by rw [z] at hy; exact absurd hy (by decide)) ?_
  refine lv_lconst (v := 0) K.1 K.2.1 dc_Mo_floor_8 (by decide) ?_
  refine W.lcmp K.1 K.2.1 dc_Mo_floor_9 ?_
  refine lv_if_ge (tgt := 20) K.1 K.2.1 dc_Mo_floor_10 rfl (fun b10 => ?_) (fun b10 => ?_)
  · skip
    rw [lg_cmp_ge] at b10
    refine lv_lload K.1 K.2.1 dc_Mo_floor_20 (lv_at hl 0 rfl) ?_
    exact fq_retl K hret hlk hS hP hD ⟨rfl, by subst e_v1; first | exact fn_fm1 hy b10 | exact fn_fm2 hy b10⟩ dc_Mo_floor_22 (Nat.le_of_ble_eq_true rfl) (Nat.le_of_ble_eq_true rfl)
  · skip
    rw [lg_cmp_ge] at b10
    refine lv_lload K.1 K.2.1 dc_Mo_floor_13 (lv_at hl 0 rfl) ?_
    refine lv_lconst (v := 1) K.1 K.2.1 dc_Mo_floor_15 (by decide) ?_
    refine lv_lsub K.1 K.2.1 dc_Mo_floor_16 ?_
    refine lv_goto (tgt := 22) K.1 K.2.1 dc_Mo_floor_17 rfl ?_
    exact fq_retl K hret hlk hS hP hD ⟨rfl, by subst e_v1; first | exact fn_fm1 hy b10 | exact fn_fm2 hy b10⟩ dc_Mo_floor_22 (Nat.le_of_ble_eq_true rfl) (Nat.le_of_ble_eq_true rfl)
set_option maxHeartbeats 4000000 in
set_option maxRecDepth 100000 in
theorem ct_FP_clipped (l : Launch) (D : va_G) (cI cO : ClassId) (tE : Nat) (x : Int64) (sz : Nat) : Met l my_FP_clipped (fq_w my_FP_clipped cb_FP_clipped 2 (some .int)) ({ frames := 1, cells := 0, slots := 0, locals := 17 }) (va_Pc ([.long x]) (fq_Pre D cI cO tE sz ([]))) (va_Qi (S := va_W) (fun r w => w = [] ∧ r.toInt = fm_clip x.toInt) (fq_Bw D (va_A ([]) sz)) (va_A ([]) sz)) (0) (0) (va_A ([]) sz) := by
  refine fq_open (by decide +kernel) (Nat.le_of_ble_eq_true rfl) ?_
  intro pg ev s mt below meth cd ls K hret hlk hin hK hZ hP hD hA hS hl
  generalize va_A ([]) sz = A at hZ hD hA hS ⊢
  have K : fq_Ctx pg mt cd cb_FP_clipped 2 s _ cn_FP := K
  have hl : lv_has ls 2 [(0, .long x)] := hl
  refine lv_ldc2 (v := (-8388608)) K.1 K.2.1 K.2.2.2.1 (K.2.2.2.2 _ wd_656) dc_FP_clipped_0 ?_
  refine lv_lload_n K.1 K.2.1 dc_FP_clipped_3 rfl (lv_at hl 0 rfl) ?_
  refine lv_ldc2 (v := 8388607) K.1 K.2.1 K.2.2.2.1 (K.2.2.2.2 _ wd_657) dc_FP_clipped_4 ?_
  refine va_mmin_long K.1 K.2.1 (K.2.2.1.trans hl.1.symm) K.2.2.2.1 (K.2.2.2.2 _ wd_658) (K.2.2.2.2 _ wd_659) (K.2.2.2.2 _ wd_35) (K.2.2.2.2 _ wd_660) (Nat.le_of_ble_eq_true rfl) (Nat.le_of_ble_eq_true rfl) (Nat.le_of_ble_eq_true rfl) (Nat.le_of_ble_eq_true rfl) dc_FP_clipped_7 ?_
  refine va_mmax_long K.1 K.2.1 (K.2.2.1.trans hl.1.symm) K.2.2.2.1 (K.2.2.2.2 _ wd_661) (K.2.2.2.2 _ wd_662) (K.2.2.2.2 _ wd_35) (K.2.2.2.2 _ wd_663) (Nat.le_of_ble_eq_true rfl) (Nat.le_of_ble_eq_true rfl) (Nat.le_of_ble_eq_true rfl) (Nat.le_of_ble_eq_true rfl) dc_FP_clipped_10 ?_
  refine lv_l2i K.1 K.2.1 dc_FP_clipped_13 rfl ?_
  exact fq_reti K hret hlk hS hP hD ⟨rfl, fn_clip1 x⟩ dc_FP_clipped_14 (Nat.le_of_ble_eq_true rfl) (Nat.le_of_ble_eq_true rfl)
set_option maxHeartbeats 4000000 in
set_option maxRecDepth 100000 in
theorem ct_Mo_clipped (l : Launch) (D : va_G) (cI cO : ClassId) (tE : Nat) (x : Int64) (sz : Nat) : Met l my_Mo_clipped (fq_w my_Mo_clipped cb_Mo_clipped 2 (some .int)) ({ frames := 0, cells := 0, slots := 0, locals := 0 }) (va_Pc ([.long x]) (fq_Pre D cI cO tE sz ([]))) (va_Qi (S := va_W) (fun r w => w = [] ∧ r.toInt = fm_clip x.toInt) (fq_Bw D (va_A ([]) sz)) (va_A ([]) sz)) (0) (0) (va_A ([]) sz) := by
  refine fq_open (by decide +kernel) (Nat.le_of_ble_eq_true rfl) ?_
  intro pg ev s mt below meth cd ls K hret hlk hin hK hZ hP hD hA hS hl
  generalize va_A ([]) sz = A at hZ hD hA hS ⊢
  have K : fq_Ctx pg mt cd cb_Mo_clipped 2 s _ cn_Mo := K
  have hl : lv_has ls 2 [(0, .long x)] := hl
  refine lv_lload_n K.1 K.2.1 dc_Mo_clipped_0 rfl (lv_at hl 0 rfl) ?_
  refine lv_ldc2 (v := (-8388608)) K.1 K.2.1 K.2.2.2.1 (K.2.2.2.2 _ wd_956) dc_Mo_clipped_1 ?_
  refine W.lcmp K.1 K.2.1 dc_Mo_clipped_4 ?_
  refine lv_if_ge (tgt := 13) K.1 K.2.1 dc_Mo_clipped_5 rfl (fun b5 => ?_) (fun b5 => ?_)
  · skip
    rw [lg_cmp_ge] at b5
    refine lv_lload_n K.1 K.2.1 dc_Mo_clipped_13 rfl (lv_at hl 0 rfl) ?_
    refine lv_ldc2 (v := 8388607) K.1 K.2.1 K.2.2.2.1 (K.2.2.2.2 _ wd_958) dc_Mo_clipped_14 ?_
    refine W.lcmp K.1 K.2.1 dc_Mo_clipped_17 ?_
    refine lv_if_le (tgt := 26) K.1 K.2.1 dc_Mo_clipped_18 rfl (fun b18 => ?_) (fun b18 => ?_)
    · skip
      rw [lg_cmp_le] at b18
      refine lv_lload_n K.1 K.2.1 dc_Mo_clipped_26 rfl (lv_at hl 0 rfl) ?_
      refine lv_l2i K.1 K.2.1 dc_Mo_clipped_27 rfl ?_
      exact fq_reti K hret hlk hS hP hD ⟨rfl, by first | exact fn_clip2 b5 | exact fn_clip3 b18 | exact fn_clip4 b5 b18⟩ dc_Mo_clipped_28 (Nat.le_of_ble_eq_true rfl) (Nat.le_of_ble_eq_true rfl)
    · skip
      rw [lg_cmp_le] at b18
      refine lv_ldc (v := 8388607) K.1 K.2.1 K.2.2.2.1 (K.2.2.2.2 _ wd_959) dc_Mo_clipped_21 ?_
      refine lv_goto (tgt := 28) K.1 K.2.1 dc_Mo_clipped_23 rfl ?_
      exact fq_reti K hret hlk hS hP hD ⟨rfl, by first | exact fn_clip2 b5 | exact fn_clip3 b18 | exact fn_clip4 b5 b18⟩ dc_Mo_clipped_28 (Nat.le_of_ble_eq_true rfl) (Nat.le_of_ble_eq_true rfl)
  · skip
    rw [lg_cmp_ge] at b5
    refine lv_ldc (v := (-8388608)) K.1 K.2.1 K.2.2.2.1 (K.2.2.2.2 _ wd_957) dc_Mo_clipped_8 ?_
    refine lv_goto (tgt := 28) K.1 K.2.1 dc_Mo_clipped_10 rfl ?_
    exact fq_reti K hret hlk hS hP hD ⟨rfl, by first | exact fn_clip2 b5 | exact fn_clip3 b18 | exact fn_clip4 b5 b18⟩ dc_Mo_clipped_28 (Nat.le_of_ble_eq_true rfl) (Nat.le_of_ble_eq_true rfl)
set_option maxHeartbeats 4000000 in
set_option maxRecDepth 100000 in
theorem ct_FP_near (l : Launch) (D : va_G) (cI cO : ClassId) (tE : Nat) (x y : Int64) (hxy : fn_nr x y) (sz : Nat) : Met l my_FP_near (fq_w my_FP_near cb_FP_near 4 (some .int)) ({ frames := 1, cells := 0, slots := 0, locals := 25 }) (va_Pc ([.long x, .long y]) (fq_Pre D cI cO tE sz ([]))) (va_Qi (S := va_W) (fun r w => w = [] ∧ r.toInt = (2 * x.toInt + y.toInt) / (2 * y.toInt)) (fq_Bw D (va_A ([]) sz)) (va_A ([]) sz)) (0) (0) (va_A ([]) sz) := by
  refine fq_open (by decide +kernel) (Nat.le_of_ble_eq_true rfl) ?_
  intro pg ev s mt below meth cd ls K hret hlk hin hK hZ hP hD hA hS hl
  generalize va_A ([]) sz = A at hZ hD hA hS ⊢
  have K : fq_Ctx pg mt cd cb_FP_near 4 s _ cn_FP := K
  have hl : lv_has ls 4 [(0, .long x), (2, .long y)] := hl
  have hy : 0 < (2 * y).toInt := fn_nr2 hxy
  refine lv_ldc2 (v := 2) K.1 K.2.1 K.2.2.2.1 (K.2.2.2.2 _ wd_343) dc_FP_near_0 ?_
  refine lv_lload_n K.1 K.2.1 dc_FP_near_3 rfl (lv_at hl 0 rfl) ?_
  refine lv_lmul K.1 K.2.1 dc_FP_near_4 ?_
  refine lv_lload_n K.1 K.2.1 dc_FP_near_5 rfl (lv_at hl 1 rfl) ?_
  refine lv_ladd K.1 K.2.1 dc_FP_near_6 ?_
  refine lv_ldc2 (v := 2) K.1 K.2.1 K.2.2.2.1 (K.2.2.2.2 _ wd_343) dc_FP_near_7 ?_
  refine lv_lload_n K.1 K.2.1 dc_FP_near_10 rfl (lv_at hl 1 rfl) ?_
  refine lv_lmul K.1 K.2.1 dc_FP_near_11 ?_
  have hc := fq_cut.of (wc := []) hP hD hS hA [] (by decide) rfl
  refine fq_cl_ (wr := []) (fq_rS K hK hZ hS hc (ct_Ma_floorDiv l D cI cO tE ((2 * x) + y) (2 * y) hy _) yk_Ma_floorDiv wd_345 wd_344 ⟨⟨rfl, rfl⟩, ⟨Nat.le_of_ble_eq_true rfl, Nat.le_of_ble_eq_true rfl⟩, ⟨Nat.le_of_ble_eq_true rfl, Nat.le_of_ble_eq_true rfl⟩⟩ hl.1 rfl (Nat.le_of_ble_eq_true rfl) dc_FP_near_12) hP hD hS hc [] [] rfl rfl (by decide) (by decide) (fun r1 w H locs hw1 hP hD hS => ?_)
  obtain ⟨rfl, hd1⟩ := hw1
  have hP : va_P D fq_cl ([]) _ := hP
  have hD : va_D A ([]) := hD
  refine lv_l2i K.1 K.2.1 dc_FP_near_15 rfl ?_
  exact fq_reti K hret hlk hS hP hD ⟨rfl, fn_nr3 hxy hd1⟩ dc_FP_near_16 (Nat.le_of_ble_eq_true rfl) (Nat.le_of_ble_eq_true rfl)
set_option maxHeartbeats 4000000 in
set_option maxRecDepth 100000 in
theorem ct_Mo_near (l : Launch) (D : va_G) (cI cO : ClassId) (tE : Nat) (x y : Int64) (hxy : fn_nr x y) (sz : Nat) : Met l my_Mo_near (fq_w my_Mo_near cb_Mo_near 4 (some .int)) ({ frames := 1, cells := 0, slots := 0, locals := 25 }) (va_Pc ([.long x, .long y]) (fq_Pre D cI cO tE sz ([]))) (va_Qi (S := va_W) (fun r w => w = [] ∧ r.toInt = (2 * x.toInt + y.toInt) / (2 * y.toInt)) (fq_Bw D (va_A ([]) sz)) (va_A ([]) sz)) (0) (0) (va_A ([]) sz) := by
  refine fq_open (by decide +kernel) (Nat.le_of_ble_eq_true rfl) ?_
  intro pg ev s mt below meth cd ls K hret hlk hin hK hZ hP hD hA hS hl
  generalize va_A ([]) sz = A at hZ hD hA hS ⊢
  have K : fq_Ctx pg mt cd cb_Mo_near 4 s _ cn_Mo := K
  have hl : lv_has ls 4 [(0, .long x), (2, .long y)] := hl
  have hy : 0 < (2 * y).toInt := fn_nr2 hxy
  refine lv_ldc2 (v := 2) K.1 K.2.1 K.2.2.2.1 (K.2.2.2.2 _ wd_866) dc_Mo_near_0 ?_
  refine lv_lload_n K.1 K.2.1 dc_Mo_near_3 rfl (lv_at hl 0 rfl) ?_
  refine lv_lmul K.1 K.2.1 dc_Mo_near_4 ?_
  refine lv_lload_n K.1 K.2.1 dc_Mo_near_5 rfl (lv_at hl 1 rfl) ?_
  refine lv_ladd K.1 K.2.1 dc_Mo_near_6 ?_
  refine lv_ldc2 (v := 2) K.1 K.2.1 K.2.2.2.1 (K.2.2.2.2 _ wd_866) dc_Mo_near_7 ?_
  refine lv_lload_n K.1 K.2.1 dc_Mo_near_10 rfl (lv_at hl 1 rfl) ?_
  refine lv_lmul K.1 K.2.1 dc_Mo_near_11 ?_
  have hc := fq_cut.of (wc := []) hP hD hS hA [] (by decide) rfl
  refine fq_cl_ (wr := []) (fq_rS K hK hZ hS hc (ct_Mo_floor l D cI cO tE ((2 * x) + y) (2 * y) hy _) yk_Mo_floor wd_868 wd_867 ⟨⟨rfl, rfl⟩, ⟨Nat.le_of_ble_eq_true rfl, Nat.le_of_ble_eq_true rfl⟩, ⟨Nat.le_of_ble_eq_true rfl, Nat.le_of_ble_eq_true rfl⟩⟩ hl.1 rfl (Nat.le_of_ble_eq_true rfl) dc_Mo_near_12) hP hD hS hc [] [] rfl rfl (by decide) (by decide) (fun r1 w H locs hw1 hP hD hS => ?_)
  obtain ⟨rfl, hd1⟩ := hw1
  have hP : va_P D fq_cl ([]) _ := hP
  have hD : va_D A ([]) := hD
  refine lv_l2i K.1 K.2.1 dc_Mo_near_15 rfl ?_
  exact fq_reti K hret hlk hS hP hD ⟨rfl, fn_nr3 hxy hd1⟩ dc_Mo_near_16 (Nat.le_of_ble_eq_true rfl) (Nat.le_of_ble_eq_true rfl)
set_option maxHeartbeats 4000000 in
set_option maxRecDepth 100000 in
theorem ct_Recent_init (l : Launch) (D : va_G) (cI cO : ClassId) (tE : Nat) (h : Nat) (sz : Nat) : Met l my_Recent_init (fq_w my_Recent_init cb_Recent_init 1 none) ({ frames := 1, cells := 1, slots := 8, locals := 12 }) (va_Pc ([.ref h]) (fq_Pre D cI cO tE sz ([(h, .inr (1, [.null, .int 0]))]))) (va_Qv (S := va_W) (fun w => ∃ q : Nat, w = [(h, .inr (1, [.ref q, .int 0])), (q, .inl (cI, 8, .inl (fun _ => 0)))]) (fq_Bw D (va_A ([(h, .inr (1, [.null, .int 0]))]) sz)) (va_A ([(h, .inr (1, [.null, .int 0]))]) sz)) (1) (8) (va_A ([(h, .inr (1, [.null, .int 0]))]) sz) := by
  refine fq_open (by decide +kernel) (Nat.le_of_ble_eq_true rfl) ?_
  intro pg ev s mt below meth cd ls K hret hlk hin hK hZ hP hD hA hS hl
  generalize va_A ([(h, .inr (1, [.null, .int 0]))]) sz = A at hZ hD hA hS ⊢
  have K : fq_Ctx pg mt cd cb_Recent_init 1 s _ cn_Recent := K
  have hin : meth.name = "<init>" := hin
  have hl : lv_has ls 1 [(0, .ref h)] := hl
  refine lv_aload_n K.1 K.2.1 dc_Recent_init_0 rfl (lv_at hl 0 rfl) ?_
  refine W.objInit K.1 K.2.1 K.2.2.2.1 (K.2.2.2.2 _ wd_382) (K.2.2.2.2 _ wd_54) (K.2.2.2.2 _ wd_55) rfl (by rw [K.2.2.1]; exact hl.1) rfl dc_Recent_init_1 (Nat.le_of_ble_eq_true rfl) (Nat.le_of_ble_eq_true rfl) ?_
  refine W.eq (g2 := F0 mt 4 ls []) rfl ?_
  refine lv_aload_n K.1 K.2.1 dc_Recent_init_4 rfl (lv_at hl 0 rfl) ?_
  refine lv_bipush (v := 8) K.1 K.2.1 dc_Recent_init_5 (by decide) ?_
  refine fq_newI K hK wd_104 hP hD hS hA 8 (by decide) (by decide) (Nat.le_of_ble_eq_true rfl) (Nat.le_of_ble_eq_true rfl) dc_Recent_init_7 (fun q1 H hP hD hS => ?_)
  have hP : va_P D fq_cl ([(h, .inr (1, [.null, .int 0])), (q1, .inl (cI, 8, .inl (fun _ => 0)))]) _ := hP
  have hD : va_D A ([(h, .inr (1, [.null, .int 0])), (q1, .inl (cI, 8, .inl (fun _ => 0)))]) := hD
  refine fq_putF K hK cl_Recent hP hD hS hin 0 0 rfl (by decide) wd_383 rfl rfl rfl rfl (Nat.le_of_ble_eq_true rfl) dc_Recent_init_9 (fun H locs hP hD hS => ?_)
  have hP : va_P D fq_cl ([(h, .inr (1, [.ref q1, .int 0])), (q1, .inl (cI, 8, .inl (fun _ => 0)))]) _ := hP
  have hD : va_D A ([(h, .inr (1, [.ref q1, .int 0])), (q1, .inl (cI, 8, .inl (fun _ => 0)))]) := hD
  exact fq_retv K hret hlk hS hP hD ⟨_, rfl⟩ dc_Recent_init_12 (Nat.le_of_ble_eq_true rfl) (Nat.le_of_ble_eq_true rfl)
set_option maxHeartbeats 4000000 in
set_option maxRecDepth 100000 in
theorem ct_Recent_count (l : Launch) (D : va_G) (cI cO : ClassId) (tE : Nat) (h a : Nat) (f : Nat → Int32) (xs : List Int)  (sz : Nat) : Met l my_Recent_count (fq_w my_Recent_count cb_Recent_count 1 (some .int)) ({ frames := 0, cells := 0, slots := 0, locals := 0 }) (va_Pc ([.ref h]) (fq_Pre D cI cO tE sz ([(h, .inr (1, [.ref a, .int (nI xs.length)])), (a, .inl (cI, 8, .inl f))]))) (va_Qi (S := va_W) (fun r w => w = [(h, .inr (1, [.ref a, .int (nI xs.length)])), (a, .inl (cI, 8, .inl f))] ∧ r = nI xs.length) (fq_Bw D (va_A ([(h, .inr (1, [.ref a, .int (nI xs.length)])), (a, .inl (cI, 8, .inl f))]) sz)) (va_A ([(h, .inr (1, [.ref a, .int (nI xs.length)])), (a, .inl (cI, 8, .inl f))]) sz)) (0) (0) (va_A ([(h, .inr (1, [.ref a, .int (nI xs.length)])), (a, .inl (cI, 8, .inl f))]) sz) := by
  refine fq_open (by decide +kernel) (Nat.le_of_ble_eq_true rfl) ?_
  intro pg ev s mt below meth cd ls K hret hlk hin hK hZ hP hD hA hS hl
  generalize va_A ([(h, .inr (1, [.ref a, .int (nI xs.length)])), (a, .inl (cI, 8, .inl f))]) sz = A at hZ hD hA hS ⊢
  have K : fq_Ctx pg mt cd cb_Recent_count 1 s _ cn_Recent := K
  have hl : lv_has ls 1 [(0, .ref h)] := hl
  refine lv_aload_n K.1 K.2.1 dc_Recent_count_0 rfl (lv_at hl 0 rfl) ?_
  refine fq_get K hK cl_Recent hP 0 1 rfl (by decide) wd_384 rfl dc_Recent_count_1 ?_
  exact fq_reti K hret hlk hS hP hD ⟨rfl, rfl⟩ dc_Recent_count_4 (Nat.le_of_ble_eq_true rfl) (Nat.le_of_ble_eq_true rfl)
set_option maxHeartbeats 4000000 in
set_option maxRecDepth 100000 in
theorem ct_Recent_forget (l : Launch) (D : va_G) (cI cO : ClassId) (tE : Nat) (h a : Nat) (f : Nat → Int32) (xs : List Int)  (sz : Nat) : Met l my_Recent_forget (fq_w my_Recent_forget cb_Recent_forget 1 none) ({ frames := 0, cells := 0, slots := 0, locals := 0 }) (va_Pc ([.ref h]) (fq_Pre D cI cO tE sz ([(h, .inr (1, [.ref a, .int (nI xs.length)])), (a, .inl (cI, 8, .inl f))]))) (va_Qv (S := va_W) (fun w => w = [(h, .inr (1, [.ref a, .int 0])), (a, .inl (cI, 8, .inl f))]) (fq_Bw D (va_A ([(h, .inr (1, [.ref a, .int (nI xs.length)])), (a, .inl (cI, 8, .inl f))]) sz)) (va_A ([(h, .inr (1, [.ref a, .int (nI xs.length)])), (a, .inl (cI, 8, .inl f))]) sz)) (0) (0) (va_A ([(h, .inr (1, [.ref a, .int (nI xs.length)])), (a, .inl (cI, 8, .inl f))]) sz) := by
  refine fq_open (by decide +kernel) (Nat.le_of_ble_eq_true rfl) ?_
  intro pg ev s mt below meth cd ls K hret hlk hin hK hZ hP hD hA hS hl
  generalize va_A ([(h, .inr (1, [.ref a, .int (nI xs.length)])), (a, .inl (cI, 8, .inl f))]) sz = A at hZ hD hA hS ⊢
  have K : fq_Ctx pg mt cd cb_Recent_forget 1 s _ cn_Recent := K
  have hl : lv_has ls 1 [(0, .ref h)] := hl
  refine lv_aload_n K.1 K.2.1 dc_Recent_forget_0 rfl (lv_at hl 0 rfl) ?_
  refine lv_iconst (v := 0) K.1 K.2.1 dc_Recent_forget_1 (by decide) ?_
  refine fq_put K hK cl_Recent hP hD hS 0 1 rfl (by decide) wd_384 rfl rfl rfl (Nat.le_of_ble_eq_true rfl) dc_Recent_forget_2 (fun H locs hP hD hS => ?_)
  have hP : va_P D fq_cl ([(h, .inr (1, [.ref a, .int 0])), (a, .inl (cI, 8, .inl f))]) _ := hP
  have hD : va_D A ([(h, .inr (1, [.ref a, .int 0])), (a, .inl (cI, 8, .inl f))]) := hD
  exact fq_retv K hret hlk hS hP hD rfl dc_Recent_forget_5 (Nat.le_of_ble_eq_true rfl) (Nat.le_of_ble_eq_true rfl)
set_option maxHeartbeats 4000000 in
set_option maxRecDepth 100000 in
theorem ct_Recent_put (l : Launch) (D : va_G) (cI cO : ClassId) (tE : Nat) (h a : Nat) (f : Nat → Int32) (xs : List Int) (x : Int32) (hrc : rc_ok f xs) (hlt : xs.length < 1000000) (sz : Nat) : Met l my_Recent_put (fq_w my_Recent_put cb_Recent_put 2 none) ({ frames := 0, cells := 0, slots := 0, locals := 0 }) (va_Pc ([.ref h, .int x]) (fq_Pre D cI cO tE sz ([(h, .inr (1, [.ref a, .int (nI xs.length)])), (a, .inl (cI, 8, .inl f))]))) (va_Qv (S := va_W) (fun w => ∃ g : Nat → Int32, w = [(h, .inr (1, [.ref a, .int (nI (xs ++ [x.toInt]).length)])), (a, .inl (cI, 8, .inl g))] ∧ rc_ok g (xs ++ [x.toInt])) (fq_Bw D (va_A ([(h, .inr (1, [.ref a, .int (nI xs.length)])), (a, .inl (cI, 8, .inl f))]) sz)) (va_A ([(h, .inr (1, [.ref a, .int (nI xs.length)])), (a, .inl (cI, 8, .inl f))]) sz)) (0) (0) (va_A ([(h, .inr (1, [.ref a, .int (nI xs.length)])), (a, .inl (cI, 8, .inl f))]) sz) := by
  refine fq_open (by decide +kernel) (Nat.le_of_ble_eq_true rfl) ?_
  intro pg ev s mt below meth cd ls K hret hlk hin hK hZ hP hD hA hS hl
  generalize va_A ([(h, .inr (1, [.ref a, .int (nI xs.length)])), (a, .inl (cI, 8, .inl f))]) sz = A at hZ hD hA hS ⊢
  have K : fq_Ctx pg mt cd cb_Recent_put 2 s _ cn_Recent := K
  have hl : lv_has ls 2 [(0, .ref h), (1, .int x)] := hl
  refine lv_aload_n K.1 K.2.1 dc_Recent_put_0 rfl (lv_at hl 0 rfl) ?_
  refine fq_get K hK cl_Recent hP 0 0 rfl (by decide) wd_383 rfl dc_Recent_put_1 ?_
  refine lv_aload_n K.1 K.2.1 dc_Recent_put_4 rfl (lv_at hl 0 rfl) ?_
  refine fq_get K hK cl_Recent hP 0 1 rfl (by decide) wd_384 rfl dc_Recent_put_5 ?_
  refine lv_bipush (v := 8) K.1 K.2.1 dc_Recent_put_8 (by decide) ?_
  refine lv_irem K.1 K.2.1 dc_Recent_put_10 (by decide) ?_
  refine fq_asi (y := nI (xs.length % 8)) (rc_rem (by omega)) ?_
  refine lv_iload_n K.1 K.2.1 dc_Recent_put_11 rfl (lv_at hl 1 rfl) ?_
  refine fq_ast K hK hP hD hS 1 rfl (vp_in_nI (Nat.mod_lt _ (by decide)) (by decide)) dc_Recent_put_12 (fun H locs hP hD hS => ?_)
  rw [nI_clamp (by omega)] at hP hD
  have hP : va_P D fq_cl ([(h, .inr (1, [.ref a, .int (nI xs.length)])), (a, .inl (cI, 8, .inl (upd f (xs.length % 8) x)))]) _ := hP
  have hD : va_D A ([(h, .inr (1, [.ref a, .int (nI xs.length)])), (a, .inl (cI, 8, .inl (upd f (xs.length % 8) x)))]) := hD
  refine lv_aload_n K.1 K.2.1 dc_Recent_put_13 rfl (lv_at hl 0 rfl) ?_
  refine lv_dup K.1 K.2.1 dc_Recent_put_14 rfl ?_
  refine fq_get K hK cl_Recent hP 0 1 rfl (by decide) wd_384 rfl dc_Recent_put_15 ?_
  refine lv_iconst (v := 1) K.1 K.2.1 dc_Recent_put_18 (by decide) ?_
  refine lv_iadd K.1 K.2.1 dc_Recent_put_19 ?_
  refine fq_asi (y := nI (xs ++ [x.toInt]).length) (by rw [nI_1, List.length_append]; rfl) ?_
  refine fq_put K hK cl_Recent hP hD hS 0 1 rfl (by decide) wd_384 rfl rfl rfl (Nat.le_of_ble_eq_true rfl) dc_Recent_put_20 (fun H locs hP hD hS => ?_)
  have hP : va_P D fq_cl ([(h, .inr (1, [.ref a, .int (nI (xs ++ [x.toInt]).length)])), (a, .inl (cI, 8, .inl (upd f (xs.length % 8) x)))]) _ := hP
  have hD : va_D A ([(h, .inr (1, [.ref a, .int (nI (xs ++ [x.toInt]).length)])), (a, .inl (cI, 8, .inl (upd f (xs.length % 8) x)))]) := hD
  exact fq_retv K hret hlk hS hP hD ⟨_, rfl, rc_put hrc⟩ dc_Recent_put_23 (Nat.le_of_ble_eq_true rfl) (Nat.le_of_ble_eq_true rfl)
set_option maxHeartbeats 4000000 in
set_option maxRecDepth 100000 in
theorem ct_Recent_at (l : Launch) (D : va_G) (cI cO : ClassId) (tE : Nat) (h a : Nat) (f : Nat → Int32) (xs : List Int) (x : Int32) (hrc : rc_ok f xs) (sz : Nat) : Met l my_Recent_at (fq_w my_Recent_at cb_Recent_at 2 (some .int)) ({ frames := 0, cells := 0, slots := 0, locals := 0 }) (va_Pc ([.ref h, .int x]) (fq_Pre D cI cO tE sz ([(h, .inr (1, [.ref a, .int (nI xs.length)])), (a, .inl (cI, 8, .inl f))]))) (va_Qi (S := va_W) (fun r w => w = [(h, .inr (1, [.ref a, .int (nI xs.length)])), (a, .inl (cI, 8, .inl f))] ∧ r.toInt = rc_at xs x.toInt) (fq_Bw D (va_A ([(h, .inr (1, [.ref a, .int (nI xs.length)])), (a, .inl (cI, 8, .inl f))]) sz)) (va_A ([(h, .inr (1, [.ref a, .int (nI xs.length)])), (a, .inl (cI, 8, .inl f))]) sz)) (0) (0) (va_A ([(h, .inr (1, [.ref a, .int (nI xs.length)])), (a, .inl (cI, 8, .inl f))]) sz) := by
  refine fq_open (by decide +kernel) (Nat.le_of_ble_eq_true rfl) ?_
  intro pg ev s mt below meth cd ls K hret hlk hin hK hZ hP hD hA hS hl
  generalize va_A ([(h, .inr (1, [.ref a, .int (nI xs.length)])), (a, .inl (cI, 8, .inl f))]) sz = A at hZ hD hA hS ⊢
  have K : fq_Ctx pg mt cd cb_Recent_at 2 s _ cn_Recent := K
  have hl : lv_has ls 2 [(0, .ref h), (1, .int x)] := hl
  refine lv_iload_n K.1 K.2.1 dc_Recent_at_0 rfl (lv_at hl 1 rfl) ?_
  refine lv_if_lt (tgt := 23) K.1 K.2.1 dc_Recent_at_1 rfl (fun b1 => ?_) (fun b1 => ?_)
  · skip
    refine lv_iconst (v := 0) K.1 K.2.1 dc_Recent_at_23 (by decide) ?_
    refine lv_goto (tgt := 36) K.1 K.2.1 dc_Recent_at_24 rfl ?_
    exact fq_reti K hret hlk hS hP hD ⟨rfl, rc_at0 hrc (by first | exact Or.inl b1 | exact Or.inr (Or.inl b9) | exact Or.inr (Or.inr b20))⟩ dc_Recent_at_36 (Nat.le_of_ble_eq_true rfl) (Nat.le_of_ble_eq_true rfl)
  · skip
    refine lv_iload_n K.1 K.2.1 dc_Recent_at_4 rfl (lv_at hl 1 rfl) ?_
    refine lv_aload_n K.1 K.2.1 dc_Recent_at_5 rfl (lv_at hl 0 rfl) ?_
    refine fq_get K hK cl_Recent hP 0 1 rfl (by decide) wd_384 rfl dc_Recent_at_6 ?_
    refine lv_icmp_ge (tgt := 23) K.1 K.2.1 dc_Recent_at_9 rfl (fun b9 => ?_) (fun b9 => ?_)
    · skip
      refine lv_iconst (v := 0) K.1 K.2.1 dc_Recent_at_23 (by decide) ?_
      refine lv_goto (tgt := 36) K.1 K.2.1 dc_Recent_at_24 rfl ?_
      exact fq_reti K hret hlk hS hP hD ⟨rfl, rc_at0 hrc (by first | exact Or.inl b1 | exact Or.inr (Or.inl b9) | exact Or.inr (Or.inr b20))⟩ dc_Recent_at_36 (Nat.le_of_ble_eq_true rfl) (Nat.le_of_ble_eq_true rfl)
    · skip
      refine lv_iload_n K.1 K.2.1 dc_Recent_at_12 rfl (lv_at hl 1 rfl) ?_
      refine lv_aload_n K.1 K.2.1 dc_Recent_at_13 rfl (lv_at hl 0 rfl) ?_
      refine fq_get K hK cl_Recent hP 0 1 rfl (by decide) wd_384 rfl dc_Recent_at_14 ?_
      refine lv_bipush (v := 8) K.1 K.2.1 dc_Recent_at_17 (by decide) ?_
      refine lv_isub K.1 K.2.1 dc_Recent_at_19 ?_
      refine lv_icmp_ge (tgt := 27) K.1 K.2.1 dc_Recent_at_20 rfl (fun b20 => ?_) (fun b20 => ?_)
      · skip
        obtain ⟨k, hk, hx⟩ := nI_of b1
        refine lv_aload_n K.1 K.2.1 dc_Recent_at_27 rfl (lv_at hl 0 rfl) ?_
        refine fq_get K hK cl_Recent hP 0 0 rfl (by decide) wd_383 rfl dc_Recent_at_28 ?_
        refine lv_iload_n K.1 K.2.1 dc_Recent_at_31 rfl (lv_at hl 1 rfl) ?_
        refine lv_bipush (v := 8) K.1 K.2.1 dc_Recent_at_32 (by decide) ?_
        refine lv_irem K.1 K.2.1 dc_Recent_at_34 (by decide) ?_
        refine fq_asi (y := nI (k % 8)) (by rw [hx]; exact rc_rem hk) ?_
        refine fq_ald K hK hP 1 rfl (vp_in_nI (Nat.mod_lt _ (by decide)) (by decide)) dc_Recent_at_35 ?_
        refine fq_asi (y := f (k % 8)) (by rw [nI_clamp (by omega)]) ?_
        exact fq_reti K hret hlk hS hP hD ⟨rfl, rc_at1 hrc hk hx b9 b20⟩ dc_Recent_at_36 (Nat.le_of_ble_eq_true rfl) (Nat.le_of_ble_eq_true rfl)
      · skip
        refine lv_iconst (v := 0) K.1 K.2.1 dc_Recent_at_23 (by decide) ?_
        refine lv_goto (tgt := 36) K.1 K.2.1 dc_Recent_at_24 rfl ?_
        exact fq_reti K hret hlk hS hP hD ⟨rfl, rc_at0 hrc (by first | exact Or.inl b1 | exact Or.inr (Or.inl b9) | exact Or.inr (Or.inr b20))⟩ dc_Recent_at_36 (Nat.le_of_ble_eq_true rfl) (Nat.le_of_ble_eq_true rfl)
set_option maxHeartbeats 4000000 in
set_option maxRecDepth 100000 in
theorem ct_Layout_init (l : Launch) (D : va_G) (cI cO : ClassId) (tE : Nat) (h : Nat) (sz : Nat) : Met l my_Layout_init (fq_w my_Layout_init cb_Layout_init 1 none) ({ frames := 1, cells := 0, slots := 0, locals := 12 }) (va_Pc ([.ref h]) (fq_Pre D cI cO tE sz ([(h, .inr (7, [.int 0, .int 0]))]))) (va_Qv (S := va_W) (fun w => w = [(h, .inr (7, [.int 2, .int 0]))]) (fq_Bw D (va_A ([(h, .inr (7, [.int 0, .int 0]))]) sz)) (va_A ([(h, .inr (7, [.int 0, .int 0]))]) sz)) (0) (0) (va_A ([(h, .inr (7, [.int 0, .int 0]))]) sz) := by
  refine fq_open (by decide +kernel) (Nat.le_of_ble_eq_true rfl) ?_
  intro pg ev s mt below meth cd ls K hret hlk hin hK hZ hP hD hA hS hl
  generalize va_A ([(h, .inr (7, [.int 0, .int 0]))]) sz = A at hZ hD hA hS ⊢
  have K : fq_Ctx pg mt cd cb_Layout_init 1 s _ cn_Layout := K
  have hin : meth.name = "<init>" := hin
  have hl : lv_has ls 1 [(0, .ref h)] := hl
  refine lv_aload_n K.1 K.2.1 dc_Layout_init_0 rfl (lv_at hl 0 rfl) ?_
  refine W.objInit K.1 K.2.1 K.2.2.2.1 (K.2.2.2.2 _ wd_126) (K.2.2.2.2 _ wd_54) (K.2.2.2.2 _ wd_55) rfl (by rw [K.2.2.1]; exact hl.1) rfl dc_Layout_init_1 (Nat.le_of_ble_eq_true rfl) (Nat.le_of_ble_eq_true rfl) ?_
  refine W.eq (g2 := F0 mt 4 ls []) rfl ?_
  refine lv_aload_n K.1 K.2.1 dc_Layout_init_4 rfl (lv_at hl 0 rfl) ?_
  refine lv_iconst (v := 2) K.1 K.2.1 dc_Layout_init_5 (by decide) ?_
  refine fq_put K hK cl_Layout hP hD hS 0 0 rfl (by decide) wd_127 rfl rfl rfl (Nat.le_of_ble_eq_true rfl) dc_Layout_init_6 (fun H locs hP hD hS => ?_)
  have hP : va_P D fq_cl ([(h, .inr (7, [.int 2, .int 0]))]) _ := hP
  have hD : va_D A ([(h, .inr (7, [.int 2, .int 0]))]) := hD
  exact fq_retv K hret hlk hS hP hD rfl dc_Layout_init_9 (Nat.le_of_ble_eq_true rfl) (Nat.le_of_ble_eq_true rfl)
set_option maxHeartbeats 4000000 in
set_option maxRecDepth 100000 in
theorem ct_Layout_choose (l : Launch) (D : va_G) (cI cO : ClassId) (tE : Nat) (h w : Nat) (b : Bool) (w2 : Nat) (b2 : Bool) (hw2 : w2 < 1000) (sz : Nat) : Met l my_Layout_choose (fq_w my_Layout_choose cb_Layout_choose 3 none) ({ frames := 0, cells := 0, slots := 0, locals := 0 }) (va_Pc ([.ref h, .int (nI (8 * w2)), .int (fq_b b2)]) (fq_Pre D cI cO tE sz ([(h, .inr (7, [.int (nI w), .int (fq_b b)]))]))) (va_Qv (S := va_W) (fun w => w = [(h, .inr (7, [.int (nI w2), .int (fq_b b2)]))]) (fq_Bw D (va_A ([(h, .inr (7, [.int (nI w), .int (fq_b b)]))]) sz)) (va_A ([(h, .inr (7, [.int (nI w), .int (fq_b b)]))]) sz)) (0) (0) (va_A ([(h, .inr (7, [.int (nI w), .int (fq_b b)]))]) sz) := by
  refine fq_open (by decide +kernel) (Nat.le_of_ble_eq_true rfl) ?_
  intro pg ev s mt below meth cd ls K hret hlk hin hK hZ hP hD hA hS hl
  generalize va_A ([(h, .inr (7, [.int (nI w), .int (fq_b b)]))]) sz = A at hZ hD hA hS ⊢
  have K : fq_Ctx pg mt cd cb_Layout_choose 3 s _ cn_Layout := K
  have hl : lv_has ls 3 [(0, .ref h), (1, .int (nI (8 * w2))), (2, .int (fq_b b2))] := hl
  refine lv_aload_n K.1 K.2.1 dc_Layout_choose_0 rfl (lv_at hl 0 rfl) ?_
  refine lv_iload_n K.1 K.2.1 dc_Layout_choose_1 rfl (lv_at hl 1 rfl) ?_
  refine lv_bipush (v := 8) K.1 K.2.1 dc_Layout_choose_2 (by decide) ?_
  refine lv_idiv K.1 K.2.1 dc_Layout_choose_4 (by decide) ?_
  refine fq_asi (y := nI w2) (ly_div hw2) ?_
  refine fq_put K hK cl_Layout hP hD hS 0 0 rfl (by decide) wd_127 rfl rfl rfl (Nat.le_of_ble_eq_true rfl) dc_Layout_choose_5 (fun H locs hP hD hS => ?_)
  have hP : va_P D fq_cl ([(h, .inr (7, [.int (nI w2), .int (fq_b b)]))]) _ := hP
  have hD : va_D A ([(h, .inr (7, [.int (nI w2), .int (fq_b b)]))]) := hD
  refine lv_aload_n K.1 K.2.1 dc_Layout_choose_8 rfl (lv_at hl 0 rfl) ?_
  refine lv_iload_n K.1 K.2.1 dc_Layout_choose_9 rfl (lv_at hl 2 rfl) ?_
  refine fq_put K hK cl_Layout hP hD hS 0 1 rfl (by decide) wd_130 rfl (fq_bn b2) (fq_bf b2) (Nat.le_of_ble_eq_true rfl) dc_Layout_choose_10 (fun H locs hP hD hS => ?_)
  have hP : va_P D fq_cl ([(h, .inr (7, [.int (nI w2), .int (fq_b b2)]))]) _ := hP
  have hD : va_D A ([(h, .inr (7, [.int (nI w2), .int (fq_b b2)]))]) := hD
  exact fq_retv K hret hlk hS hP hD rfl dc_Layout_choose_13 (Nat.le_of_ble_eq_true rfl) (Nat.le_of_ble_eq_true rfl)
set_option maxHeartbeats 4000000 in
set_option maxRecDepth 100000 in
theorem ct_Layout_shiftOf (l : Launch) (D : va_G) (cI cO : ClassId) (tE : Nat) (h w : Nat) (b : Bool) (k : Nat) (hk : k < w) (hw : w < 1000) (sz : Nat) : Met l my_Layout_shiftOf (fq_w my_Layout_shiftOf cb_Layout_shiftOf 2 (some .int)) ({ frames := 0, cells := 0, slots := 0, locals := 0 }) (va_Pc ([.ref h, .int (nI k)]) (fq_Pre D cI cO tE sz ([(h, .inr (7, [.int (nI w), .int (fq_b b)]))]))) (va_Qi (S := va_W) (fun r w' => w' = [(h, .inr (7, [.int (nI w), .int (fq_b b)]))] ∧ r = nI (ly_sh w b k)) (fq_Bw D (va_A ([(h, .inr (7, [.int (nI w), .int (fq_b b)]))]) sz)) (va_A ([(h, .inr (7, [.int (nI w), .int (fq_b b)]))]) sz)) (0) (0) (va_A ([(h, .inr (7, [.int (nI w), .int (fq_b b)]))]) sz) := by
  refine fq_open (by decide +kernel) (Nat.le_of_ble_eq_true rfl) ?_
  intro pg ev s mt below meth cd ls K hret hlk hin hK hZ hP hD hA hS hl
  generalize va_A ([(h, .inr (7, [.int (nI w), .int (fq_b b)]))]) sz = A at hZ hD hA hS ⊢
  have K : fq_Ctx pg mt cd cb_Layout_shiftOf 2 s _ cn_Layout := K
  have hl : lv_has ls 2 [(0, .ref h), (1, .int (nI k))] := hl
  refine lv_bipush (v := 8) K.1 K.2.1 dc_Layout_shiftOf_0 (by decide) ?_
  refine lv_aload_n K.1 K.2.1 dc_Layout_shiftOf_2 rfl (lv_at hl 0 rfl) ?_
  refine fq_get K hK cl_Layout hP 0 1 rfl (by decide) wd_130 rfl dc_Layout_shiftOf_3 ?_
  refine lv_if_eq (tgt := 20) K.1 K.2.1 dc_Layout_shiftOf_6 rfl (fun b6 => ?_) (fun b6 => ?_)
  · skip
    have hb := fq_b0 b6
    refine lv_iload_n K.1 K.2.1 dc_Layout_shiftOf_20 rfl (lv_at hl 1 rfl) ?_
    refine lv_imul K.1 K.2.1 dc_Layout_shiftOf_21 ?_
    exact fq_reti K hret hlk hS hP hD ⟨rfl, ly_sh0 hb⟩ dc_Layout_shiftOf_22 (Nat.le_of_ble_eq_true rfl) (Nat.le_of_ble_eq_true rfl)
  · skip
    have hb := fq_b1 b6
    refine lv_aload_n K.1 K.2.1 dc_Layout_shiftOf_9 rfl (lv_at hl 0 rfl) ?_
    refine fq_get K hK cl_Layout hP 0 0 rfl (by decide) wd_127 rfl dc_Layout_shiftOf_10 ?_
    refine lv_iconst (v := 1) K.1 K.2.1 dc_Layout_shiftOf_13 (by decide) ?_
    refine lv_isub K.1 K.2.1 dc_Layout_shiftOf_14 ?_
    refine lv_iload_n K.1 K.2.1 dc_Layout_shiftOf_15 rfl (lv_at hl 1 rfl) ?_
    refine lv_isub K.1 K.2.1 dc_Layout_shiftOf_16 ?_
    refine fq_asi (y := nI (w - 1 - k)) (ly_sub hk) ?_
    refine lv_goto (tgt := 21) K.1 K.2.1 dc_Layout_shiftOf_17 rfl ?_
    refine lv_imul K.1 K.2.1 dc_Layout_shiftOf_21 ?_
    exact fq_reti K hret hlk hS hP hD ⟨rfl, ly_sh1 hb⟩ dc_Layout_shiftOf_22 (Nat.le_of_ble_eq_true rfl) (Nat.le_of_ble_eq_true rfl)
end
section
theorem wd_37 : Cond.initialized cn_Stage ∈ fq_TB := fq_in 37 (by decide +kernel) rfl
theorem wd_38 : Cond.initialized cn_Section ∈ fq_TB := fq_in 38 (by decide +kernel) rfl
theorem wd_42 : Cond.initialized cn_Gain ∈ fq_TB := fq_in 42 (by decide +kernel) rfl
theorem wd_235 : Cond.instanceMethod my_Section_init ∈ fq_TB := fq_in 235 (by decide +kernel) rfl
theorem wd_236 : Cond.code my_Section_init cb_Section_init 6 none ∈ fq_TB := fq_in 236 (by decide +kernel) rfl
theorem wn_237 : Cond.methodLinkNest cn_Section 3 my_Stage_init cn_FP ∈ lw_tbl := List.mem_of_getElem? (i := 237) (by decide +kernel)
theorem wd_238 : Cond.instanceMethod my_Stage_init ∈ fq_TB := fq_in 238 (by decide +kernel) rfl
theorem wd_239 : Cond.code my_Stage_init cb_Stage_init 1 none ∈ fq_TB := fq_in 239 (by decide +kernel) rfl
theorem wd_240 : Cond.methodLink cn_Stage 1 my_Oj_init ∈ fq_TB := fq_in 240 (by decide +kernel) rfl
theorem wd_241 : Cond.fieldLink cn_Section 9 cn_Section "b0" "I" ∈ fq_TB := fq_in 241 (by decide +kernel) rfl
theorem wd_242 : Cond.fieldLink cn_Section 15 cn_Section "b1" "I" ∈ fq_TB := fq_in 242 (by decide +kernel) rfl
theorem wd_243 : Cond.fieldLink cn_Section 18 cn_Section "b2" "I" ∈ fq_TB := fq_in 243 (by decide +kernel) rfl
theorem wd_244 : Cond.fieldLink cn_Section 21 cn_Section "a1" "I" ∈ fq_TB := fq_in 244 (by decide +kernel) rfl
theorem wd_245 : Cond.fieldLink cn_Section 24 cn_Section "a2" "I" ∈ fq_TB := fq_in 245 (by decide +kernel) rfl
theorem wd_246 : Cond.fieldLink cn_Section 33 cn_Section "x0" "I" ∈ fq_TB := fq_in 246 (by decide +kernel) rfl
theorem wd_247 : Cond.fieldLink cn_Section 27 cn_Section "x1" "I" ∈ fq_TB := fq_in 247 (by decide +kernel) rfl
theorem wd_248 : Cond.fieldLink cn_Section 30 cn_Section "x2" "I" ∈ fq_TB := fq_in 248 (by decide +kernel) rfl
theorem wd_249 : Cond.fieldLink cn_Section 36 cn_Section "y1" "I" ∈ fq_TB := fq_in 249 (by decide +kernel) rfl
theorem wd_250 : Cond.fieldLink cn_Section 39 cn_Section "y2" "I" ∈ fq_TB := fq_in 250 (by decide +kernel) rfl
theorem wd_357 : Cond.instanceMethod my_Gain_init ∈ fq_TB := fq_in 357 (by decide +kernel) rfl
theorem wd_358 : Cond.code my_Gain_init cb_Gain_init 2 none ∈ fq_TB := fq_in 358 (by decide +kernel) rfl
theorem wn_359 : Cond.methodLinkNest cn_Gain 3 my_Stage_init cn_FP ∈ lw_tbl := List.mem_of_getElem? (i := 359) (by decide +kernel)
theorem wd_360 : Cond.fieldLink cn_Gain 9 cn_Gain "factor" "I" ∈ fq_TB := fq_in 360 (by decide +kernel) rfl
theorem wd_361 : Cond.fieldLink cn_Gain 15 cn_Gain "latest" "I" ∈ fq_TB := fq_in 361 (by decide +kernel) rfl
theorem wd_490 : Cond.constantLong cn_Section 42 16384 ∈ fq_TB := fq_in 490 (by decide +kernel) rfl
theorem wd_521 : Cond.instanceMethod my_Gain_clear ∈ fq_TB := fq_in 521 (by decide +kernel) rfl
theorem wd_522 : Cond.code my_Gain_clear cb_Gain_clear 1 none ∈ fq_TB := fq_in 522 (by decide +kernel) rfl
theorem wd_531 : Cond.instanceMethod my_Section_clear ∈ fq_TB := fq_in 531 (by decide +kernel) rfl
theorem wd_532 : Cond.code my_Section_clear cb_Section_clear 1 none ∈ fq_TB := fq_in 532 (by decide +kernel) rfl
theorem wd_617 : Cond.instanceMethod my_Gain_take ∈ fq_TB := fq_in 617 (by decide +kernel) rfl
theorem wd_618 : Cond.code my_Gain_take cb_Gain_take 2 (some .int) ∈ fq_TB := fq_in 618 (by decide +kernel) rfl
theorem wd_635 : Cond.instanceMethod my_Section_take ∈ fq_TB := fq_in 635 (by decide +kernel) rfl
theorem wd_636 : Cond.code my_Section_take cb_Section_take 2 (some .int) ∈ fq_TB := fq_in 636 (by decide +kernel) rfl
theorem wd_649 : Cond.instanceMethod my_Gain_make ∈ fq_TB := fq_in 649 (by decide +kernel) rfl
theorem wd_650 : Cond.code my_Gain_make cb_Gain_make 1 (some .int) ∈ fq_TB := fq_in 650 (by decide +kernel) rfl
theorem wd_651 : Cond.constantLong cn_Gain 18 256 ∈ fq_TB := fq_in 651 (by decide +kernel) rfl
theorem wd_652 : Cond.methodLink cn_Gain 20 my_Ma_floorDiv ∈ fq_TB := fq_in 652 (by decide +kernel) rfl
theorem wn_653 : Cond.methodLinkNest cn_Gain 26 my_FP_clipped cn_FP ∈ lw_tbl := List.mem_of_getElem? (i := 653) (by decide +kernel)
theorem wd_677 : Cond.instanceMethod my_Section_make ∈ fq_TB := fq_in 677 (by decide +kernel) rfl
theorem wd_678 : Cond.code my_Section_make cb_Section_make 3 (some .int) ∈ fq_TB := fq_in 678 (by decide +kernel) rfl
theorem wd_679 : Cond.methodLink cn_Section 44 my_Ma_floorDiv ∈ fq_TB := fq_in 679 (by decide +kernel) rfl
theorem wn_680 : Cond.methodLinkNest cn_Section 50 my_FP_clipped cn_FP ∈ lw_tbl := List.mem_of_getElem? (i := 680) (by decide +kernel)
theorem wd_695 : Cond.instanceMethod my_Gain_finish ∈ fq_TB := fq_in 695 (by decide +kernel) rfl
theorem wd_696 : Cond.code my_Gain_finish cb_Gain_finish 1 (some .int) ∈ fq_TB := fq_in 696 (by decide +kernel) rfl
theorem wd_701 : Cond.instanceMethod my_Section_finish ∈ fq_TB := fq_in 701 (by decide +kernel) rfl
theorem wd_702 : Cond.code my_Section_finish cb_Section_finish 1 (some .int) ∈ fq_TB := fq_in 702 (by decide +kernel) rfl

theorem fn_bd {a b : Int} {A B : Nat} (h1 : a.natAbs ≤ A) (h2 : b.natAbs ≤ B) : (a * b).natAbs ≤ A * B := by
  rw [Int.natAbs_mul]; exact Nat.mul_le_mul h1 h2
/-- a product of two ints, the first at most 2^16, the second a sample -/
theorem fn_pr {b x : Int32} (hb : -65536 ≤ b.toInt ∧ b.toInt ≤ 65536) (hx : fm_in x.toInt) : (b.toInt64 * x.toInt64).toInt = b.toInt * x.toInt ∧ (b.toInt * x.toInt).natAbs ≤ 549755813888 := by
  unfold fm_in at hx
  have h := fn_bd (a := b.toInt) (b := x.toInt) (A := 65536) (B := 8388608) (by omega) (by omega)
  refine ⟨?_, h⟩
  rw [Kit.i64_mul (by rw [Kit.i64_of_i32, Kit.i64_of_i32]; omega) (by rw [Kit.i64_of_i32, Kit.i64_of_i32]; omega), Kit.i64_of_i32, Kit.i64_of_i32]
def sc_ok (b0 b1 b2 a1 a2 x0 x1 x2 y1 y2 : Int32) (sp : fm_S) (xs : List Int) (m : Nat) : Prop :=
  sp = (0, b0.toInt, b1.toInt, b2.toInt, a1.toInt, a2.toInt) ∧ fm_ok sp ∧ (∀ v ∈ xs, fm_in v) ∧ m ≤ xs.length ∧ x0.toInt = fm_x xs ((xs.length : Int) - 1) ∧ x1.toInt = fm_x xs ((xs.length : Int) - 2) ∧ x2.toInt = fm_x xs ((xs.length : Int) - 3)
  ∧ (y1.toInt, y2.toInt) = fm_sec b0.toInt b1.toInt b2.toInt a1.toInt a2.toInt xs m
def sg_sec (h : Nat) (sp : fm_S) (xs : List Int) (m : Nat) (ws : va_W) : Prop :=
  ∃ b0 b1 b2 a1 a2 x0 x1 x2 y1 y2 : Int32, ws = [(h, .inr (2, [.int b0, .int b1, .int b2, .int a1, .int a2, .int x0, .int x1, .int x2, .int y1, .int y2]))] ∧ sc_ok b0 b1 b2 a1 a2 x0 x1 x2 y1 y2 sp xs m
theorem fm_in_app {xs : List Int} {x : Int} (h : ∀ v ∈ xs, fm_in v) (hx : fm_in x) : ∀ v ∈ xs ++ [x], fm_in v := fun v hv => (List.mem_append.mp hv).elim (h v) (fun z => by rw [List.mem_singleton.mp z]; exact hx)
theorem fm_x_last (xs : List Int) (x : Int) : fm_x (xs ++ [x]) (xs.length : Int) = x := by
  rw [fm_x_nat]; simp [List.getD_eq_getElem?_getD]
theorem sc_nil {b0 b1 b2 a1 a2 : Int32} {sp : fm_S} (h : sp = (0, b0.toInt, b1.toInt, b2.toInt, a1.toInt, a2.toInt)) (hk : fm_ok sp) : sc_ok b0 b1 b2 a1 a2 0 0 0 0 0 sp [] 0 :=
  ⟨h, hk, fun _ z => absurd z List.not_mem_nil, Nat.le_refl 0, (fm_x_neg (by decide)).symm, (fm_x_neg (by decide)).symm, (fm_x_neg (by decide)).symm, rfl⟩
theorem sc_take {b0 b1 b2 a1 a2 x0 x1 x2 y1 y2 x : Int32} {sp : fm_S} {xs : List Int} {m : Nat} (h : sc_ok b0 b1 b2 a1 a2 x0 x1 x2 y1 y2 sp xs m) (hx : fm_in x.toInt) : sc_ok b0 b1 b2 a1 a2 x x0 x1 y1 y2 sp (xs ++ [x.toInt]) m := by
  obtain ⟨h1, h2, h3, h4, h5, h6, h7, h8⟩ := h
  have e : ((xs ++ [x.toInt]).length : Int) = (xs.length : Int) + 1 := by simp
  refine ⟨h1, h2, fm_in_app h3 hx, by simp; omega, ?_, ?_, ?_, ?_⟩
  · rw [e, show (xs.length : Int) + 1 - 1 = xs.length by omega, fm_x_last]
  · rw [e, fm_x_app (by omega), h5, show (xs.length : Int) + 1 - 2 = xs.length - 1 by omega]
  · rw [e, fm_x_app (by omega), h6, show (xs.length : Int) + 1 - 3 = xs.length - 2 by omega]
  · rw [h8, fm_sec_app h4]
theorem fm_sec_in (b0 b1 b2 a1 a2 : Int) (xs : List Int) : ∀ i, fm_in (fm_sec b0 b1 b2 a1 a2 xs i).1 ∧ fm_in (fm_sec b0 b1 b2 a1 a2 xs i).2
  | 0 => ⟨by show fm_in 0; unfold fm_in; omega, by show fm_in 0; unfold fm_in; omega⟩
  | i + 1 => ⟨fm_clip_in _, (fm_sec_in b0 b1 b2 a1 a2 xs i).1⟩
theorem sc_make {b0 b1 b2 a1 a2 x0 x1 x2 y1 y2 r : Int32} {v q : Int64} {sp : fm_S} {xs : List Int} {m : Nat} (h : sc_ok b0 b1 b2 a1 a2 x0 x1 x2 y1 y2 sp xs m) (hm : m + 1 = xs.length)
    (hv : v = b0.toInt64 * x0.toInt64 + b1.toInt64 * x1.toInt64 + b2.toInt64 * x2.toInt64 - a1.toInt64 * y1.toInt64 - a2.toInt64 * y2.toInt64) (hq : q.toInt = v.toInt / (16384 : Int64).toInt) (hr : r.toInt = fm_clip q.toInt) :
    r.toInt = fm_y sp xs m ∧ sc_ok b0 b1 b2 a1 a2 x0 x1 x2 r y1 sp xs (m + 1) := by
  obtain ⟨h1, h2, h3, h4, h5, h6, h7, h8⟩ := id h
  obtain ⟨g0, g1, g2, g3, g4⟩ := h2.2.1 (by rw [h1])
  rw [h1] at g0 g1 g2 g3 g4
  have k8 := congrArg Prod.fst h8
  have k9 := congrArg Prod.snd h8
  have i8 := fm_sec_in b0.toInt b1.toInt b2.toInt a1.toInt a2.toInt xs m
  rw [← k8, ← k9] at i8
  obtain ⟨p0, q0⟩ := fn_pr g0 (show fm_in x0.toInt by rw [h5]; exact fm_x_in h3 _)
  obtain ⟨p1, q1⟩ := fn_pr g1 (show fm_in x1.toInt by rw [h6]; exact fm_x_in h3 _)
  obtain ⟨p2, q2⟩ := fn_pr g2 (show fm_in x2.toInt by rw [h7]; exact fm_x_in h3 _)
  obtain ⟨p3, q3⟩ := fn_pr g3 i8.1
  obtain ⟨p4, q4⟩ := fn_pr g4 i8.2
  have s1 : (b0.toInt64 * x0.toInt64 + b1.toInt64 * x1.toInt64).toInt = b0.toInt * x0.toInt + b1.toInt * x1.toInt := by rw [Kit.i64_add (by rw [p0, p1]; omega) (by rw [p0, p1]; omega), p0, p1]
  have s2 : (b0.toInt64 * x0.toInt64 + b1.toInt64 * x1.toInt64 + b2.toInt64 * x2.toInt64).toInt = b0.toInt * x0.toInt + b1.toInt * x1.toInt + b2.toInt * x2.toInt := by rw [Kit.i64_add (by rw [s1, p2]; omega) (by rw [s1, p2]; omega), s1, p2]
  have s3 : (b0.toInt64 * x0.toInt64 + b1.toInt64 * x1.toInt64 + b2.toInt64 * x2.toInt64 - a1.toInt64 * y1.toInt64).toInt = b0.toInt * x0.toInt + b1.toInt * x1.toInt + b2.toInt * x2.toInt - a1.toInt * y1.toInt := by rw [Kit.i64_sub (by rw [s2, p3]; omega) (by rw [s2, p3]; omega), s2, p3]
  have s4 : v.toInt = b0.toInt * x0.toInt + b1.toInt * x1.toInt + b2.toInt * x2.toInt - a1.toInt * y1.toInt - a2.toInt * y2.toInt := by rw [hv, Kit.i64_sub (by rw [s3, p4]; omega) (by rw [s3, p4]; omega), s3, p4]
  have e3 : (16384 : Int64).toInt = 16384 := by decide
  have hy : (fm_sec b0.toInt b1.toInt b2.toInt a1.toInt a2.toInt xs (m + 1)) = (r.toInt, y1.toInt) := by
    show (_, _) = (_, _)
    rw [← k8, ← k9, hr, hq, s4, e3, h5, h6, h7]
    rw [show (xs.length : Int) - 1 = (m : Int) by omega, show (xs.length : Int) - 2 = (m : Int) - 1 by omega, show (xs.length : Int) - 3 = (m : Int) - 2 by omega]
  refine ⟨?_, h1, h2, h3, by omega, h5, h6, h7, hy.symm⟩
  rw [h1]
  show _ = (fm_sec b0.toInt b1.toInt b2.toInt a1.toInt a2.toInt xs (m + 1)).1
  rw [hy]
def gn_ok (fa la : Int32) (sp : fm_S) (xs : List Int) (m : Nat) : Prop :=
  sp = (1, fa.toInt, 0, 0, 0, 0) ∧ fm_ok sp ∧ (∀ v ∈ xs, fm_in v) ∧ m ≤ xs.length ∧ la.toInt = fm_x xs ((xs.length : Int) - 1)
def sg_gain (h : Nat) (sp : fm_S) (xs : List Int) (m : Nat) (ws : va_W) : Prop := ∃ fa la : Int32, ws = [(h, .inr (3, [.int fa, .int la]))] ∧ gn_ok fa la sp xs m
theorem gn_nil {fa : Int32} {sp : fm_S} (h : sp = (1, fa.toInt, 0, 0, 0, 0)) (hk : fm_ok sp) : gn_ok fa 0 sp [] 0 := ⟨h, hk, fun _ z => absurd z List.not_mem_nil, Nat.le_refl 0, (fm_x_neg (by decide)).symm⟩
theorem gn_take {fa la x : Int32} {sp : fm_S} {xs : List Int} {m : Nat} (h : gn_ok fa la sp xs m) (hx : fm_in x.toInt) : gn_ok fa x sp (xs ++ [x.toInt]) m := by
  obtain ⟨h1, h2, h3, h4, h5⟩ := h
  refine ⟨h1, h2, fm_in_app h3 hx, by simp; omega, ?_⟩
  rw [show (((xs ++ [x.toInt]).length : Nat) : Int) - 1 = xs.length by simp, fm_x_last]
theorem gn_make {fa la r : Int32} {q : Int64} {sp : fm_S} {xs : List Int} {m : Nat} (h : gn_ok fa la sp xs m) (hm : m + 1 = xs.length) (hq : q.toInt = (fa.toInt64 * la.toInt64).toInt / (256 : Int64).toInt) (hr : r.toInt = fm_clip q.toInt) :
    r.toInt = fm_y sp xs m ∧ gn_ok fa la sp xs (m + 1) := by
  obtain ⟨h1, h2, h3, h4, h5⟩ := id h
  have g := h2.2.2.1 (by rw [h1])
  rw [h1] at g
  have g : -1024 ≤ fa.toInt ∧ fa.toInt ≤ 1024 := g
  obtain ⟨p0, q0⟩ := fn_pr (b := fa) ⟨by omega, by omega⟩ (show fm_in la.toInt by rw [h5]; exact fm_x_in h3 _)
  refine ⟨?_, h1, h2, h3, by omega, h5⟩
  rw [h1]
  show _ = fm_clip (fa.toInt * fm_x xs (m : Int) / 256)
  rw [hr, hq, p0, h5, show (xs.length : Int) - 1 = (m : Int) by omega, show (256 : Int64).toInt = 256 by decide]

theorem dc_Stage_init_0 : decode cb_Stage_init 0 = .ok (.aload_n 0, 1) := by decide +kernel
theorem dc_Stage_init_1 : decode cb_Stage_init 1 = .ok (.invokespecial 1, 3) := by decide +kernel
theorem dc_Stage_init_4 : decode cb_Stage_init 4 = .ok (.return_, 1) := by decide +kernel
theorem yk_Stage_init : fq_Y my_Stage_init cb_Stage_init 1 none 0 := ⟨wd_239, wd_37, by decide +kernel⟩
theorem dc_Section_init_0 : decode cb_Section_init 0 = .ok (.aload_n 0, 1) := by decide +kernel
theorem dc_Section_init_1 : decode cb_Section_init 1 = .ok (.invokespecial 3, 3) := by decide +kernel
theorem dc_Section_init_4 : decode cb_Section_init 4 = .ok (.aload_n 0, 1) := by decide +kernel
theorem dc_Section_init_5 : decode cb_Section_init 5 = .ok (.iload_n 1, 1) := by decide +kernel
theorem dc_Section_init_6 : decode cb_Section_init 6 = .ok (.putfield 9, 3) := by decide +kernel
theorem dc_Section_init_9 : decode cb_Section_init 9 = .ok (.aload_n 0, 1) := by decide +kernel
theorem dc_Section_init_10 : decode cb_Section_init 10 = .ok (.iload_n 2, 1) := by decide +kernel
theorem dc_Section_init_11 : decode cb_Section_init 11 = .ok (.putfield 15, 3) := by decide +kernel
theorem dc_Section_init_14 : decode cb_Section_init 14 = .ok (.aload_n 0, 1) := by decide +kernel
theorem dc_Section_init_15 : decode cb_Section_init 15 = .ok (.iload_n 3, 1) := by decide +kernel
theorem dc_Section_init_16 : decode cb_Section_init 16 = .ok (.putfield 18, 3) := by decide +kernel
theorem dc_Section_init_19 : decode cb_Section_init 19 = .ok (.aload_n 0, 1) := by decide +kernel
theorem dc_Section_init_20 : decode cb_Section_init 20 = .ok (.iload 4, 2) := by decide +kernel
theorem dc_Section_init_22 : decode cb_Section_init 22 = .ok (.putfield 21, 3) := by decide +kernel
theorem dc_Section_init_25 : decode cb_Section_init 25 = .ok (.aload_n 0, 1) := by decide +kernel
theorem dc_Section_init_26 : decode cb_Section_init 26 = .ok (.iload 5, 2) := by decide +kernel
theorem dc_Section_init_28 : decode cb_Section_init 28 = .ok (.putfield 24, 3) := by decide +kernel
theorem dc_Section_init_31 : decode cb_Section_init 31 = .ok (.return_, 1) := by decide +kernel
theorem yk_Section_init : fq_Y my_Section_init cb_Section_init 6 none 5 := ⟨wd_236, wd_38, by decide +kernel⟩
theorem dc_Section_take_0 : decode cb_Section_take 0 = .ok (.aload_n 0, 1) := by decide +kernel
theorem dc_Section_take_1 : decode cb_Section_take 1 = .ok (.aload_n 0, 1) := by decide +kernel
theorem dc_Section_take_2 : decode cb_Section_take 2 = .ok (.getfield 27, 3) := by decide +kernel
theorem dc_Section_take_5 : decode cb_Section_take 5 = .ok (.putfield 30, 3) := by decide +kernel
theorem dc_Section_take_8 : decode cb_Section_take 8 = .ok (.aload_n 0, 1) := by decide +kernel
theorem dc_Section_take_9 : decode cb_Section_take 9 = .ok (.aload_n 0, 1) := by decide +kernel
theorem dc_Section_take_10 : decode cb_Section_take 10 = .ok (.getfield 33, 3) := by decide +kernel
theorem dc_Section_take_13 : decode cb_Section_take 13 = .ok (.putfield 27, 3) := by decide +kernel
theorem dc_Section_take_16 : decode cb_Section_take 16 = .ok (.aload_n 0, 1) := by decide +kernel
theorem dc_Section_take_17 : decode cb_Section_take 17 = .ok (.iload_n 1, 1) := by decide +kernel
theorem dc_Section_take_18 : decode cb_Section_take 18 = .ok (.putfield 33, 3) := by decide +kernel
theorem dc_Section_take_21 : decode cb_Section_take 21 = .ok (.iconst 1, 1) := by decide +kernel
theorem dc_Section_take_22 : decode cb_Section_take 22 = .ok (.ireturn, 1) := by decide +kernel
theorem yk_Section_take : fq_Y my_Section_take cb_Section_take 2 (some .int) 1 := ⟨wd_636, wd_38, by decide +kernel⟩
theorem dc_Section_finish_0 : decode cb_Section_finish 0 = .ok (.iconst 0, 1) := by decide +kernel
theorem dc_Section_finish_1 : decode cb_Section_finish 1 = .ok (.ireturn, 1) := by decide +kernel
theorem yk_Section_finish : fq_Y my_Section_finish cb_Section_finish 1 (some .int) 0 := ⟨wd_702, wd_38, by decide +kernel⟩
theorem dc_Section_make_0 : decode cb_Section_make 0 = .ok (.aload_n 0, 1) := by decide +kernel
theorem dc_Section_make_1 : decode cb_Section_make 1 = .ok (.getfield 9, 3) := by decide +kernel
theorem dc_Section_make_4 : decode cb_Section_make 4 = .ok (.i2l, 1) := by decide +kernel
theorem dc_Section_make_5 : decode cb_Section_make 5 = .ok (.aload_n 0, 1) := by decide +kernel
theorem dc_Section_make_6 : decode cb_Section_make 6 = .ok (.getfield 33, 3) := by decide +kernel
theorem dc_Section_make_9 : decode cb_Section_make 9 = .ok (.i2l, 1) := by decide +kernel
theorem dc_Section_make_10 : decode cb_Section_make 10 = .ok (.lmul, 1) := by decide +kernel
theorem dc_Section_make_11 : decode cb_Section_make 11 = .ok (.aload_n 0, 1) := by decide +kernel
theorem dc_Section_make_12 : decode cb_Section_make 12 = .ok (.getfield 15, 3) := by decide +kernel
theorem dc_Section_make_15 : decode cb_Section_make 15 = .ok (.i2l, 1) := by decide +kernel
theorem dc_Section_make_16 : decode cb_Section_make 16 = .ok (.aload_n 0, 1) := by decide +kernel
theorem dc_Section_make_17 : decode cb_Section_make 17 = .ok (.getfield 27, 3) := by decide +kernel
theorem dc_Section_make_20 : decode cb_Section_make 20 = .ok (.i2l, 1) := by decide +kernel
theorem dc_Section_make_21 : decode cb_Section_make 21 = .ok (.lmul, 1) := by decide +kernel
theorem dc_Section_make_22 : decode cb_Section_make 22 = .ok (.ladd, 1) := by decide +kernel
theorem dc_Section_make_23 : decode cb_Section_make 23 = .ok (.aload_n 0, 1) := by decide +kernel
theorem dc_Section_make_24 : decode cb_Section_make 24 = .ok (.getfield 18, 3) := by decide +kernel
theorem dc_Section_make_27 : decode cb_Section_make 27 = .ok (.i2l, 1) := by decide +kernel
theorem dc_Section_make_28 : decode cb_Section_make 28 = .ok (.aload_n 0, 1) := by decide +kernel
theorem dc_Section_make_29 : decode cb_Section_make 29 = .ok (.getfield 30, 3) := by decide +kernel
theorem dc_Section_make_32 : decode cb_Section_make 32 = .ok (.i2l, 1) := by decide +kernel
theorem dc_Section_make_33 : decode cb_Section_make 33 = .ok (.lmul, 1) := by decide +kernel
theorem dc_Section_make_34 : decode cb_Section_make 34 = .ok (.ladd, 1) := by decide +kernel
theorem dc_Section_make_35 : decode cb_Section_make 35 = .ok (.aload_n 0, 1) := by decide +kernel
theorem dc_Section_make_36 : decode cb_Section_make 36 = .ok (.getfield 21, 3) := by decide +kernel
theorem dc_Section_make_39 : decode cb_Section_make 39 = .ok (.i2l, 1) := by decide +kernel
theorem dc_Section_make_40 : decode cb_Section_make 40 = .ok (.aload_n 0, 1) := by decide +kernel
theorem dc_Section_make_41 : decode cb_Section_make 41 = .ok (.getfield 36, 3) := by decide +kernel
theorem dc_Section_make_44 : decode cb_Section_make 44 = .ok (.i2l, 1) := by decide +kernel
theorem dc_Section_make_45 : decode cb_Section_make 45 = .ok (.lmul, 1) := by decide +kernel
theorem dc_Section_make_46 : decode cb_Section_make 46 = .ok (.lsub, 1) := by decide +kernel
theorem dc_Section_make_47 : decode cb_Section_make 47 = .ok (.aload_n 0, 1) := by decide +kernel
theorem dc_Section_make_48 : decode cb_Section_make 48 = .ok (.getfield 24, 3) := by decide +kernel
theorem dc_Section_make_51 : decode cb_Section_make 51 = .ok (.i2l, 1) := by decide +kernel
theorem dc_Section_make_52 : decode cb_Section_make 52 = .ok (.aload_n 0, 1) := by decide +kernel
theorem dc_Section_make_53 : decode cb_Section_make 53 = .ok (.getfield 39, 3) := by decide +kernel
theorem dc_Section_make_56 : decode cb_Section_make 56 = .ok (.i2l, 1) := by decide +kernel
theorem dc_Section_make_57 : decode cb_Section_make 57 = .ok (.lmul, 1) := by decide +kernel
theorem dc_Section_make_58 : decode cb_Section_make 58 = .ok (.lsub, 1) := by decide +kernel
theorem dc_Section_make_59 : decode cb_Section_make 59 = .ok (.lstore_n 1, 1) := by decide +kernel
theorem dc_Section_make_60 : decode cb_Section_make 60 = .ok (.aload_n 0, 1) := by decide +kernel
theorem dc_Section_make_61 : decode cb_Section_make 61 = .ok (.aload_n 0, 1) := by decide +kernel
theorem dc_Section_make_62 : decode cb_Section_make 62 = .ok (.getfield 36, 3) := by decide +kernel
theorem dc_Section_make_65 : decode cb_Section_make 65 = .ok (.putfield 39, 3) := by decide +kernel
theorem dc_Section_make_68 : decode cb_Section_make 68 = .ok (.aload_n 0, 1) := by decide +kernel
theorem dc_Section_make_69 : decode cb_Section_make 69 = .ok (.lload_n 1, 1) := by decide +kernel
theorem dc_Section_make_70 : decode cb_Section_make 70 = .ok (.ldc2_w 42, 3) := by decide +kernel
theorem dc_Section_make_73 : decode cb_Section_make 73 = .ok (.invokestatic 44, 3) := by decide +kernel
theorem dc_Section_make_76 : decode cb_Section_make 76 = .ok (.invokestatic 50, 3) := by decide +kernel
theorem dc_Section_make_79 : decode cb_Section_make 79 = .ok (.putfield 36, 3) := by decide +kernel
theorem dc_Section_make_82 : decode cb_Section_make 82 = .ok (.aload_n 0, 1) := by decide +kernel
theorem dc_Section_make_83 : decode cb_Section_make 83 = .ok (.getfield 36, 3) := by decide +kernel
theorem dc_Section_make_86 : decode cb_Section_make 86 = .ok (.ireturn, 1) := by decide +kernel
theorem yk_Section_make : fq_Y my_Section_make cb_Section_make 3 (some .int) 0 := ⟨wd_678, wd_38, by decide +kernel⟩
theorem dc_Section_clear_0 : decode cb_Section_clear 0 = .ok (.aload_n 0, 1) := by decide +kernel
theorem dc_Section_clear_1 : decode cb_Section_clear 1 = .ok (.iconst 0, 1) := by decide +kernel
theorem dc_Section_clear_2 : decode cb_Section_clear 2 = .ok (.putfield 33, 3) := by decide +kernel
theorem dc_Section_clear_5 : decode cb_Section_clear 5 = .ok (.aload_n 0, 1) := by decide +kernel
theorem dc_Section_clear_6 : decode cb_Section_clear 6 = .ok (.iconst 0, 1) := by decide +kernel
theorem dc_Section_clear_7 : decode cb_Section_clear 7 = .ok (.putfield 27, 3) := by decide +kernel
theorem dc_Section_clear_10 : decode cb_Section_clear 10 = .ok (.aload_n 0, 1) := by decide +kernel
theorem dc_Section_clear_11 : decode cb_Section_clear 11 = .ok (.iconst 0, 1) := by decide +kernel
theorem dc_Section_clear_12 : decode cb_Section_clear 12 = .ok (.putfield 30, 3) := by decide +kernel
theorem dc_Section_clear_15 : decode cb_Section_clear 15 = .ok (.aload_n 0, 1) := by decide +kernel
theorem dc_Section_clear_16 : decode cb_Section_clear 16 = .ok (.iconst 0, 1) := by decide +kernel
theorem dc_Section_clear_17 : decode cb_Section_clear 17 = .ok (.putfield 36, 3) := by decide +kernel
theorem dc_Section_clear_20 : decode cb_Section_clear 20 = .ok (.aload_n 0, 1) := by decide +kernel
theorem dc_Section_clear_21 : decode cb_Section_clear 21 = .ok (.iconst 0, 1) := by decide +kernel
theorem dc_Section_clear_22 : decode cb_Section_clear 22 = .ok (.putfield 39, 3) := by decide +kernel
theorem dc_Section_clear_25 : decode cb_Section_clear 25 = .ok (.return_, 1) := by decide +kernel
theorem yk_Section_clear : fq_Y my_Section_clear cb_Section_clear 1 none 0 := ⟨wd_532, wd_38, by decide +kernel⟩
theorem dc_Gain_init_0 : decode cb_Gain_init 0 = .ok (.aload_n 0, 1) := by decide +kernel
theorem dc_Gain_init_1 : decode cb_Gain_init 1 = .ok (.invokespecial 3, 3) := by decide +kernel
theorem dc_Gain_init_4 : decode cb_Gain_init 4 = .ok (.aload_n 0, 1) := by decide +kernel
theorem dc_Gain_init_5 : decode cb_Gain_init 5 = .ok (.iload_n 1, 1) := by decide +kernel
theorem dc_Gain_init_6 : decode cb_Gain_init 6 = .ok (.putfield 9, 3) := by decide +kernel
theorem dc_Gain_init_9 : decode cb_Gain_init 9 = .ok (.return_, 1) := by decide +kernel
theorem yk_Gain_init : fq_Y my_Gain_init cb_Gain_init 2 none 1 := ⟨wd_358, wd_42, by decide +kernel⟩
theorem dc_Gain_take_0 : decode cb_Gain_take 0 = .ok (.aload_n 0, 1) := by decide +kernel
theorem dc_Gain_take_1 : decode cb_Gain_take 1 = .ok (.iload_n 1, 1) := by decide +kernel
theorem dc_Gain_take_2 : decode cb_Gain_take 2 = .ok (.putfield 15, 3) := by decide +kernel
theorem dc_Gain_take_5 : decode cb_Gain_take 5 = .ok (.iconst 1, 1) := by decide +kernel
theorem dc_Gain_take_6 : decode cb_Gain_take 6 = .ok (.ireturn, 1) := by decide +kernel
theorem yk_Gain_take : fq_Y my_Gain_take cb_Gain_take 2 (some .int) 1 := ⟨wd_618, wd_42, by decide +kernel⟩
theorem dc_Gain_finish_0 : decode cb_Gain_finish 0 = .ok (.iconst 0, 1) := by decide +kernel
theorem dc_Gain_finish_1 : decode cb_Gain_finish 1 = .ok (.ireturn, 1) := by decide +kernel
theorem yk_Gain_finish : fq_Y my_Gain_finish cb_Gain_finish 1 (some .int) 0 := ⟨wd_696, wd_42, by decide +kernel⟩
theorem dc_Gain_make_0 : decode cb_Gain_make 0 = .ok (.aload_n 0, 1) := by decide +kernel
theorem dc_Gain_make_1 : decode cb_Gain_make 1 = .ok (.getfield 9, 3) := by decide +kernel
theorem dc_Gain_make_4 : decode cb_Gain_make 4 = .ok (.i2l, 1) := by decide +kernel
theorem dc_Gain_make_5 : decode cb_Gain_make 5 = .ok (.aload_n 0, 1) := by decide +kernel
theorem dc_Gain_make_6 : decode cb_Gain_make 6 = .ok (.getfield 15, 3) := by decide +kernel
theorem dc_Gain_make_9 : decode cb_Gain_make 9 = .ok (.i2l, 1) := by decide +kernel
theorem dc_Gain_make_10 : decode cb_Gain_make 10 = .ok (.lmul, 1) := by decide +kernel
theorem dc_Gain_make_11 : decode cb_Gain_make 11 = .ok (.ldc2_w 18, 3) := by decide +kernel
theorem dc_Gain_make_14 : decode cb_Gain_make 14 = .ok (.invokestatic 20, 3) := by decide +kernel
theorem dc_Gain_make_17 : decode cb_Gain_make 17 = .ok (.invokestatic 26, 3) := by decide +kernel
theorem dc_Gain_make_20 : decode cb_Gain_make 20 = .ok (.ireturn, 1) := by decide +kernel
theorem yk_Gain_make : fq_Y my_Gain_make cb_Gain_make 1 (some .int) 0 := ⟨wd_650, wd_42, by decide +kernel⟩
theorem dc_Gain_clear_0 : decode cb_Gain_clear 0 = .ok (.aload_n 0, 1) := by decide +kernel
theorem dc_Gain_clear_1 : decode cb_Gain_clear 1 = .ok (.iconst 0, 1) := by decide +kernel
theorem dc_Gain_clear_2 : decode cb_Gain_clear 2 = .ok (.putfield 15, 3) := by decide +kernel
theorem dc_Gain_clear_5 : decode cb_Gain_clear 5 = .ok (.return_, 1) := by decide +kernel
theorem yk_Gain_clear : fq_Y my_Gain_clear cb_Gain_clear 1 none 0 := ⟨wd_522, wd_42, by decide +kernel⟩
set_option maxHeartbeats 4000000 in
set_option maxRecDepth 100000 in
theorem ct_Stage_init (l : Launch) (D : va_G) (cI cO : ClassId) (tE : Nat) (h : Nat) (sz : Nat) : Met l my_Stage_init (fq_w my_Stage_init cb_Stage_init 1 none) ({ frames := 1, cells := 0, slots := 0, locals := 12 }) (va_Pc ([.ref h]) (fq_Pre D cI cO tE sz ([]))) (va_Qv (S := va_W) (fun w => w = []) (fq_Bw D (va_A ([]) sz)) (va_A ([]) sz)) (0) (0) (va_A ([]) sz) := by
  refine fq_open (by decide +kernel) (Nat.le_of_ble_eq_true rfl) ?_
  intro pg ev s mt below meth cd ls K hret hlk hin hK hZ hP hD hA hS hl
  generalize va_A ([]) sz = A at hZ hD hA hS ⊢
  have K : fq_Ctx pg mt cd cb_Stage_init 1 s _ cn_Stage := K
  have hin : meth.name = "<init>" := hin
  have hl : lv_has ls 1 [(0, .ref h)] := hl
  refine lv_aload_n K.1 K.2.1 dc_Stage_init_0 rfl (lv_at hl 0 rfl) ?_
  refine W.objInit K.1 K.2.1 K.2.2.2.1 (K.2.2.2.2 _ wd_240) (K.2.2.2.2 _ wd_54) (K.2.2.2.2 _ wd_55) rfl (by rw [K.2.2.1]; exact hl.1) rfl dc_Stage_init_1 (Nat.le_of_ble_eq_true rfl) (Nat.le_of_ble_eq_true rfl) ?_
  refine W.eq (g2 := F0 mt 4 ls []) rfl ?_
  exact fq_retv K hret hlk hS hP hD rfl dc_Stage_init_4 (Nat.le_of_ble_eq_true rfl) (Nat.le_of_ble_eq_true rfl)
set_option maxHeartbeats 4000000 in
set_option maxRecDepth 100000 in
theorem ct_Section_init (l : Launch) (D : va_G) (cI cO : ClassId) (tE : Nat) (h : Nat) (b0 b1 b2 a1 a2 : Int32) (sz : Nat) : Met l my_Section_init (fq_w my_Section_init cb_Section_init 6 none) ({ frames := 2, cells := 0, slots := 0, locals := 32 }) (va_Pc ([.ref h, .int b0, .int b1, .int b2, .int a1, .int a2]) (fq_Pre D cI cO tE sz ([(h, .inr (2, [.int 0, .int 0, .int 0, .int 0, .int 0, .int 0, .int 0, .int 0, .int 0, .int 0]))]))) (va_Qv (S := va_W) (fun w => w = [(h, .inr (2, [.int b0, .int b1, .int b2, .int a1, .int a2, .int 0, .int 0, .int 0, .int 0, .int 0]))]) (fq_Bw D (va_A ([(h, .inr (2, [.int 0, .int 0, .int 0, .int 0, .int 0, .int 0, .int 0, .int 0, .int 0, .int 0]))]) sz)) (va_A ([(h, .inr (2, [.int 0, .int 0, .int 0, .int 0, .int 0, .int 0, .int 0, .int 0, .int 0, .int 0]))]) sz)) (0) (0) (va_A ([(h, .inr (2, [.int 0, .int 0, .int 0, .int 0, .int 0, .int 0, .int 0, .int 0, .int 0, .int 0]))]) sz) := by
  refine fq_open (by decide +kernel) (Nat.le_of_ble_eq_true rfl) ?_
  intro pg ev s mt below meth cd ls K hret hlk hin hK hZ hP hD hA hS hl
  generalize va_A ([(h, .inr (2, [.int 0, .int 0, .int 0, .int 0, .int 0, .int 0, .int 0, .int 0, .int 0, .int 0]))]) sz = A at hZ hD hA hS ⊢
  have K : fq_Ctx pg mt cd cb_Section_init 6 s _ cn_Section := K
  have hin : meth.name = "<init>" := hin
  have hl : lv_has ls 6 [(0, .ref h), (1, .int b0), (2, .int b1), (3, .int b2), (4, .int a1), (5, .int a2)] := hl
  refine lv_aload_n K.1 K.2.1 dc_Section_init_0 rfl (lv_at hl 0 rfl) ?_
  have hc := fq_cut.of (wc := []) hP hD hS hA [] (by decide) rfl
  refine fq_cv (wr := [(h, .inr (2, [.int 0, .int 0, .int 0, .int 0, .int 0, .int 0, .int 0, .int 0, .int 0, .int 0]))]) (fq_rIN K hK hZ hS hc (ct_Stage_init l D cI cO tE h _) yk_Stage_init wd_238 rfl wn_237 ⟨⟨rfl, rfl⟩, ⟨Nat.le_of_ble_eq_true rfl, Nat.le_of_ble_eq_true rfl⟩, ⟨Nat.le_of_ble_eq_true rfl, Nat.le_of_ble_eq_true rfl⟩⟩ hl.1 rfl (Nat.le_of_ble_eq_true rfl) dc_Section_init_1) hP hD hS hc [] [0] rfl rfl (by decide) (by decide) (fun  w H locs hw1 hP hD hS => ?_)
  subst hw1
  have hP : va_P D fq_cl ([(h, .inr (2, [.int 0, .int 0, .int 0, .int 0, .int 0, .int 0, .int 0, .int 0, .int 0, .int 0]))]) _ := hP
  have hD : va_D A ([(h, .inr (2, [.int 0, .int 0, .int 0, .int 0, .int 0, .int 0, .int 0, .int 0, .int 0, .int 0]))]) := hD
  refine lv_aload_n K.1 K.2.1 dc_Section_init_4 rfl (lv_at hl 0 rfl) ?_
  refine lv_iload_n K.1 K.2.1 dc_Section_init_5 rfl (lv_at hl 1 rfl) ?_
  refine fq_putF K hK cl_Section hP hD hS hin 0 0 rfl (by decide) wd_241 rfl rfl rfl rfl (Nat.le_of_ble_eq_true rfl) dc_Section_init_6 (fun H locs hP hD hS => ?_)
  have hP : va_P D fq_cl ([(h, .inr (2, [.int b0, .int 0, .int 0, .int 0, .int 0, .int 0, .int 0, .int 0, .int 0, .int 0]))]) _ := hP
  have hD : va_D A ([(h, .inr (2, [.int b0, .int 0, .int 0, .int 0, .int 0, .int 0, .int 0, .int 0, .int 0, .int 0]))]) := hD
  refine lv_aload_n K.1 K.2.1 dc_Section_init_9 rfl (lv_at hl 0 rfl) ?_
  refine lv_iload_n K.1 K.2.1 dc_Section_init_10 rfl (lv_at hl 2 rfl) ?_
  refine fq_putF K hK cl_Section hP hD hS hin 0 1 rfl (by decide) wd_242 rfl rfl rfl rfl (Nat.le_of_ble_eq_true rfl) dc_Section_init_11 (fun H locs hP hD hS => ?_)
  have hP : va_P D fq_cl ([(h, .inr (2, [.int b0, .int b1, .int 0, .int 0, .int 0, .int 0, .int 0, .int 0, .int 0, .int 0]))]) _ := hP
  have hD : va_D A ([(h, .inr (2, [.int b0, .int b1, .int 0, .int 0, .int 0, .int 0, .int 0, .int 0, .int 0, .int 0]))]) := hD
  refine lv_aload_n K.1 K.2.1 dc_Section_init_14 rfl (lv_at hl 0 rfl) ?_
  refine lv_iload_n K.1 K.2.1 dc_Section_init_15 rfl (lv_at hl 3 rfl) ?_
  refine fq_putF K hK cl_Section hP hD hS hin 0 2 rfl (by decide) wd_243 rfl rfl rfl rfl (Nat.le_of_ble_eq_true rfl) dc_Section_init_16 (fun H locs hP hD hS => ?_)
  have hP : va_P D fq_cl ([(h, .inr (2, [.int b0, .int b1, .int b2, .int 0, .int 0, .int 0, .int 0, .int 0, .int 0, .int 0]))]) _ := hP
  have hD : va_D A ([(h, .inr (2, [.int b0, .int b1, .int b2, .int 0, .int 0, .int 0, .int 0, .int 0, .int 0, .int 0]))]) := hD
  refine lv_aload_n K.1 K.2.1 dc_Section_init_19 rfl (lv_at hl 0 rfl) ?_
  refine lv_iload K.1 K.2.1 dc_Section_init_20 (lv_at hl 4 rfl) ?_
  refine fq_putF K hK cl_Section hP hD hS hin 0 3 rfl (by decide) wd_244 rfl rfl rfl rfl (Nat.le_of_ble_eq_true rfl) dc_Section_init_22 (fun H locs hP hD hS => ?_)
  have hP : va_P D fq_cl ([(h, .inr (2, [.int b0, .int b1, .int b2, .int a1, .int 0, .int 0, .int 0, .int 0, .int 0, .int 0]))]) _ := hP
  have hD : va_D A ([(h, .inr (2, [.int b0, .int b1, .int b2, .int a1, .int 0, .int 0, .int 0, .int 0, .int 0, .int 0]))]) := hD
  refine lv_aload_n K.1 K.2.1 dc_Section_init_25 rfl (lv_at hl 0 rfl) ?_
  refine lv_iload K.1 K.2.1 dc_Section_init_26 (lv_at hl 5 rfl) ?_
  refine fq_putF K hK cl_Section hP hD hS hin 0 4 rfl (by decide) wd_245 rfl rfl rfl rfl (Nat.le_of_ble_eq_true rfl) dc_Section_init_28 (fun H locs hP hD hS => ?_)
  have hP : va_P D fq_cl ([(h, .inr (2, [.int b0, .int b1, .int b2, .int a1, .int a2, .int 0, .int 0, .int 0, .int 0, .int 0]))]) _ := hP
  have hD : va_D A ([(h, .inr (2, [.int b0, .int b1, .int b2, .int a1, .int a2, .int 0, .int 0, .int 0, .int 0, .int 0]))]) := hD
  exact fq_retv K hret hlk hS hP hD rfl dc_Section_init_31 (Nat.le_of_ble_eq_true rfl) (Nat.le_of_ble_eq_true rfl)
set_option maxHeartbeats 4000000 in
set_option maxRecDepth 100000 in
theorem ct_Section_take (l : Launch) (D : va_G) (cI cO : ClassId) (tE : Nat) (h : Nat) (b0 b1 b2 a1 a2 x0 x1 x2 y1 y2 : Int32) (sp : fm_S) (xs : List Int) (m : Nat) (x : Int32) (hsc : sc_ok b0 b1 b2 a1 a2 x0 x1 x2 y1 y2 sp xs m) (hx : fm_in x.toInt) (sz : Nat) : Met l my_Section_take (fq_w my_Section_take cb_Section_take 2 (some .int)) ({ frames := 0, cells := 0, slots := 0, locals := 0 }) (va_Pc ([.ref h, .int x]) (fq_Pre D cI cO tE sz ([(h, .inr (2, [.int b0, .int b1, .int b2, .int a1, .int a2, .int x0, .int x1, .int x2, .int y1, .int y2]))]))) (va_Qi (S := va_W) (fun r w => r = 1 ∧ sg_sec h sp (xs ++ [x.toInt]) m w) (fq_Bw D (va_A ([(h, .inr (2, [.int b0, .int b1, .int b2, .int a1, .int a2, .int x0, .int x1, .int x2, .int y1, .int y2]))]) sz)) (va_A ([(h, .inr (2, [.int b0, .int b1, .int b2, .int a1, .int a2, .int x0, .int x1, .int x2, .int y1, .int y2]))]) sz)) (0) (0) (va_A ([(h, .inr (2, [.int b0, .int b1, .int b2, .int a1, .int a2, .int x0, .int x1, .int x2, .int y1, .int y2]))]) sz) := by
  refine fq_open (by decide +kernel) (Nat.le_of_ble_eq_true rfl) ?_
  intro pg ev s mt below meth cd ls K hret hlk hin hK hZ hP hD hA hS hl
  generalize va_A ([(h, .inr (2, [.int b0, .int b1, .int b2, .int a1, .int a2, .int x0, .int x1, .int x2, .int y1, .int y2]))]) sz = A at hZ hD hA hS ⊢
  have K : fq_Ctx pg mt cd cb_Section_take 2 s _ cn_Section := K
  have hl : lv_has ls 2 [(0, .ref h), (1, .int x)] := hl
  refine lv_aload_n K.1 K.2.1 dc_Section_take_0 rfl (lv_at hl 0 rfl) ?_
  refine lv_aload_n K.1 K.2.1 dc_Section_take_1 rfl (lv_at hl 0 rfl) ?_
  refine fq_get K hK cl_Section hP 0 6 rfl (by decide) wd_247 rfl dc_Section_take_2 ?_
  refine fq_put K hK cl_Section hP hD hS 0 7 rfl (by decide) wd_248 rfl rfl rfl (Nat.le_of_ble_eq_true rfl) dc_Section_take_5 (fun H locs hP hD hS => ?_)
  have hP : va_P D fq_cl ([(h, .inr (2, [.int b0, .int b1, .int b2, .int a1, .int a2, .int x0, .int x1, .int x1, .int y1, .int y2]))]) _ := hP
  have hD : va_D A ([(h, .inr (2, [.int b0, .int b1, .int b2, .int a1, .int a2, .int x0, .int x1, .int x1, .int y1, .int y2]))]) := hD
  refine lv_aload_n K.1 K.2.1 dc_Section_take_8 rfl (lv_at hl 0 rfl) ?_
  refine lv_aload_n K.1 K.2.1 dc_Section_take_9 rfl (lv_at hl 0 rfl) ?_
  refine fq_get K hK cl_Section hP 0 5 rfl (by decide) wd_246 rfl dc_Section_take_10 ?_
  refine fq_put K hK cl_Section hP hD hS 0 6 rfl (by decide) wd_247 rfl rfl rfl (Nat.le_of_ble_eq_true rfl) dc_Section_take_13 (fun H locs hP hD hS => ?_)
  have hP : va_P D fq_cl ([(h, .inr (2, [.int b0, .int b1, .int b2, .int a1, .int a2, .int x0, .int x0, .int x1, .int y1, .int y2]))]) _ := hP
  have hD : va_D A ([(h, .inr (2, [.int b0, .int b1, .int b2, .int a1, .int a2, .int x0, .int x0, .int x1, .int y1, .int y2]))]) := hD
  refine lv_aload_n K.1 K.2.1 dc_Section_take_16 rfl (lv_at hl 0 rfl) ?_
  refine lv_iload_n K.1 K.2.1 dc_Section_take_17 rfl (lv_at hl 1 rfl) ?_
  refine fq_put K hK cl_Section hP hD hS 0 5 rfl (by decide) wd_246 rfl rfl rfl (Nat.le_of_ble_eq_true rfl) dc_Section_take_18 (fun H locs hP hD hS => ?_)
  have hP : va_P D fq_cl ([(h, .inr (2, [.int b0, .int b1, .int b2, .int a1, .int a2, .int x, .int x0, .int x1, .int y1, .int y2]))]) _ := hP
  have hD : va_D A ([(h, .inr (2, [.int b0, .int b1, .int b2, .int a1, .int a2, .int x, .int x0, .int x1, .int y1, .int y2]))]) := hD
  refine lv_iconst (v := 1) K.1 K.2.1 dc_Section_take_21 (by decide) ?_
  exact fq_reti K hret hlk hS hP hD ⟨rfl, _, _, _, _, _, _, _, _, _, _, rfl, sc_take hsc hx⟩ dc_Section_take_22 (Nat.le_of_ble_eq_true rfl) (Nat.le_of_ble_eq_true rfl)
set_option maxHeartbeats 4000000 in
set_option maxRecDepth 100000 in
theorem ct_Section_finish (l : Launch) (D : va_G) (cI cO : ClassId) (tE : Nat) (h : Nat) (b0 b1 b2 a1 a2 x0 x1 x2 y1 y2 : Int32) (sp : fm_S) (xs : List Int) (m : Nat) (hsc : sc_ok b0 b1 b2 a1 a2 x0 x1 x2 y1 y2 sp xs m) (sz : Nat) : Met l my_Section_finish (fq_w my_Section_finish cb_Section_finish 1 (some .int)) ({ frames := 0, cells := 0, slots := 0, locals := 0 }) (va_Pc ([.ref h]) (fq_Pre D cI cO tE sz ([(h, .inr (2, [.int b0, .int b1, .int b2, .int a1, .int a2, .int x0, .int x1, .int x2, .int y1, .int y2]))]))) (va_Qi (S := va_W) (fun r w => r = 0 ∧ sg_sec h sp xs m w) (fq_Bw D (va_A ([(h, .inr (2, [.int b0, .int b1, .int b2, .int a1, .int a2, .int x0, .int x1, .int x2, .int y1, .int y2]))]) sz)) (va_A ([(h, .inr (2, [.int b0, .int b1, .int b2, .int a1, .int a2, .int x0, .int x1, .int x2, .int y1, .int y2]))]) sz)) (0) (0) (va_A ([(h, .inr (2, [.int b0, .int b1, .int b2, .int a1, .int a2, .int x0, .int x1, .int x2, .int y1, .int y2]))]) sz) := by
  refine fq_open (by decide +kernel) (Nat.le_of_ble_eq_true rfl) ?_
  intro pg ev s mt below meth cd ls K hret hlk hin hK hZ hP hD hA hS hl
  generalize va_A ([(h, .inr (2, [.int b0, .int b1, .int b2, .int a1, .int a2, .int x0, .int x1, .int x2, .int y1, .int y2]))]) sz = A at hZ hD hA hS ⊢
  have K : fq_Ctx pg mt cd cb_Section_finish 1 s _ cn_Section := K
  have hl : lv_has ls 1 [(0, .ref h)] := hl
  refine lv_iconst (v := 0) K.1 K.2.1 dc_Section_finish_0 (by decide) ?_
  exact fq_reti K hret hlk hS hP hD ⟨rfl, _, _, _, _, _, _, _, _, _, _, rfl, hsc⟩ dc_Section_finish_1 (Nat.le_of_ble_eq_true rfl) (Nat.le_of_ble_eq_true rfl)
set_option maxHeartbeats 4000000 in
set_option maxRecDepth 100000 in
theorem ct_Section_make (l : Launch) (D : va_G) (cI cO : ClassId) (tE : Nat) (h : Nat) (b0 b1 b2 a1 a2 x0 x1 x2 y1 y2 : Int32) (sp : fm_S) (xs : List Int) (m : Nat) (hsc : sc_ok b0 b1 b2 a1 a2 x0 x1 x2 y1 y2 sp xs m) (hm : m + 1 = xs.length) (sz : Nat) : Met l my_Section_make (fq_w my_Section_make cb_Section_make 3 (some .int)) ({ frames := 2, cells := 0, slots := 0, locals := 38 }) (va_Pc ([.ref h]) (fq_Pre D cI cO tE sz ([(h, .inr (2, [.int b0, .int b1, .int b2, .int a1, .int a2, .int x0, .int x1, .int x2, .int y1, .int y2]))]))) (va_Qi (S := va_W) (fun r w => r.toInt = fm_y sp xs m ∧ sg_sec h sp xs (m + 1) w) (fq_Bw D (va_A ([(h, .inr (2, [.int b0, .int b1, .int b2, .int a1, .int a2, .int x0, .int x1, .int x2, .int y1, .int y2]))]) sz)) (va_A ([(h, .inr (2, [.int b0, .int b1, .int b2, .int a1, .int a2, .int x0, .int x1, .int x2, .int y1, .int y2]))]) sz)) (0) (0) (va_A ([(h, .inr (2, [.int b0, .int b1, .int b2, .int a1, .int a2, .int x0, .int x1, .int x2, .int y1, .int y2]))]) sz) := by
  refine fq_open (by decide +kernel) (Nat.le_of_ble_eq_true rfl) ?_
  intro pg ev s mt below meth cd ls K hret hlk hin hK hZ hP hD hA hS hl
  generalize va_A ([(h, .inr (2, [.int b0, .int b1, .int b2, .int a1, .int a2, .int x0, .int x1, .int x2, .int y1, .int y2]))]) sz = A at hZ hD hA hS ⊢
  have K : fq_Ctx pg mt cd cb_Section_make 3 s _ cn_Section := K
  have hl : lv_has ls 3 [(0, .ref h)] := hl
  refine lv_aload_n K.1 K.2.1 dc_Section_make_0 rfl (lv_at hl 0 rfl) ?_
  refine fq_get K hK cl_Section hP 0 0 rfl (by decide) wd_241 rfl dc_Section_make_1 ?_
  refine lv_i2l K.1 K.2.1 dc_Section_make_4 rfl ?_
  refine lv_aload_n K.1 K.2.1 dc_Section_make_5 rfl (lv_at hl 0 rfl) ?_
  refine fq_get K hK cl_Section hP 0 5 rfl (by decide) wd_246 rfl dc_Section_make_6 ?_
  refine lv_i2l K.1 K.2.1 dc_Section_make_9 rfl ?_
  refine lv_lmul K.1 K.2.1 dc_Section_make_10 ?_
  refine lv_aload_n K.1 K.2.1 dc_Section_make_11 rfl (lv_at hl 0 rfl) ?_
  refine fq_get K hK cl_Section hP 0 1 rfl (by decide) wd_242 rfl dc_Section_make_12 ?_
  refine lv_i2l K.1 K.2.1 dc_Section_make_15 rfl ?_
  refine lv_aload_n K.1 K.2.1 dc_Section_make_16 rfl (lv_at hl 0 rfl) ?_
  refine fq_get K hK cl_Section hP 0 6 rfl (by decide) wd_247 rfl dc_Section_make_17 ?_
  refine lv_i2l K.1 K.2.1 dc_Section_make_20 rfl ?_
  refine lv_lmul K.1 K.2.1 dc_Section_make_21 ?_
  refine lv_ladd K.1 K.2.1 dc_Section_make_22 ?_
  refine lv_aload_n K.1 K.2.1 dc_Section_make_23 rfl (lv_at hl 0 rfl) ?_
  refine fq_get K hK cl_Section hP 0 2 rfl (by decide) wd_243 rfl dc_Section_make_24 ?_
  refine lv_i2l K.1 K.2.1 dc_Section_make_27 rfl ?_
  refine lv_aload_n K.1 K.2.1 dc_Section_make_28 rfl (lv_at hl 0 rfl) ?_
  refine fq_get K hK cl_Section hP 0 7 rfl (by decide) wd_248 rfl dc_Section_make_29 ?_
  refine lv_i2l K.1 K.2.1 dc_Section_make_32 rfl ?_
  refine lv_lmul K.1 K.2.1 dc_Section_make_33 ?_
  refine lv_ladd K.1 K.2.1 dc_Section_make_34 ?_
  refine lv_aload_n K.1 K.2.1 dc_Section_make_35 rfl (lv_at hl 0 rfl) ?_
  refine fq_get K hK cl_Section hP 0 3 rfl (by decide) wd_244 rfl dc_Section_make_36 ?_
  refine lv_i2l K.1 K.2.1 dc_Section_make_39 rfl ?_
  refine lv_aload_n K.1 K.2.1 dc_Section_make_40 rfl (lv_at hl 0 rfl) ?_
  refine fq_get K hK cl_Section hP 0 8 rfl (by decide) wd_249 rfl dc_Section_make_41 ?_
  refine lv_i2l K.1 K.2.1 dc_Section_make_44 rfl ?_
  refine lv_lmul K.1 K.2.1 dc_Section_make_45 ?_
  refine lv_lsub K.1 K.2.1 dc_Section_make_46 ?_
  refine lv_aload_n K.1 K.2.1 dc_Section_make_47 rfl (lv_at hl 0 rfl) ?_
  refine fq_get K hK cl_Section hP 0 4 rfl (by decide) wd_245 rfl dc_Section_make_48 ?_
  refine lv_i2l K.1 K.2.1 dc_Section_make_51 rfl ?_
  refine lv_aload_n K.1 K.2.1 dc_Section_make_52 rfl (lv_at hl 0 rfl) ?_
  refine fq_get K hK cl_Section hP 0 9 rfl (by decide) wd_250 rfl dc_Section_make_53 ?_
  refine lv_i2l K.1 K.2.1 dc_Section_make_56 rfl ?_
  refine lv_lmul K.1 K.2.1 dc_Section_make_57 ?_
  refine lv_lsub K.1 K.2.1 dc_Section_make_58 ?_
  refine lv_topl (fun v1 e_v1 => ?_)
  refine lv_lstore_n K.1 K.2.1 dc_Section_make_59 rfl hl (by decide) rfl (fun ls hl => ?_)
  have hl : lv_has ls 3 [(1, .long v1), (0, .ref h)] := hl
  refine lv_aload_n K.1 K.2.1 dc_Section_make_60 rfl (lv_at hl 1 rfl) ?_
  refine lv_aload_n K.1 K.2.1 dc_Section_make_61 rfl (lv_at hl 1 rfl) ?_
  refine fq_get K hK cl_Section hP 0 8 rfl (by decide) wd_249 rfl dc_Section_make_62 ?_
  refine fq_put K hK cl_Section hP hD hS 0 9 rfl (by decide) wd_250 rfl rfl rfl (Nat.le_of_ble_eq_true rfl) dc_Section_make_65 (fun H locs hP hD hS => ?_)
  have hP : va_P D fq_cl ([(h, .inr (2, [.int b0, .int b1, .int b2, .int a1, .int a2, .int x0, .int x1, .int x2, .int y1, .int y1]))]) _ := hP
  have hD : va_D A ([(h, .inr (2, [.int b0, .int b1, .int b2, .int a1, .int a2, .int x0, .int x1, .int x2, .int y1, .int y1]))]) := hD
  refine lv_aload_n K.1 K.2.1 dc_Section_make_68 rfl (lv_at hl 1 rfl) ?_
  refine lv_lload_n K.1 K.2.1 dc_Section_make_69 rfl (lv_at hl 0 rfl) ?_
  refine lv_ldc2 (v := 16384) K.1 K.2.1 K.2.2.2.1 (K.2.2.2.2 _ wd_490) dc_Section_make_70 ?_
  have hc := fq_cut.of (wc := []) hP hD hS hA [] (by decide) rfl
  refine fq_cl_ (wr := [(h, .inr (2, [.int b0, .int b1, .int b2, .int a1, .int a2, .int x0, .int x1, .int x2, .int y1, .int y1]))]) (fq_rS K hK hZ hS hc (ct_Ma_floorDiv l D cI cO tE v1 16384 (by decide) _) yk_Ma_floorDiv wd_345 wd_679 ⟨⟨rfl, rfl⟩, ⟨Nat.le_of_ble_eq_true rfl, Nat.le_of_ble_eq_true rfl⟩, ⟨Nat.le_of_ble_eq_true rfl, Nat.le_of_ble_eq_true rfl⟩⟩ hl.1 rfl (Nat.le_of_ble_eq_true rfl) dc_Section_make_73) hP hD hS hc [] [0] rfl rfl (by decide) (by decide) (fun r1 w H locs hw1 hP hD hS => ?_)
  obtain ⟨rfl, hd1⟩ := hw1
  have hP : va_P D fq_cl ([(h, .inr (2, [.int b0, .int b1, .int b2, .int a1, .int a2, .int x0, .int x1, .int x2, .int y1, .int y1]))]) _ := hP
  have hD : va_D A ([(h, .inr (2, [.int b0, .int b1, .int b2, .int a1, .int a2, .int x0, .int x1, .int x2, .int y1, .int y1]))]) := hD
  have hc := fq_cut.of (wc := []) hP hD hS hA [] (by decide) rfl
  refine fq_ci (wr := [(h, .inr (2, [.int b0, .int b1, .int b2, .int a1, .int a2, .int x0, .int x1, .int x2, .int y1, .int y1]))]) (fq_rSN K hK hZ hS hc (ct_FP_clipped l D cI cO tE r1 _) yk_FP_clipped wd_654 wn_680 ⟨⟨rfl, rfl⟩, ⟨Nat.le_of_ble_eq_true rfl, Nat.le_of_ble_eq_true rfl⟩, ⟨Nat.le_of_ble_eq_true rfl, Nat.le_of_ble_eq_true rfl⟩⟩ hl.1 rfl (Nat.le_of_ble_eq_true rfl) dc_Section_make_76) hP hD hS hc [] [0] rfl rfl (by decide) (by decide) (fun r2 w H locs hw2 hP hD hS => ?_)
  obtain ⟨rfl, hd2⟩ := hw2
  have hP : va_P D fq_cl ([(h, .inr (2, [.int b0, .int b1, .int b2, .int a1, .int a2, .int x0, .int x1, .int x2, .int y1, .int y1]))]) _ := hP
  have hD : va_D A ([(h, .inr (2, [.int b0, .int b1, .int b2, .int a1, .int a2, .int x0, .int x1, .int x2, .int y1, .int y1]))]) := hD
  refine fq_put K hK cl_Section hP hD hS 0 8 rfl (by decide) wd_249 rfl rfl rfl (Nat.le_of_ble_eq_true rfl) dc_Section_make_79 (fun H locs hP hD hS => ?_)
  have hP : va_P D fq_cl ([(h, .inr (2, [.int b0, .int b1, .int b2, .int a1, .int a2, .int x0, .int x1, .int x2, .int r2, .int y1]))]) _ := hP
  have hD : va_D A ([(h, .inr (2, [.int b0, .int b1, .int b2, .int a1, .int a2, .int x0, .int x1, .int x2, .int r2, .int y1]))]) := hD
  refine lv_aload_n K.1 K.2.1 dc_Section_make_82 rfl (lv_at hl 1 rfl) ?_
  refine fq_get K hK cl_Section hP 0 8 rfl (by decide) wd_249 rfl dc_Section_make_83 ?_
  exact fq_reti K hret hlk hS hP hD ⟨(sc_make hsc hm e_v1 hd1 hd2).1, _, _, _, _, _, _, _, _, _, _, rfl, (sc_make hsc hm e_v1 hd1 hd2).2⟩ dc_Section_make_86 (Nat.le_of_ble_eq_true rfl) (Nat.le_of_ble_eq_true rfl)
set_option maxHeartbeats 4000000 in
set_option maxRecDepth 100000 in
theorem ct_Section_clear (l : Launch) (D : va_G) (cI cO : ClassId) (tE : Nat) (h : Nat) (b0 b1 b2 a1 a2 x0 x1 x2 y1 y2 : Int32) (sp : fm_S) (xs : List Int) (m : Nat) (hsc : sc_ok b0 b1 b2 a1 a2 x0 x1 x2 y1 y2 sp xs m) (sz : Nat) : Met l my_Section_clear (fq_w my_Section_clear cb_Section_clear 1 none) ({ frames := 0, cells := 0, slots := 0, locals := 0 }) (va_Pc ([.ref h]) (fq_Pre D cI cO tE sz ([(h, .inr (2, [.int b0, .int b1, .int b2, .int a1, .int a2, .int x0, .int x1, .int x2, .int y1, .int y2]))]))) (va_Qv (S := va_W) (fun w => sg_sec h sp [] 0 w) (fq_Bw D (va_A ([(h, .inr (2, [.int b0, .int b1, .int b2, .int a1, .int a2, .int x0, .int x1, .int x2, .int y1, .int y2]))]) sz)) (va_A ([(h, .inr (2, [.int b0, .int b1, .int b2, .int a1, .int a2, .int x0, .int x1, .int x2, .int y1, .int y2]))]) sz)) (0) (0) (va_A ([(h, .inr (2, [.int b0, .int b1, .int b2, .int a1, .int a2, .int x0, .int x1, .int x2, .int y1, .int y2]))]) sz) := by
  refine fq_open (by decide +kernel) (Nat.le_of_ble_eq_true rfl) ?_
  intro pg ev s mt below meth cd ls K hret hlk hin hK hZ hP hD hA hS hl
  generalize va_A ([(h, .inr (2, [.int b0, .int b1, .int b2, .int a1, .int a2, .int x0, .int x1, .int x2, .int y1, .int y2]))]) sz = A at hZ hD hA hS ⊢
  have K : fq_Ctx pg mt cd cb_Section_clear 1 s _ cn_Section := K
  have hl : lv_has ls 1 [(0, .ref h)] := hl
  refine lv_aload_n K.1 K.2.1 dc_Section_clear_0 rfl (lv_at hl 0 rfl) ?_
  refine lv_iconst (v := 0) K.1 K.2.1 dc_Section_clear_1 (by decide) ?_
  refine fq_put K hK cl_Section hP hD hS 0 5 rfl (by decide) wd_246 rfl rfl rfl (Nat.le_of_ble_eq_true rfl) dc_Section_clear_2 (fun H locs hP hD hS => ?_)
  have hP : va_P D fq_cl ([(h, .inr (2, [.int b0, .int b1, .int b2, .int a1, .int a2, .int 0, .int x1, .int x2, .int y1, .int y2]))]) _ := hP
  have hD : va_D A ([(h, .inr (2, [.int b0, .int b1, .int b2, .int a1, .int a2, .int 0, .int x1, .int x2, .int y1, .int y2]))]) := hD
  refine lv_aload_n K.1 K.2.1 dc_Section_clear_5 rfl (lv_at hl 0 rfl) ?_
  refine lv_iconst (v := 0) K.1 K.2.1 dc_Section_clear_6 (by decide) ?_
  refine fq_put K hK cl_Section hP hD hS 0 6 rfl (by decide) wd_247 rfl rfl rfl (Nat.le_of_ble_eq_true rfl) dc_Section_clear_7 (fun H locs hP hD hS => ?_)
  have hP : va_P D fq_cl ([(h, .inr (2, [.int b0, .int b1, .int b2, .int a1, .int a2, .int 0, .int 0, .int x2, .int y1, .int y2]))]) _ := hP
  have hD : va_D A ([(h, .inr (2, [.int b0, .int b1, .int b2, .int a1, .int a2, .int 0, .int 0, .int x2, .int y1, .int y2]))]) := hD
  refine lv_aload_n K.1 K.2.1 dc_Section_clear_10 rfl (lv_at hl 0 rfl) ?_
  refine lv_iconst (v := 0) K.1 K.2.1 dc_Section_clear_11 (by decide) ?_
  refine fq_put K hK cl_Section hP hD hS 0 7 rfl (by decide) wd_248 rfl rfl rfl (Nat.le_of_ble_eq_true rfl) dc_Section_clear_12 (fun H locs hP hD hS => ?_)
  have hP : va_P D fq_cl ([(h, .inr (2, [.int b0, .int b1, .int b2, .int a1, .int a2, .int 0, .int 0, .int 0, .int y1, .int y2]))]) _ := hP
  have hD : va_D A ([(h, .inr (2, [.int b0, .int b1, .int b2, .int a1, .int a2, .int 0, .int 0, .int 0, .int y1, .int y2]))]) := hD
  refine lv_aload_n K.1 K.2.1 dc_Section_clear_15 rfl (lv_at hl 0 rfl) ?_
  refine lv_iconst (v := 0) K.1 K.2.1 dc_Section_clear_16 (by decide) ?_
  refine fq_put K hK cl_Section hP hD hS 0 8 rfl (by decide) wd_249 rfl rfl rfl (Nat.le_of_ble_eq_true rfl) dc_Section_clear_17 (fun H locs hP hD hS => ?_)
  have hP : va_P D fq_cl ([(h, .inr (2, [.int b0, .int b1, .int b2, .int a1, .int a2, .int 0, .int 0, .int 0, .int 0, .int y2]))]) _ := hP
  have hD : va_D A ([(h, .inr (2, [.int b0, .int b1, .int b2, .int a1, .int a2, .int 0, .int 0, .int 0, .int 0, .int y2]))]) := hD
  refine lv_aload_n K.1 K.2.1 dc_Section_clear_20 rfl (lv_at hl 0 rfl) ?_
  refine lv_iconst (v := 0) K.1 K.2.1 dc_Section_clear_21 (by decide) ?_
  refine fq_put K hK cl_Section hP hD hS 0 9 rfl (by decide) wd_250 rfl rfl rfl (Nat.le_of_ble_eq_true rfl) dc_Section_clear_22 (fun H locs hP hD hS => ?_)
  have hP : va_P D fq_cl ([(h, .inr (2, [.int b0, .int b1, .int b2, .int a1, .int a2, .int 0, .int 0, .int 0, .int 0, .int 0]))]) _ := hP
  have hD : va_D A ([(h, .inr (2, [.int b0, .int b1, .int b2, .int a1, .int a2, .int 0, .int 0, .int 0, .int 0, .int 0]))]) := hD
  exact fq_retv K hret hlk hS hP hD ⟨_, _, _, _, _, _, _, _, _, _, rfl, sc_nil hsc.1 hsc.2.1⟩ dc_Section_clear_25 (Nat.le_of_ble_eq_true rfl) (Nat.le_of_ble_eq_true rfl)
set_option maxHeartbeats 4000000 in
set_option maxRecDepth 100000 in
theorem ct_Gain_init (l : Launch) (D : va_G) (cI cO : ClassId) (tE : Nat) (h : Nat) (fa : Int32) (sz : Nat) : Met l my_Gain_init (fq_w my_Gain_init cb_Gain_init 2 none) ({ frames := 2, cells := 0, slots := 0, locals := 32 }) (va_Pc ([.ref h, .int fa]) (fq_Pre D cI cO tE sz ([(h, .inr (3, [.int 0, .int 0]))]))) (va_Qv (S := va_W) (fun w => w = [(h, .inr (3, [.int fa, .int 0]))]) (fq_Bw D (va_A ([(h, .inr (3, [.int 0, .int 0]))]) sz)) (va_A ([(h, .inr (3, [.int 0, .int 0]))]) sz)) (0) (0) (va_A ([(h, .inr (3, [.int 0, .int 0]))]) sz) := by
  refine fq_open (by decide +kernel) (Nat.le_of_ble_eq_true rfl) ?_
  intro pg ev s mt below meth cd ls K hret hlk hin hK hZ hP hD hA hS hl
  generalize va_A ([(h, .inr (3, [.int 0, .int 0]))]) sz = A at hZ hD hA hS ⊢
  have K : fq_Ctx pg mt cd cb_Gain_init 2 s _ cn_Gain := K
  have hin : meth.name = "<init>" := hin
  have hl : lv_has ls 2 [(0, .ref h), (1, .int fa)] := hl
  refine lv_aload_n K.1 K.2.1 dc_Gain_init_0 rfl (lv_at hl 0 rfl) ?_
  have hc := fq_cut.of (wc := []) hP hD hS hA [] (by decide) rfl
  refine fq_cv (wr := [(h, .inr (3, [.int 0, .int 0]))]) (fq_rIN K hK hZ hS hc (ct_Stage_init l D cI cO tE h _) yk_Stage_init wd_238 rfl wn_359 ⟨⟨rfl, rfl⟩, ⟨Nat.le_of_ble_eq_true rfl, Nat.le_of_ble_eq_true rfl⟩, ⟨Nat.le_of_ble_eq_true rfl, Nat.le_of_ble_eq_true rfl⟩⟩ hl.1 rfl (Nat.le_of_ble_eq_true rfl) dc_Gain_init_1) hP hD hS hc [] [0] rfl rfl (by decide) (by decide) (fun  w H locs hw1 hP hD hS => ?_)
  subst hw1
  have hP : va_P D fq_cl ([(h, .inr (3, [.int 0, .int 0]))]) _ := hP
  have hD : va_D A ([(h, .inr (3, [.int 0, .int 0]))]) := hD
  refine lv_aload_n K.1 K.2.1 dc_Gain_init_4 rfl (lv_at hl 0 rfl) ?_
  refine lv_iload_n K.1 K.2.1 dc_Gain_init_5 rfl (lv_at hl 1 rfl) ?_
  refine fq_putF K hK cl_Gain hP hD hS hin 0 0 rfl (by decide) wd_360 rfl rfl rfl rfl (Nat.le_of_ble_eq_true rfl) dc_Gain_init_6 (fun H locs hP hD hS => ?_)
  have hP : va_P D fq_cl ([(h, .inr (3, [.int fa, .int 0]))]) _ := hP
  have hD : va_D A ([(h, .inr (3, [.int fa, .int 0]))]) := hD
  exact fq_retv K hret hlk hS hP hD rfl dc_Gain_init_9 (Nat.le_of_ble_eq_true rfl) (Nat.le_of_ble_eq_true rfl)
set_option maxHeartbeats 4000000 in
set_option maxRecDepth 100000 in
theorem ct_Gain_take (l : Launch) (D : va_G) (cI cO : ClassId) (tE : Nat) (h : Nat) (fa la : Int32) (sp : fm_S) (xs : List Int) (m : Nat) (x : Int32) (hgn : gn_ok fa la sp xs m) (hx : fm_in x.toInt) (sz : Nat) : Met l my_Gain_take (fq_w my_Gain_take cb_Gain_take 2 (some .int)) ({ frames := 0, cells := 0, slots := 0, locals := 0 }) (va_Pc ([.ref h, .int x]) (fq_Pre D cI cO tE sz ([(h, .inr (3, [.int fa, .int la]))]))) (va_Qi (S := va_W) (fun r w => r = 1 ∧ sg_gain h sp (xs ++ [x.toInt]) m w) (fq_Bw D (va_A ([(h, .inr (3, [.int fa, .int la]))]) sz)) (va_A ([(h, .inr (3, [.int fa, .int la]))]) sz)) (0) (0) (va_A ([(h, .inr (3, [.int fa, .int la]))]) sz) := by
  refine fq_open (by decide +kernel) (Nat.le_of_ble_eq_true rfl) ?_
  intro pg ev s mt below meth cd ls K hret hlk hin hK hZ hP hD hA hS hl
  generalize va_A ([(h, .inr (3, [.int fa, .int la]))]) sz = A at hZ hD hA hS ⊢
  have K : fq_Ctx pg mt cd cb_Gain_take 2 s _ cn_Gain := K
  have hl : lv_has ls 2 [(0, .ref h), (1, .int x)] := hl
  refine lv_aload_n K.1 K.2.1 dc_Gain_take_0 rfl (lv_at hl 0 rfl) ?_
  refine lv_iload_n K.1 K.2.1 dc_Gain_take_1 rfl (lv_at hl 1 rfl) ?_
  refine fq_put K hK cl_Gain hP hD hS 0 1 rfl (by decide) wd_361 rfl rfl rfl (Nat.le_of_ble_eq_true rfl) dc_Gain_take_2 (fun H locs hP hD hS => ?_)
  have hP : va_P D fq_cl ([(h, .inr (3, [.int fa, .int x]))]) _ := hP
  have hD : va_D A ([(h, .inr (3, [.int fa, .int x]))]) := hD
  refine lv_iconst (v := 1) K.1 K.2.1 dc_Gain_take_5 (by decide) ?_
  exact fq_reti K hret hlk hS hP hD ⟨rfl, _, _, rfl, gn_take hgn hx⟩ dc_Gain_take_6 (Nat.le_of_ble_eq_true rfl) (Nat.le_of_ble_eq_true rfl)
set_option maxHeartbeats 4000000 in
set_option maxRecDepth 100000 in
theorem ct_Gain_finish (l : Launch) (D : va_G) (cI cO : ClassId) (tE : Nat) (h : Nat) (fa la : Int32) (sp : fm_S) (xs : List Int) (m : Nat) (hgn : gn_ok fa la sp xs m) (sz : Nat) : Met l my_Gain_finish (fq_w my_Gain_finish cb_Gain_finish 1 (some .int)) ({ frames := 0, cells := 0, slots := 0, locals := 0 }) (va_Pc ([.ref h]) (fq_Pre D cI cO tE sz ([(h, .inr (3, [.int fa, .int la]))]))) (va_Qi (S := va_W) (fun r w => r = 0 ∧ sg_gain h sp xs m w) (fq_Bw D (va_A ([(h, .inr (3, [.int fa, .int la]))]) sz)) (va_A ([(h, .inr (3, [.int fa, .int la]))]) sz)) (0) (0) (va_A ([(h, .inr (3, [.int fa, .int la]))]) sz) := by
  refine fq_open (by decide +kernel) (Nat.le_of_ble_eq_true rfl) ?_
  intro pg ev s mt below meth cd ls K hret hlk hin hK hZ hP hD hA hS hl
  generalize va_A ([(h, .inr (3, [.int fa, .int la]))]) sz = A at hZ hD hA hS ⊢
  have K : fq_Ctx pg mt cd cb_Gain_finish 1 s _ cn_Gain := K
  have hl : lv_has ls 1 [(0, .ref h)] := hl
  refine lv_iconst (v := 0) K.1 K.2.1 dc_Gain_finish_0 (by decide) ?_
  exact fq_reti K hret hlk hS hP hD ⟨rfl, _, _, rfl, hgn⟩ dc_Gain_finish_1 (Nat.le_of_ble_eq_true rfl) (Nat.le_of_ble_eq_true rfl)
set_option maxHeartbeats 4000000 in
set_option maxRecDepth 100000 in
theorem ct_Gain_make (l : Launch) (D : va_G) (cI cO : ClassId) (tE : Nat) (h : Nat) (fa la : Int32) (sp : fm_S) (xs : List Int) (m : Nat) (hgn : gn_ok fa la sp xs m) (hm : m + 1 = xs.length) (sz : Nat) : Met l my_Gain_make (fq_w my_Gain_make cb_Gain_make 1 (some .int)) ({ frames := 2, cells := 0, slots := 0, locals := 38 }) (va_Pc ([.ref h]) (fq_Pre D cI cO tE sz ([(h, .inr (3, [.int fa, .int la]))]))) (va_Qi (S := va_W) (fun r w => r.toInt = fm_y sp xs m ∧ sg_gain h sp xs (m + 1) w) (fq_Bw D (va_A ([(h, .inr (3, [.int fa, .int la]))]) sz)) (va_A ([(h, .inr (3, [.int fa, .int la]))]) sz)) (0) (0) (va_A ([(h, .inr (3, [.int fa, .int la]))]) sz) := by
  refine fq_open (by decide +kernel) (Nat.le_of_ble_eq_true rfl) ?_
  intro pg ev s mt below meth cd ls K hret hlk hin hK hZ hP hD hA hS hl
  generalize va_A ([(h, .inr (3, [.int fa, .int la]))]) sz = A at hZ hD hA hS ⊢
  have K : fq_Ctx pg mt cd cb_Gain_make 1 s _ cn_Gain := K
  have hl : lv_has ls 1 [(0, .ref h)] := hl
  refine lv_aload_n K.1 K.2.1 dc_Gain_make_0 rfl (lv_at hl 0 rfl) ?_
  refine fq_get K hK cl_Gain hP 0 0 rfl (by decide) wd_360 rfl dc_Gain_make_1 ?_
  refine lv_i2l K.1 K.2.1 dc_Gain_make_4 rfl ?_
  refine lv_aload_n K.1 K.2.1 dc_Gain_make_5 rfl (lv_at hl 0 rfl) ?_
  refine fq_get K hK cl_Gain hP 0 1 rfl (by decide) wd_361 rfl dc_Gain_make_6 ?_
  refine lv_i2l K.1 K.2.1 dc_Gain_make_9 rfl ?_
  refine lv_lmul K.1 K.2.1 dc_Gain_make_10 ?_
  refine lv_ldc2 (v := 256) K.1 K.2.1 K.2.2.2.1 (K.2.2.2.2 _ wd_651) dc_Gain_make_11 ?_
  have hc := fq_cut.of (wc := []) hP hD hS hA [] (by decide) rfl
  refine fq_cl_ (wr := [(h, .inr (3, [.int fa, .int la]))]) (fq_rS K hK hZ hS hc (ct_Ma_floorDiv l D cI cO tE (fa.toInt64 * la.toInt64) 256 (by decide) _) yk_Ma_floorDiv wd_345 wd_652 ⟨⟨rfl, rfl⟩, ⟨Nat.le_of_ble_eq_true rfl, Nat.le_of_ble_eq_true rfl⟩, ⟨Nat.le_of_ble_eq_true rfl, Nat.le_of_ble_eq_true rfl⟩⟩ hl.1 rfl (Nat.le_of_ble_eq_true rfl) dc_Gain_make_14) hP hD hS hc [] [0] rfl rfl (by decide) (by decide) (fun r1 w H locs hw1 hP hD hS => ?_)
  obtain ⟨rfl, hd1⟩ := hw1
  have hP : va_P D fq_cl ([(h, .inr (3, [.int fa, .int la]))]) _ := hP
  have hD : va_D A ([(h, .inr (3, [.int fa, .int la]))]) := hD
  have hc := fq_cut.of (wc := []) hP hD hS hA [] (by decide) rfl
  refine fq_ci (wr := [(h, .inr (3, [.int fa, .int la]))]) (fq_rSN K hK hZ hS hc (ct_FP_clipped l D cI cO tE r1 _) yk_FP_clipped wd_654 wn_653 ⟨⟨rfl, rfl⟩, ⟨Nat.le_of_ble_eq_true rfl, Nat.le_of_ble_eq_true rfl⟩, ⟨Nat.le_of_ble_eq_true rfl, Nat.le_of_ble_eq_true rfl⟩⟩ hl.1 rfl (Nat.le_of_ble_eq_true rfl) dc_Gain_make_17) hP hD hS hc [] [0] rfl rfl (by decide) (by decide) (fun r2 w H locs hw2 hP hD hS => ?_)
  obtain ⟨rfl, hd2⟩ := hw2
  have hP : va_P D fq_cl ([(h, .inr (3, [.int fa, .int la]))]) _ := hP
  have hD : va_D A ([(h, .inr (3, [.int fa, .int la]))]) := hD
  exact fq_reti K hret hlk hS hP hD ⟨(gn_make hgn hm hd1 hd2).1, _, _, rfl, (gn_make hgn hm hd1 hd2).2⟩ dc_Gain_make_20 (Nat.le_of_ble_eq_true rfl) (Nat.le_of_ble_eq_true rfl)
set_option maxHeartbeats 4000000 in
set_option maxRecDepth 100000 in
theorem ct_Gain_clear (l : Launch) (D : va_G) (cI cO : ClassId) (tE : Nat) (h : Nat) (fa la : Int32) (sp : fm_S) (xs : List Int) (m : Nat) (hgn : gn_ok fa la sp xs m) (sz : Nat) : Met l my_Gain_clear (fq_w my_Gain_clear cb_Gain_clear 1 none) ({ frames := 0, cells := 0, slots := 0, locals := 0 }) (va_Pc ([.ref h]) (fq_Pre D cI cO tE sz ([(h, .inr (3, [.int fa, .int la]))]))) (va_Qv (S := va_W) (fun w => sg_gain h sp [] 0 w) (fq_Bw D (va_A ([(h, .inr (3, [.int fa, .int la]))]) sz)) (va_A ([(h, .inr (3, [.int fa, .int la]))]) sz)) (0) (0) (va_A ([(h, .inr (3, [.int fa, .int la]))]) sz) := by
  refine fq_open (by decide +kernel) (Nat.le_of_ble_eq_true rfl) ?_
  intro pg ev s mt below meth cd ls K hret hlk hin hK hZ hP hD hA hS hl
  generalize va_A ([(h, .inr (3, [.int fa, .int la]))]) sz = A at hZ hD hA hS ⊢
  have K : fq_Ctx pg mt cd cb_Gain_clear 1 s _ cn_Gain := K
  have hl : lv_has ls 1 [(0, .ref h)] := hl
  refine lv_aload_n K.1 K.2.1 dc_Gain_clear_0 rfl (lv_at hl 0 rfl) ?_
  refine lv_iconst (v := 0) K.1 K.2.1 dc_Gain_clear_1 (by decide) ?_
  refine fq_put K hK cl_Gain hP hD hS 0 1 rfl (by decide) wd_361 rfl rfl rfl (Nat.le_of_ble_eq_true rfl) dc_Gain_clear_2 (fun H locs hP hD hS => ?_)
  have hP : va_P D fq_cl ([(h, .inr (3, [.int fa, .int 0]))]) _ := hP
  have hD : va_D A ([(h, .inr (3, [.int fa, .int 0]))]) := hD
  exact fq_retv K hret hlk hS hP hD ⟨_, _, rfl, gn_nil hgn.1 hgn.2.1⟩ dc_Gain_clear_5 (Nat.le_of_ble_eq_true rfl) (Nat.le_of_ble_eq_true rfl)
end
section
theorem wd_43 : Cond.initialized cn_Window ∈ fq_TB := fq_in 43 (by decide +kernel) rfl
theorem wd_176 : Cond.static my_Ma_min ∈ fq_TB := fq_in 176 (by decide +kernel) rfl
theorem wd_177 : Cond.code my_Ma_min cb_Ma_min 2 (some .int) ∈ fq_TB := fq_in 177 (by decide +kernel) rfl
theorem wd_374 : Cond.instanceMethod my_Window_init ∈ fq_TB := fq_in 374 (by decide +kernel) rfl
theorem wd_375 : Cond.code my_Window_init cb_Window_init 5 none ∈ fq_TB := fq_in 375 (by decide +kernel) rfl
theorem wn_376 : Cond.methodLinkNest cn_Window 1 my_Stage_init cn_FP ∈ lw_tbl := List.mem_of_getElem? (i := 376) (by decide +kernel)
theorem wd_377 : Cond.classLink cn_Window 7 cn_Recent ∈ fq_TB := fq_in 377 (by decide +kernel) rfl
theorem wd_378 : Cond.instantiable cn_Recent 2 ∈ fq_TB := fq_in 378 (by decide +kernel) rfl
theorem wn_379 : Cond.methodLinkNest cn_Window 9 my_Recent_init cn_FP ∈ lw_tbl := List.mem_of_getElem? (i := 379) (by decide +kernel)
theorem wd_390 : Cond.methodLink cn_Window 20 my_Window_weight ∈ fq_TB := fq_in 390 (by decide +kernel) rfl
theorem wd_391 : Cond.static my_Window_weight ∈ fq_TB := fq_in 391 (by decide +kernel) rfl
theorem wd_392 : Cond.code my_Window_weight cb_Window_weight 3 (some .int) ∈ fq_TB := fq_in 392 (by decide +kernel) rfl
theorem wd_393 : Cond.methodLink cn_Window 28 my_Ma_min ∈ fq_TB := fq_in 393 (by decide +kernel) rfl
theorem wd_394 : Cond.fieldLink cn_Window 16 cn_Window "weights" "[I" ∈ fq_TB := fq_in 394 (by decide +kernel) rfl
theorem wd_395 : Cond.fieldLink cn_Window 24 cn_Window "total" "I" ∈ fq_TB := fq_in 395 (by decide +kernel) rfl
theorem wd_396 : Cond.fieldLink cn_Window 10 cn_Window "recent" "LFilterPipe$Recent;" ∈ fq_TB := fq_in 396 (by decide +kernel) rfl
theorem wd_397 : Cond.fieldLink cn_Window 42 cn_Window "next" "I" ∈ fq_TB := fq_in 397 (by decide +kernel) rfl
theorem wd_534 : Cond.instanceMethod my_Window_clear ∈ fq_TB := fq_in 534 (by decide +kernel) rfl
theorem wd_535 : Cond.code my_Window_clear cb_Window_clear 1 none ∈ fq_TB := fq_in 535 (by decide +kernel) rfl
theorem wd_536 : Cond.methodLink cn_Window 59 my_Recent_forget ∈ fq_TB := fq_in 536 (by decide +kernel) rfl
theorem wd_638 : Cond.instanceMethod my_Window_take ∈ fq_TB := fq_in 638 (by decide +kernel) rfl
theorem wd_639 : Cond.code my_Window_take cb_Window_take 2 (some .int) ∈ fq_TB := fq_in 639 (by decide +kernel) rfl
theorem wd_640 : Cond.methodLink cn_Window 34 my_Recent_put ∈ fq_TB := fq_in 640 (by decide +kernel) rfl
theorem wd_682 : Cond.instanceMethod my_Window_make ∈ fq_TB := fq_in 682 (by decide +kernel) rfl
theorem wd_683 : Cond.code my_Window_make cb_Window_make 4 (some .int) ∈ fq_TB := fq_in 683 (by decide +kernel) rfl
theorem wd_684 : Cond.methodLink cn_Window 45 my_Recent_at ∈ fq_TB := fq_in 684 (by decide +kernel) rfl
theorem wd_685 : Cond.methodLink cn_Window 49 my_Ma_floorDiv ∈ fq_TB := fq_in 685 (by decide +kernel) rfl
theorem wn_686 : Cond.methodLinkNest cn_Window 53 my_FP_clipped cn_FP ∈ lw_tbl := List.mem_of_getElem? (i := 686) (by decide +kernel)
theorem wd_704 : Cond.instanceMethod my_Window_finish ∈ fq_TB := fq_in 704 (by decide +kernel) rfl
theorem wd_705 : Cond.code my_Window_finish cb_Window_finish 1 (some .int) ∈ fq_TB := fq_in 705 (by decide +kernel) rfl
theorem wd_706 : Cond.methodLink cn_Window 38 my_Recent_count ∈ fq_TB := fq_in 706 (by decide +kernel) rfl

def wn_ok (len : Nat) (tt : Int32) (f g : Nat → Int32) (sp : fm_S) (xs : List Int) (m : Nat) : Prop :=
  sp = (2, sp.2.1, (len : Int), 0, 0, 0) ∧ fm_ok sp ∧ (∀ v ∈ xs, fm_in v) ∧ rc_ok f xs ∧ m < 300000 ∧ tt.toInt = fm_sum (fm_wt sp.2.1 len) len ∧ ∀ j, j < len → (g j).toInt = fm_wt sp.2.1 len j
def sg_win (cI : ClassId) (h : Nat) (sp : fm_S) (xs : List Int) (m : Nat) (ws : va_W) : Prop :=
  ∃ (hw hr ha len : Nat) (tt : Int32) (f g : Nat → Int32), ws = [(h, .inr (4, [.ref hw, .int tt, .ref hr, .int (nI m)])), (hr, .inr (1, [.ref ha, .int (nI xs.length)])), (ha, .inl (cI, 8, .inl f)), (hw, .inl (cI, len, .inl g))] ∧ wn_ok len tt f g sp xs m
theorem wn_len {len : Nat} {tt : Int32} {f g : Nat → Int32} {sp : fm_S} {xs : List Int} {m : Nat} (h : wn_ok len tt f g sp xs m) : (sp.2.1 = 0 ∨ sp.2.1 = 1 ∨ sp.2.1 = 2) ∧ 1 ≤ len ∧ len ≤ 8 := by
  have e := h.1
  have k := h.2.1.2.2.2.1 (by rw [e])
  have e2 : sp.2.2.1 = (len : Int) := by rw [e]
  omega
theorem wn_w0 {sh : Int32} {k len : Nat} (h : sh = 0) : (1 : Int32).toInt = fm_wt sh.toInt len k := by
  rw [h]; rfl
theorem wn_w1 {sh : Int32} {k len : Nat} (h : sh = 1) (hk : k < len) (hl : len ≤ 8) : (if nI (len - k) < nI (k + 1) then nI (len - k) else nI (k + 1)).toInt = fm_wt sh.toInt len k := by
  have e : fm_wt sh.toInt len k = if (k : Int) + 1 < (len : Int) - k then (k : Int) + 1 else (len : Int) - k := by rw [h]; rfl
  rw [e]
  by_cases c : len - k < k + 1
  · rw [if_pos (nI_lt c (by omega)), nI_toInt (by omega), if_neg (by omega)]; omega
  · rw [if_neg (nI_nlt (by omega) (by omega)), nI_toInt (by omega)]
    split <;> omega
theorem wn_w2 {sh : Int32} {k len : Nat} (h : sh = 2) (hk : k < len) (hl : len ≤ 8) : (nI (k + 1) * nI (len - k)).toInt = fm_wt sh.toInt len k := by
  have hb : (k + 1) * (len - k) ≤ 8 * 8 := Nat.mul_le_mul (by omega) (by omega)
  have e : fm_wt sh.toInt len k = ((k : Int) + 1) * ((len : Int) - k) := by rw [h]; rfl
  rw [e, pk_mul, nI_toInt (by omega), Int.natCast_mul, show ((len - k : Nat) : Int) = (len : Int) - k by omega]
  rfl
theorem wn_wb {sh : Int} {k len : Nat} (h : sh = 0 ∨ sh = 1 ∨ sh = 2) (hk : k < len) (hl : len ≤ 8) : 1 ≤ fm_wt sh len k ∧ fm_wt sh len k ≤ 64 := by
  unfold fm_wt
  split
  · omega
  · split
    · have hb : (k + 1) * (len - k) ≤ 8 * 8 := Nat.mul_le_mul (by omega) (by omega)
      have hb1 : 1 ≤ (k + 1) * (len - k) := Nat.mul_pos (by omega) (by omega)
      have e : ((k : Int) + 1) * ((len : Int) - k) = (((k + 1) * (len - k) : Nat) : Int) := by rw [Int.natCast_mul, show ((len - k : Nat) : Int) = (len : Int) - k by omega]; rfl
      omega
    · split <;> omega
theorem fm_sum_le {f : Nat → Int} {B : Int} : ∀ {n : Nat}, (∀ k, k < n → f k ≤ B) → fm_sum f n ≤ n * B
  | 0, _ => by show (0 : Int) ≤ _; omega
  | n + 1, h => by
    have ih := fm_sum_le (f := f) (B := B) (n := n) (fun k hk => h k (by omega))
    have h1 := h n (by omega)
    show fm_sum f n + f n ≤ _
    have e : ((n + 1 : Nat) : Int) * B = n * B + B := by rw [Int.natCast_add, Int.add_mul]; omega
    omega
theorem fm_sum_ge {f : Nat → Int} {B : Int} : ∀ {n : Nat}, (∀ k, k < n → B ≤ f k) → n * B ≤ fm_sum f n
  | 0, _ => by show _ ≤ (0 : Int); omega
  | n + 1, h => by
    have ih := fm_sum_ge (f := f) (B := B) (n := n) (fun k hk => h k (by omega))
    have h1 := h n (by omega)
    show _ ≤ fm_sum f n + f n
    have e : ((n + 1 : Nat) : Int) * B = n * B + B := by rw [Int.natCast_add, Int.add_mul]; omega
    omega
theorem wn_step {sh : Int32} {k len : Nat} {sm v r : Int32} {g : Nat → Int32} (h : k ≤ len ∧ sm.toInt = fm_sum (fm_wt sh.toInt len) k ∧ ∀ j, j < k → (g j).toInt = fm_wt sh.toInt len j) (hk : k < len) (hl : len ≤ 8) (hr : r.toInt = fm_wt sh.toInt len k) (hv : v = sm + r) (hsh : sh = 0 ∨ sh = 1 ∨ sh = 2 := by assumption) :
    k + 1 ≤ len ∧ v.toInt = fm_sum (fm_wt sh.toInt len) (k + 1) ∧ ∀ j, j < k + 1 → (upd g k r j).toInt = fm_wt sh.toInt len j := by
  obtain ⟨h1, h2, h3⟩ := h
  have hs : sh.toInt = 0 ∨ sh.toInt = 1 ∨ sh.toInt = 2 := by rcases hsh with z | z | z <;> rw [z] <;> decide
  have b1 := fm_sum_le (f := fm_wt sh.toInt len) (B := 64) (n := k) (fun j hj => (wn_wb hs (by omega) hl).2)
  have b2 := fm_sum_ge (f := fm_wt sh.toInt len) (B := 1) (n := k) (fun j hj => (wn_wb hs (by omega) hl).1)
  have b3 := wn_wb hs hk hl
  refine ⟨hk, ?_, fun j hj => ?_⟩
  · rw [hv, Kit.i32_add (by rw [h2, hr]; omega) (by rw [h2, hr]; omega), h2, hr]; rfl
  · by_cases e : j = k
    · subst e; rw [pk_us]; exact hr
    · rw [pk_un e]; exact h3 j (by omega)
theorem wn_new {sh : Int32} {k len : Nat} {sm : Int32} {g : Nat → Int32} (hsh : sh = 0 ∨ sh = 1 ∨ sh = 2) (h1 : 1 ≤ len) (h8 : len ≤ 8) (h : k ≤ len ∧ sm.toInt = fm_sum (fm_wt sh.toInt len) k ∧ ∀ j, j < k → (g j).toInt = fm_wt sh.toInt len j) (hk : k = len) :
    wn_ok len sm (fun _ => 0) g (2, sh.toInt, (len : Int), 0, 0, 0) [] 0 := by
  subst hk
  have hs : sh.toInt = 0 ∨ sh.toInt = 1 ∨ sh.toInt = 2 := by rcases hsh with z | z | z <;> rw [z] <;> decide
  refine ⟨rfl, ⟨(by decide : 2 ≤ 3), fun z => absurd (show 2 = 0 from z) (by decide), fun z => absurd (show 2 = 1 from z) (by decide), fun _ => ⟨hs, ?_, ?_⟩, fun z => absurd (show 2 = 3 from z) (by decide)⟩, fun _ z => absurd z List.not_mem_nil, rc_nil, by decide, h.2.1, h.2.2⟩
  · show (1 : Int) ≤ (k : Int); omega
  · show (k : Int) ≤ 8; omega
theorem wn_nil {len : Nat} {tt : Int32} {f g : Nat → Int32} {sp : fm_S} {xs : List Int} {m : Nat} (h : wn_ok len tt f g sp xs m) : wn_ok len tt f g sp [] 0 := ⟨h.1, h.2.1, fun _ z => absurd z List.not_mem_nil, rc_nil, by decide, h.2.2.2.2.2⟩
theorem wn_next {len : Nat} {tt : Int32} {f g : Nat → Int32} {sp : fm_S} {xs : List Int} {m n : Nat} (h : wn_ok len tt f g sp xs m) (hn : n < 300000) : wn_ok len tt f g sp xs n := ⟨h.1, h.2.1, h.2.2.1, h.2.2.2.1, hn, h.2.2.2.2.2⟩
theorem wn_take {len : Nat} {tt : Int32} {f g f2 : Nat → Int32} {sp : fm_S} {xs : List Int} {m : Nat} {x : Int32} (h : wn_ok len tt f g sp xs m) (hx : fm_in x.toInt) (hr : rc_ok f2 (xs ++ [x.toInt])) : wn_ok len tt f2 g sp (xs ++ [x.toInt]) m := ⟨h.1, h.2.1, fm_in_app h.2.2.1 hx, hr, h.2.2.2.2⟩
theorem wn_fin0 {len : Nat} {tt : Int32} {f g : Nat → Int32} {sp : fm_S} {xs : List Int} {m : Nat} (h : wn_ok len tt f g sp xs m) (hz : nI xs.length = 0) : (0 : Int32) = nI (fm_m sp true xs.length - fm_m sp false xs.length) := by
  have hl := h.2.2.2.1.1
  have e : xs.length = 0 := (nI_eq (by omega) (by decide)).mp (hz.trans nI_0.symm)
  rw [e]
  simp [fm_m, nI_0]
theorem wn_fin1 {len : Nat} {tt : Int32} {f g : Nat → Int32} {sp : fm_S} {xs : List Int} {m : Nat} (h : wn_ok len tt f g sp xs m) (hz : ¬ nI xs.length = 0) : nI len - 1 = nI (fm_m sp true xs.length - fm_m sp false xs.length) := by
  have hw := wn_len h
  have e : ¬ xs.length = 0 := fun z => hz (by rw [z, nI_0])
  have k2 : sp.1 = 2 := by rw [h.1]
  have e2 : sp.2.2.1.toNat = len := by rw [h.1]; rfl
  unfold fm_m
  rw [if_neg (by omega), if_pos k2, if_pos rfl, if_neg (by omega), if_pos k2, if_neg (by decide), e2, show xs.length + len - 1 - xs.length = len - 1 by omega]
  exact pk_sub (a := len) (b := 1) (by omega)
theorem wn_add {len : Nat} {tt : Int32} {f g : Nat → Int32} {sp : fm_S} {xs : List Int} {m k : Nat} {v v2 : Int64} {r : Int32} (h : wn_ok len tt f g sp xs m) (hm : xs.length ≤ m + 1) (hk : k < len) (hi : k ≤ len ∧ v.toInt = fm_sum (fun k => fm_wt sp.2.1 len k * fm_x xs ((m : Int) - k)) k)
    (hv : v2 = v + (g k).toInt64 * r.toInt64) (hr : r.toInt = rc_at xs (nI m - nI k).toInt) : k + 1 ≤ len ∧ v2.toInt = fm_sum (fun k => fm_wt sp.2.1 len k * fm_x xs ((m : Int) - k)) (k + 1) := by
  obtain ⟨hs, l1, l8⟩ := wn_len h
  have hmb := h.2.2.2.2.1
  have hg := h.2.2.2.2.2.2 k hk
  have hb := wn_wb hs hk l8
  rw [pk_sub_toInt (by omega) (by omega), rc_at_x (by omega)] at hr
  have hin := fm_x_in h.2.2.1 ((m : Int) - k)
  rw [← hr] at hin
  obtain ⟨p0, q0⟩ := fn_pr (b := g k) (x := r) (by rw [hg]; omega) hin
  have bs : ∀ j, j < k → -536870912 ≤ fm_wt sp.2.1 len j * fm_x xs ((m : Int) - j) ∧ fm_wt sp.2.1 len j * fm_x xs ((m : Int) - j) ≤ 536870912 := fun j hj => by
    have h1 := wn_wb hs (show j < len by omega) l8
    have h2 := fm_x_in h.2.2.1 ((m : Int) - j)
    unfold fm_in at h2
    have h3 := fn_bd (a := fm_wt sp.2.1 len j) (b := fm_x xs ((m : Int) - j)) (A := 64) (B := 8388608) (by omega) (by omega)
    omega
  have b1 := fm_sum_le (f := fun k => fm_wt sp.2.1 len k * fm_x xs ((m : Int) - k)) (B := 536870912) (n := k) (fun j hj => (bs j hj).2)
  have b2 := fm_sum_ge (f := fun k => fm_wt sp.2.1 len k * fm_x xs ((m : Int) - k)) (B := -536870912) (n := k) (fun j hj => (bs j hj).1)
  refine ⟨hk, ?_⟩
  rw [hv, Kit.i64_add (by rw [hi.2, p0]; omega) (by rw [hi.2, p0]; omega), hi.2, p0, hg, hr]
  rfl
theorem wn_pos {len : Nat} {tt : Int32} {f g : Nat → Int32} {sp : fm_S} {xs : List Int} {m : Nat} (h : wn_ok len tt f g sp xs m) : 0 < tt.toInt64.toInt := by
  obtain ⟨hs, l1, l8⟩ := wn_len h
  rw [Kit.i64_of_i32, h.2.2.2.2.2.1]
  have b2 := fm_sum_ge (f := fm_wt sp.2.1 len) (B := 1) (n := len) (fun j hj => (wn_wb hs hj l8).1)
  omega
theorem fm_sum_mul {w x : Nat → Int} {B : Int} : ∀ {n : Nat}, (∀ k, k < n → 0 ≤ w k ∧ x k ≤ B) → fm_sum (fun k => w k * x k) n ≤ B * fm_sum w n
  | 0, _ => by show (0 : Int) ≤ B * 0; omega
  | n + 1, h => by
    have ih := fm_sum_mul (w := w) (x := x) (B := B) (n := n) (fun k hk => h k (by omega))
    have h1 := h n (by omega)
    have h2 : w n * x n ≤ w n * B := Int.mul_le_mul_of_nonneg_left h1.2 h1.1
    show fm_sum (fun k => w k * x k) n + w n * x n ≤ B * (fm_sum w n + w n)
    rw [Int.mul_add, Int.mul_comm B (w n)]
    omega
theorem fm_sum_mulg {w x : Nat → Int} {B : Int} : ∀ {n : Nat}, (∀ k, k < n → 0 ≤ w k ∧ B ≤ x k) → B * fm_sum w n ≤ fm_sum (fun k => w k * x k) n
  | 0, _ => by show B * 0 ≤ (0 : Int); omega
  | n + 1, h => by
    have ih := fm_sum_mulg (w := w) (x := x) (B := B) (n := n) (fun k hk => h k (by omega))
    have h1 := h n (by omega)
    have h2 : w n * B ≤ w n * x n := Int.mul_le_mul_of_nonneg_left h1.2 h1.1
    show B * (fm_sum w n + w n) ≤ fm_sum (fun k => w k * x k) n + w n * x n
    rw [Int.mul_add, Int.mul_comm B (w n)]
    omega
theorem fm_win_in {sh : Int} {len : Nat} {xs : List Int} {m : Nat} (hs : sh = 0 ∨ sh = 1 ∨ sh = 2) (l1 : 1 ≤ len) (l8 : len ≤ 8) (hx : ∀ v ∈ xs, fm_in v) : fm_in (fm_sum (fun k => fm_wt sh len k * fm_x xs ((m : Int) - k)) len / fm_sum (fm_wt sh len) len) := by
  have hp := fm_sum_ge (f := fm_wt sh len) (B := 1) (n := len) (fun j hj => (wn_wb hs hj l8).1)
  have hu := fm_sum_mul (w := fm_wt sh len) (x := fun k => fm_x xs ((m : Int) - k)) (B := 8388607) (n := len) (fun k hk => ⟨by have := wn_wb hs hk l8; omega, (fm_x_in hx _).2⟩)
  have hl := fm_sum_mulg (w := fm_wt sh len) (x := fun k => fm_x xs ((m : Int) - k)) (B := -8388608) (n := len) (fun k hk => ⟨by have := wn_wb hs hk l8; omega, (fm_x_in hx _).1⟩)
  refine ⟨Int.le_ediv_of_mul_le (by omega) hl, ?_⟩
  have := Int.ediv_lt_of_lt_mul (a := fm_sum (fun k => fm_wt sh len k * fm_x xs ((m : Int) - k)) len) (b := 8388608) (c := fm_sum (fm_wt sh len) len) (by omega) (by omega)
  omega
theorem wn_val {len : Nat} {tt : Int32} {f g : Nat → Int32} {sp : fm_S} {xs : List Int} {m k : Nat} {v q : Int64} {r : Int32} (h : wn_ok len tt f g sp xs m) (hk : k = len) (hi : k ≤ len ∧ v.toInt = fm_sum (fun k => fm_wt sp.2.1 len k * fm_x xs ((m : Int) - k)) k)
    (hq : q.toInt = v.toInt / tt.toInt64.toInt) (hr : r.toInt = fm_clip q.toInt) : r.toInt = fm_y sp xs m := by
  obtain ⟨hs, l1, l8⟩ := wn_len h
  subst hk
  have e2 : sp.2.2.1.toNat = k := by rw [h.1]; rfl
  have k2 : sp.1 = 2 := by rw [h.1]
  rw [hr, hq, hi.2, Kit.i64_of_i32, h.2.2.2.2.2.1, fm_clip_id (fm_win_in hs l1 l8 h.2.2.1)]
  unfold fm_y
  rw [if_neg (by omega), if_neg (by omega), if_pos k2, e2]

theorem dc_Window_init_0 : decode cb_Window_init 0 = .ok (.aload_n 0, 1) := by decide +kernel
theorem dc_Window_init_1 : decode cb_Window_init 1 = .ok (.invokespecial 1, 3) := by decide +kernel
theorem dc_Window_init_4 : decode cb_Window_init 4 = .ok (.aload_n 0, 1) := by decide +kernel
theorem dc_Window_init_5 : decode cb_Window_init 5 = .ok (.new 7, 3) := by decide +kernel
theorem dc_Window_init_8 : decode cb_Window_init 8 = .ok (.dup, 1) := by decide +kernel
theorem dc_Window_init_9 : decode cb_Window_init 9 = .ok (.invokespecial 9, 3) := by decide +kernel
theorem dc_Window_init_12 : decode cb_Window_init 12 = .ok (.putfield 10, 3) := by decide +kernel
theorem dc_Window_init_15 : decode cb_Window_init 15 = .ok (.aload_n 0, 1) := by decide +kernel
theorem dc_Window_init_16 : decode cb_Window_init 16 = .ok (.iload_n 2, 1) := by decide +kernel
theorem dc_Window_init_17 : decode cb_Window_init 17 = .ok (.newarray .int, 2) := by decide +kernel
theorem dc_Window_init_19 : decode cb_Window_init 19 = .ok (.putfield 16, 3) := by decide +kernel
theorem dc_Window_init_22 : decode cb_Window_init 22 = .ok (.iconst 0, 1) := by decide +kernel
theorem dc_Window_init_23 : decode cb_Window_init 23 = .ok (.istore_n 3, 1) := by decide +kernel
theorem dc_Window_init_24 : decode cb_Window_init 24 = .ok (.iconst 0, 1) := by decide +kernel
theorem dc_Window_init_25 : decode cb_Window_init 25 = .ok (.istore 4, 2) := by decide +kernel
theorem dc_Window_init_27 : decode cb_Window_init 27 = .ok (.iload 4, 2) := by decide +kernel
theorem dc_Window_init_29 : decode cb_Window_init 29 = .ok (.iload_n 2, 1) := by decide +kernel
theorem dc_Window_init_30 : decode cb_Window_init 30 = .ok (.if_icmp .ge 38, 3) := by decide +kernel
theorem dc_Window_init_33 : decode cb_Window_init 33 = .ok (.aload_n 0, 1) := by decide +kernel
theorem dc_Window_init_34 : decode cb_Window_init 34 = .ok (.getfield 16, 3) := by decide +kernel
theorem dc_Window_init_37 : decode cb_Window_init 37 = .ok (.iload 4, 2) := by decide +kernel
theorem dc_Window_init_39 : decode cb_Window_init 39 = .ok (.iload_n 1, 1) := by decide +kernel
theorem dc_Window_init_40 : decode cb_Window_init 40 = .ok (.iload 4, 2) := by decide +kernel
theorem dc_Window_init_42 : decode cb_Window_init 42 = .ok (.iconst 1, 1) := by decide +kernel
theorem dc_Window_init_43 : decode cb_Window_init 43 = .ok (.iadd, 1) := by decide +kernel
theorem dc_Window_init_44 : decode cb_Window_init 44 = .ok (.iload_n 2, 1) := by decide +kernel
theorem dc_Window_init_45 : decode cb_Window_init 45 = .ok (.iload 4, 2) := by decide +kernel
theorem dc_Window_init_47 : decode cb_Window_init 47 = .ok (.isub, 1) := by decide +kernel
theorem dc_Window_init_48 : decode cb_Window_init 48 = .ok (.invokestatic 20, 3) := by decide +kernel
theorem dc_Window_init_51 : decode cb_Window_init 51 = .ok (.iastore, 1) := by decide +kernel
theorem dc_Window_init_52 : decode cb_Window_init 52 = .ok (.iload_n 3, 1) := by decide +kernel
theorem dc_Window_init_53 : decode cb_Window_init 53 = .ok (.aload_n 0, 1) := by decide +kernel
theorem dc_Window_init_54 : decode cb_Window_init 54 = .ok (.getfield 16, 3) := by decide +kernel
theorem dc_Window_init_57 : decode cb_Window_init 57 = .ok (.iload 4, 2) := by decide +kernel
theorem dc_Window_init_59 : decode cb_Window_init 59 = .ok (.iaload, 1) := by decide +kernel
theorem dc_Window_init_60 : decode cb_Window_init 60 = .ok (.iadd, 1) := by decide +kernel
theorem dc_Window_init_61 : decode cb_Window_init 61 = .ok (.istore_n 3, 1) := by decide +kernel
theorem dc_Window_init_62 : decode cb_Window_init 62 = .ok (.iinc 4 1, 3) := by decide +kernel
theorem dc_Window_init_65 : decode cb_Window_init 65 = .ok (.goto (-38), 3) := by decide +kernel
theorem dc_Window_init_68 : decode cb_Window_init 68 = .ok (.aload_n 0, 1) := by decide +kernel
theorem dc_Window_init_69 : decode cb_Window_init 69 = .ok (.iload_n 3, 1) := by decide +kernel
theorem dc_Window_init_70 : decode cb_Window_init 70 = .ok (.putfield 24, 3) := by decide +kernel
theorem dc_Window_init_73 : decode cb_Window_init 73 = .ok (.return_, 1) := by decide +kernel
theorem yk_Window_init : fq_Y my_Window_init cb_Window_init 5 none 2 := ⟨wd_375, wd_43, by decide +kernel⟩
theorem dc_Window_weight_0 : decode cb_Window_weight 0 = .ok (.iload_n 0, 1) := by decide +kernel
theorem dc_Window_weight_1 : decode cb_Window_weight 1 = .ok (.lookupswitch 35 #[(0, 27), (1, 29)], 27) := by decide +kernel
theorem dc_Window_weight_28 : decode cb_Window_weight 28 = .ok (.iconst 1, 1) := by decide +kernel
theorem dc_Window_weight_29 : decode cb_Window_weight 29 = .ok (.ireturn, 1) := by decide +kernel
theorem dc_Window_weight_30 : decode cb_Window_weight 30 = .ok (.iload_n 1, 1) := by decide +kernel
theorem dc_Window_weight_31 : decode cb_Window_weight 31 = .ok (.iload_n 2, 1) := by decide +kernel
theorem dc_Window_weight_32 : decode cb_Window_weight 32 = .ok (.invokestatic 28, 3) := by decide +kernel
theorem dc_Window_weight_35 : decode cb_Window_weight 35 = .ok (.ireturn, 1) := by decide +kernel
theorem dc_Window_weight_36 : decode cb_Window_weight 36 = .ok (.iload_n 1, 1) := by decide +kernel
theorem dc_Window_weight_37 : decode cb_Window_weight 37 = .ok (.iload_n 2, 1) := by decide +kernel
theorem dc_Window_weight_38 : decode cb_Window_weight 38 = .ok (.imul, 1) := by decide +kernel
theorem dc_Window_weight_39 : decode cb_Window_weight 39 = .ok (.ireturn, 1) := by decide +kernel
theorem yk_Window_weight : fq_Y my_Window_weight cb_Window_weight 3 (some .int) 3 := ⟨wd_392, wd_43, by decide +kernel⟩
theorem dc_Window_take_0 : decode cb_Window_take 0 = .ok (.aload_n 0, 1) := by decide +kernel
theorem dc_Window_take_1 : decode cb_Window_take 1 = .ok (.getfield 10, 3) := by decide +kernel
theorem dc_Window_take_4 : decode cb_Window_take 4 = .ok (.iload_n 1, 1) := by decide +kernel
theorem dc_Window_take_5 : decode cb_Window_take 5 = .ok (.invokevirtual 34, 3) := by decide +kernel
theorem dc_Window_take_8 : decode cb_Window_take 8 = .ok (.iconst 1, 1) := by decide +kernel
theorem dc_Window_take_9 : decode cb_Window_take 9 = .ok (.ireturn, 1) := by decide +kernel
theorem yk_Window_take : fq_Y my_Window_take cb_Window_take 2 (some .int) 1 := ⟨wd_639, wd_43, by decide +kernel⟩
theorem dc_Window_finish_0 : decode cb_Window_finish 0 = .ok (.aload_n 0, 1) := by decide +kernel
theorem dc_Window_finish_1 : decode cb_Window_finish 1 = .ok (.getfield 10, 3) := by decide +kernel
theorem dc_Window_finish_4 : decode cb_Window_finish 4 = .ok (.invokevirtual 38, 3) := by decide +kernel
theorem dc_Window_finish_7 : decode cb_Window_finish 7 = .ok (.ifCond .ne 7, 3) := by decide +kernel
theorem dc_Window_finish_10 : decode cb_Window_finish 10 = .ok (.iconst 0, 1) := by decide +kernel
theorem dc_Window_finish_11 : decode cb_Window_finish 11 = .ok (.goto 10, 3) := by decide +kernel
theorem dc_Window_finish_14 : decode cb_Window_finish 14 = .ok (.aload_n 0, 1) := by decide +kernel
theorem dc_Window_finish_15 : decode cb_Window_finish 15 = .ok (.getfield 16, 3) := by decide +kernel
theorem dc_Window_finish_18 : decode cb_Window_finish 18 = .ok (.arraylength, 1) := by decide +kernel
theorem dc_Window_finish_19 : decode cb_Window_finish 19 = .ok (.iconst 1, 1) := by decide +kernel
theorem dc_Window_finish_20 : decode cb_Window_finish 20 = .ok (.isub, 1) := by decide +kernel
theorem dc_Window_finish_21 : decode cb_Window_finish 21 = .ok (.ireturn, 1) := by decide +kernel
theorem yk_Window_finish : fq_Y my_Window_finish cb_Window_finish 1 (some .int) 0 := ⟨wd_705, wd_43, by decide +kernel⟩
theorem dc_Window_make_0 : decode cb_Window_make 0 = .ok (.lconst 0, 1) := by decide +kernel
theorem dc_Window_make_1 : decode cb_Window_make 1 = .ok (.lstore_n 1, 1) := by decide +kernel
theorem dc_Window_make_2 : decode cb_Window_make 2 = .ok (.iconst 0, 1) := by decide +kernel
theorem dc_Window_make_3 : decode cb_Window_make 3 = .ok (.istore_n 3, 1) := by decide +kernel
theorem dc_Window_make_4 : decode cb_Window_make 4 = .ok (.iload_n 3, 1) := by decide +kernel
theorem dc_Window_make_5 : decode cb_Window_make 5 = .ok (.aload_n 0, 1) := by decide +kernel
theorem dc_Window_make_6 : decode cb_Window_make 6 = .ok (.getfield 16, 3) := by decide +kernel
theorem dc_Window_make_9 : decode cb_Window_make 9 = .ok (.arraylength, 1) := by decide +kernel
theorem dc_Window_make_10 : decode cb_Window_make 10 = .ok (.if_icmp .ge 34, 3) := by decide +kernel
theorem dc_Window_make_13 : decode cb_Window_make 13 = .ok (.lload_n 1, 1) := by decide +kernel
theorem dc_Window_make_14 : decode cb_Window_make 14 = .ok (.aload_n 0, 1) := by decide +kernel
theorem dc_Window_make_15 : decode cb_Window_make 15 = .ok (.getfield 16, 3) := by decide +kernel
theorem dc_Window_make_18 : decode cb_Window_make 18 = .ok (.iload_n 3, 1) := by decide +kernel
theorem dc_Window_make_19 : decode cb_Window_make 19 = .ok (.iaload, 1) := by decide +kernel
theorem dc_Window_make_20 : decode cb_Window_make 20 = .ok (.i2l, 1) := by decide +kernel
theorem dc_Window_make_21 : decode cb_Window_make 21 = .ok (.aload_n 0, 1) := by decide +kernel
theorem dc_Window_make_22 : decode cb_Window_make 22 = .ok (.getfield 10, 3) := by decide +kernel
theorem dc_Window_make_25 : decode cb_Window_make 25 = .ok (.aload_n 0, 1) := by decide +kernel
theorem dc_Window_make_26 : decode cb_Window_make 26 = .ok (.getfield 42, 3) := by decide +kernel
theorem dc_Window_make_29 : decode cb_Window_make 29 = .ok (.iload_n 3, 1) := by decide +kernel
theorem dc_Window_make_30 : decode cb_Window_make 30 = .ok (.isub, 1) := by decide +kernel
theorem dc_Window_make_31 : decode cb_Window_make 31 = .ok (.invokevirtual 45, 3) := by decide +kernel
theorem dc_Window_make_34 : decode cb_Window_make 34 = .ok (.i2l, 1) := by decide +kernel
theorem dc_Window_make_35 : decode cb_Window_make 35 = .ok (.lmul, 1) := by decide +kernel
theorem dc_Window_make_36 : decode cb_Window_make 36 = .ok (.ladd, 1) := by decide +kernel
theorem dc_Window_make_37 : decode cb_Window_make 37 = .ok (.lstore_n 1, 1) := by decide +kernel
theorem dc_Window_make_38 : decode cb_Window_make 38 = .ok (.iinc 3 1, 3) := by decide +kernel
theorem dc_Window_make_41 : decode cb_Window_make 41 = .ok (.goto (-37), 3) := by decide +kernel
theorem dc_Window_make_44 : decode cb_Window_make 44 = .ok (.aload_n 0, 1) := by decide +kernel
theorem dc_Window_make_45 : decode cb_Window_make 45 = .ok (.dup, 1) := by decide +kernel
theorem dc_Window_make_46 : decode cb_Window_make 46 = .ok (.getfield 42, 3) := by decide +kernel
theorem dc_Window_make_49 : decode cb_Window_make 49 = .ok (.iconst 1, 1) := by decide +kernel
theorem dc_Window_make_50 : decode cb_Window_make 50 = .ok (.iadd, 1) := by decide +kernel
theorem dc_Window_make_51 : decode cb_Window_make 51 = .ok (.putfield 42, 3) := by decide +kernel
theorem dc_Window_make_54 : decode cb_Window_make 54 = .ok (.lload_n 1, 1) := by decide +kernel
theorem dc_Window_make_55 : decode cb_Window_make 55 = .ok (.aload_n 0, 1) := by decide +kernel
theorem dc_Window_make_56 : decode cb_Window_make 56 = .ok (.getfield 24, 3) := by decide +kernel
theorem dc_Window_make_59 : decode cb_Window_make 59 = .ok (.i2l, 1) := by decide +kernel
theorem dc_Window_make_60 : decode cb_Window_make 60 = .ok (.invokestatic 49, 3) := by decide +kernel
theorem dc_Window_make_63 : decode cb_Window_make 63 = .ok (.invokestatic 53, 3) := by decide +kernel
theorem dc_Window_make_66 : decode cb_Window_make 66 = .ok (.ireturn, 1) := by decide +kernel
theorem yk_Window_make : fq_Y my_Window_make cb_Window_make 4 (some .int) 0 := ⟨wd_683, wd_43, by decide +kernel⟩
theorem dc_Window_clear_0 : decode cb_Window_clear 0 = .ok (.aload_n 0, 1) := by decide +kernel
theorem dc_Window_clear_1 : decode cb_Window_clear 1 = .ok (.getfield 10, 3) := by decide +kernel
theorem dc_Window_clear_4 : decode cb_Window_clear 4 = .ok (.invokevirtual 59, 3) := by decide +kernel
theorem dc_Window_clear_7 : decode cb_Window_clear 7 = .ok (.aload_n 0, 1) := by decide +kernel
theorem dc_Window_clear_8 : decode cb_Window_clear 8 = .ok (.iconst 0, 1) := by decide +kernel
theorem dc_Window_clear_9 : decode cb_Window_clear 9 = .ok (.putfield 42, 3) := by decide +kernel
theorem dc_Window_clear_12 : decode cb_Window_clear 12 = .ok (.return_, 1) := by decide +kernel
theorem yk_Window_clear : fq_Y my_Window_clear cb_Window_clear 1 none 0 := ⟨wd_535, wd_43, by decide +kernel⟩
set_option maxHeartbeats 4000000 in
set_option maxRecDepth 100000 in
theorem ct_Window_weight (l : Launch) (D : va_G) (cI cO : ClassId) (tE : Nat) (sh : Int32) (k len : Nat) (hsh : sh = 0 ∨ sh = 1 ∨ sh = 2) (hk : k < len) (hlen : len ≤ 8) (sz : Nat) : Met l my_Window_weight (fq_w my_Window_weight cb_Window_weight 3 (some .int)) ({ frames := 1, cells := 0, slots := 0, locals := 13 }) (va_Pc ([.int sh, .int (nI (k + 1)), .int (nI (len - k))]) (fq_Pre D cI cO tE sz ([]))) (va_Qi (S := va_W) (fun r w => w = [] ∧ r.toInt = fm_wt sh.toInt len k) (fq_Bw D (va_A ([]) sz)) (va_A ([]) sz)) (0) (0) (va_A ([]) sz) := by
  refine fq_open (by decide +kernel) (Nat.le_of_ble_eq_true rfl) ?_
  intro pg ev s mt below meth cd ls K hret hlk hin hK hZ hP hD hA hS hl
  generalize va_A ([]) sz = A at hZ hD hA hS ⊢
  have K : fq_Ctx pg mt cd cb_Window_weight 3 s _ cn_Window := K
  have hl : lv_has ls 3 [(0, .int sh), (1, .int (nI (k + 1))), (2, .int (nI (len - k)))] := hl
  refine lv_iload_n K.1 K.2.1 dc_Window_weight_0 rfl (lv_at hl 0 rfl) ?_
  by_cases c1_0 : sh = 0
  · skip
    refine lv_lookup (off := 27) (tgt := 28) K.1 K.2.1 dc_Window_weight_1 (by decide) (by rw [c1_0]; decide) rfl ?_
    refine lv_iconst (v := 1) K.1 K.2.1 dc_Window_weight_28 (by decide) ?_
    exact fq_reti K hret hlk hS hP hD ⟨rfl, wn_w0 c1_0⟩ dc_Window_weight_29 (Nat.le_of_ble_eq_true rfl) (Nat.le_of_ble_eq_true rfl)
  by_cases c1_1 : sh = 1
  · skip
    refine lv_lookup (off := 29) (tgt := 30) K.1 K.2.1 dc_Window_weight_1 (by decide) (by rw [c1_1]; decide) rfl ?_
    refine lv_iload_n K.1 K.2.1 dc_Window_weight_30 rfl (lv_at hl 1 rfl) ?_
    refine lv_iload_n K.1 K.2.1 dc_Window_weight_31 rfl (lv_at hl 2 rfl) ?_
    refine va_mmin K.1 K.2.1 (K.2.2.1.trans hl.1.symm) K.2.2.2.1 (K.2.2.2.2 _ wd_393) (K.2.2.2.2 _ wd_176) (K.2.2.2.2 _ wd_35) (K.2.2.2.2 _ wd_177) (Nat.le_of_ble_eq_true rfl) (Nat.le_of_ble_eq_true rfl) (Nat.le_of_ble_eq_true rfl) (Nat.le_of_ble_eq_true rfl) dc_Window_weight_32 ?_
    exact fq_reti K hret hlk hS hP hD ⟨rfl, wn_w1 c1_1 hk hlen⟩ dc_Window_weight_35 (Nat.le_of_ble_eq_true rfl) (Nat.le_of_ble_eq_true rfl)
  refine lv_lookup (off := 35) (tgt := 36) K.1 K.2.1 dc_Window_weight_1 (by decide) (by rcases hsh with z | z | z; exact absurd z c1_0; exact absurd z c1_1; rw [z]; decide) rfl ?_
  have c1_2 : sh = 2 := by rcases hsh with z | z | z; exact absurd z c1_0; exact absurd z c1_1; exact z
  refine lv_iload_n K.1 K.2.1 dc_Window_weight_36 rfl (lv_at hl 1 rfl) ?_
  refine lv_iload_n K.1 K.2.1 dc_Window_weight_37 rfl (lv_at hl 2 rfl) ?_
  refine lv_imul K.1 K.2.1 dc_Window_weight_38 ?_
  exact fq_reti K hret hlk hS hP hD ⟨rfl, wn_w2 c1_2 hk hlen⟩ dc_Window_weight_39 (Nat.le_of_ble_eq_true rfl) (Nat.le_of_ble_eq_true rfl)
set_option maxHeartbeats 4000000 in
set_option maxRecDepth 100000 in
theorem ct_Window_init (l : Launch) (D : va_G) (cI cO : ClassId) (tE : Nat) (h : Nat) (sh : Int32) (len : Nat) (hsh : sh = 0 ∨ sh = 1 ∨ sh = 2) (hl1 : 1 ≤ len) (hl8 : len ≤ 8) (sz : Nat) : Met l my_Window_init (fq_w my_Window_init cb_Window_init 5 none) ({ frames := 2, cells := 3, slots := 18, locals := 35 }) (va_Pc ([.ref h, .int sh, .int (nI len)]) (fq_Pre D cI cO tE sz ([(h, .inr (4, [.null, .int 0, .null, .int 0]))]))) (va_Qv (S := va_W) (fun w => sg_win cI h (2, sh.toInt, (len : Int), 0, 0, 0) [] 0 w) (fq_Bw D (va_A ([(h, .inr (4, [.null, .int 0, .null, .int 0]))]) sz)) (va_A ([(h, .inr (4, [.null, .int 0, .null, .int 0]))]) sz)) (3) (18) (va_A ([(h, .inr (4, [.null, .int 0, .null, .int 0]))]) sz) := by
  refine fq_open (by decide +kernel) (Nat.le_of_ble_eq_true rfl) ?_
  intro pg ev s mt below meth cd ls K hret hlk hin hK hZ hP hD hA hS hl
  generalize va_A ([(h, .inr (4, [.null, .int 0, .null, .int 0]))]) sz = A at hZ hD hA hS ⊢
  have K : fq_Ctx pg mt cd cb_Window_init 5 s _ cn_Window := K
  have hin : meth.name = "<init>" := hin
  have hl : lv_has ls 5 [(0, .ref h), (1, .int sh), (2, .int (nI len))] := hl
  refine lv_aload_n K.1 K.2.1 dc_Window_init_0 rfl (lv_at hl 0 rfl) ?_
  have hc := fq_cut.of (wc := []) hP hD hS hA [] (by decide) rfl
  refine fq_cv (wr := [(h, .inr (4, [.null, .int 0, .null, .int 0]))]) (fq_rIN K hK hZ hS hc (ct_Stage_init l D cI cO tE h _) yk_Stage_init wd_238 rfl wn_376 ⟨⟨rfl, rfl⟩, ⟨Nat.le_of_ble_eq_true rfl, Nat.le_of_ble_eq_true rfl⟩, ⟨Nat.le_of_ble_eq_true rfl, Nat.le_of_ble_eq_true rfl⟩⟩ hl.1 rfl (Nat.le_of_ble_eq_true rfl) dc_Window_init_1) hP hD hS hc [] [0] rfl rfl (by decide) (by decide) (fun  w H locs hw1 hP hD hS => ?_)
  subst hw1
  have hP : va_P D fq_cl ([(h, .inr (4, [.null, .int 0, .null, .int 0]))]) _ := hP
  have hD : va_D A ([(h, .inr (4, [.null, .int 0, .null, .int 0]))]) := hD
  refine lv_aload_n K.1 K.2.1 dc_Window_init_4 rfl (lv_at hl 0 rfl) ?_
  refine fq_new (fs := [.null, .int 0]) K hK cl_Recent wd_377 wd_378 wd_44 hP hD hS hA (by decide) (Nat.le_of_ble_eq_true rfl) (Nat.le_of_ble_eq_true rfl) dc_Window_init_5 (fun q1 H hP hD hS => ?_)
  have hP : va_P D fq_cl ([(h, .inr (4, [.null, .int 0, .null, .int 0])), (q1, .inr (1, [.null, .int 0]))]) _ := hP
  have hD : va_D A ([(h, .inr (4, [.null, .int 0, .null, .int 0])), (q1, .inr (1, [.null, .int 0]))]) := hD
  refine lv_dup K.1 K.2.1 dc_Window_init_8 rfl ?_
  have hc := fq_cut.of (wc := [(q1, .inr (1, [.null, .int 0]))]) hP hD hS hA [1] (by decide) rfl
  refine fq_cv (wr := [(h, .inr (4, [.null, .int 0, .null, .int 0]))]) (fq_rIN K hK hZ hS hc (ct_Recent_init l D cI cO tE q1 _) yk_Recent_init wd_380 rfl wn_379 ⟨⟨rfl, rfl⟩, ⟨Nat.le_of_ble_eq_true rfl, Nat.le_of_ble_eq_true rfl⟩, ⟨Nat.le_of_ble_eq_true rfl, Nat.le_of_ble_eq_true rfl⟩⟩ hl.1 rfl (Nat.le_of_ble_eq_true rfl) dc_Window_init_9) hP hD hS hc [1] [0] rfl rfl (by decide) (by decide) (fun  w H locs hw2 hP hD hS => ?_)
  obtain ⟨q2, rfl⟩ := hw2
  have hP : va_P D fq_cl ([(h, .inr (4, [.null, .int 0, .null, .int 0])), (q1, .inr (1, [.ref q2, .int 0])), (q2, .inl (cI, 8, .inl (fun _ => 0)))]) _ := hP
  have hD : va_D A ([(h, .inr (4, [.null, .int 0, .null, .int 0])), (q1, .inr (1, [.ref q2, .int 0])), (q2, .inl (cI, 8, .inl (fun _ => 0)))]) := hD
  refine fq_putF K hK cl_Window hP hD hS hin 0 2 rfl (by decide) wd_396 rfl rfl rfl rfl (Nat.le_of_ble_eq_true rfl) dc_Window_init_12 (fun H locs hP hD hS => ?_)
  have hP : va_P D fq_cl ([(h, .inr (4, [.null, .int 0, .ref q1, .int 0])), (q1, .inr (1, [.ref q2, .int 0])), (q2, .inl (cI, 8, .inl (fun _ => 0)))]) _ := hP
  have hD : va_D A ([(h, .inr (4, [.null, .int 0, .ref q1, .int 0])), (q1, .inr (1, [.ref q2, .int 0])), (q2, .inl (cI, 8, .inl (fun _ => 0)))]) := hD
  refine lv_aload_n K.1 K.2.1 dc_Window_init_15 rfl (lv_at hl 0 rfl) ?_
  refine lv_iload_n K.1 K.2.1 dc_Window_init_16 rfl (lv_at hl 2 rfl) ?_
  refine fq_newI K hK wd_104 hP hD hS hA len rfl (by omega) (Nat.le_of_ble_eq_true rfl) (by show 0 + 0 + 2 + 8 + len ≤ 18; omega) dc_Window_init_17 (fun q3 H hP hD hS => ?_)
  have hP : va_P D fq_cl ([(h, .inr (4, [.null, .int 0, .ref q1, .int 0])), (q1, .inr (1, [.ref q2, .int 0])), (q2, .inl (cI, 8, .inl (fun _ => 0))), (q3, .inl (cI, len, .inl (fun _ => 0)))]) _ := hP
  have hD : va_D A ([(h, .inr (4, [.null, .int 0, .ref q1, .int 0])), (q1, .inr (1, [.ref q2, .int 0])), (q2, .inl (cI, 8, .inl (fun _ => 0))), (q3, .inl (cI, len, .inl (fun _ => 0)))]) := hD
  refine fq_putF K hK cl_Window hP hD hS hin 0 0 rfl (by decide) wd_394 rfl rfl rfl rfl (Nat.le_of_ble_eq_true rfl) dc_Window_init_19 (fun H locs hP hD hS => ?_)
  have hP : va_P D fq_cl ([(h, .inr (4, [.ref q3, .int 0, .ref q1, .int 0])), (q1, .inr (1, [.ref q2, .int 0])), (q2, .inl (cI, 8, .inl (fun _ => 0))), (q3, .inl (cI, len, .inl (fun _ => 0)))]) _ := hP
  have hD : va_D A ([(h, .inr (4, [.ref q3, .int 0, .ref q1, .int 0])), (q1, .inr (1, [.ref q2, .int 0])), (q2, .inl (cI, 8, .inl (fun _ => 0))), (q3, .inl (cI, len, .inl (fun _ => 0)))]) := hD
  refine lv_iconst (v := 0) K.1 K.2.1 dc_Window_init_22 (by decide) ?_
  refine lv_istore_n K.1 K.2.1 dc_Window_init_23 rfl hl (by decide) rfl (fun ls hl => ?_)
  have hl : lv_has ls 5 [(3, .int 0), (0, .ref h), (1, .int sh), (2, .int (nI len))] := hl
  refine lv_iconst (v := 0) K.1 K.2.1 dc_Window_init_24 (by decide) ?_
  refine lv_istore K.1 K.2.1 dc_Window_init_25 hl (by decide) rfl (fun ls hl => ?_)
  have hl : lv_has ls 5 [(4, .int 0), (3, .int 0), (0, .ref h), (1, .int sh), (2, .int (nI len))] := hl
  refine fq_lp (σ := Nat × Int32 × (Nat → Int32)) (fun x => len - x.1) (fun x H locs ls => (x.1 ≤ len ∧ x.2.1.toInt = fm_sum (fm_wt sh.toInt len) x.1 ∧ ∀ j, j < x.1 → (x.2.2 j).toInt = fm_wt sh.toInt len j) ∧ lv_has ls 5 [(0, .ref h), (1, .int sh), (2, .int (nI len)), (3, .int x.2.1), (4, .int (nI x.1))] ∧ va_P D fq_cl ([(h, .inr (4, [.ref q3, .int 0, .ref q1, .int 0])), (q1, .inr (1, [.ref q2, .int 0])), (q2, .inl (cI, 8, .inl (fun _ => 0))), (q3, .inl (cI, len, .inl x.2.2))]) H ∧ va_D A ([(h, .inr (4, [.ref q3, .int 0, .ref q1, .int 0])), (q1, .inr (1, [.ref q2, .int 0])), (q2, .inl (cI, 8, .inl (fun _ => 0))), (q3, .inl (cI, len, .inl x.2.2))]) ∧ va_S A s.heap H locs) ?_ (0, 0, fun _ => 0) _ _ _ ⟨⟨Nat.zero_le _, rfl, fun j hj => absurd hj (Nat.not_lt_zero j)⟩, lv_sub hl [2, 3, 4, 1, 0] rfl, hP, hD, hS⟩
  rintro ⟨k, sm, g⟩ H locs ls ⟨hI27, hl, hP, hD, hS⟩ ih27
  have hI27 : k ≤ len ∧ sm.toInt = fm_sum (fm_wt sh.toInt len) k ∧ ∀ j, j < k → (g j).toInt = fm_wt sh.toInt len j := hI27
  have hl : lv_has ls 5 [(0, .ref h), (1, .int sh), (2, .int (nI len)), (3, .int sm), (4, .int (nI k))] := hl
  have hP : va_P D fq_cl ([(h, .inr (4, [.ref q3, .int 0, .ref q1, .int 0])), (q1, .inr (1, [.ref q2, .int 0])), (q2, .inl (cI, 8, .inl (fun _ => 0))), (q3, .inl (cI, len, .inl g))]) _ := hP
  have hD : va_D A ([(h, .inr (4, [.ref q3, .int 0, .ref q1, .int 0])), (q1, .inr (1, [.ref q2, .int 0])), (q2, .inl (cI, 8, .inl (fun _ => 0))), (q3, .inl (cI, len, .inl g))]) := hD
  refine lv_iload K.1 K.2.1 dc_Window_init_27 (lv_at hl 4 rfl) ?_
  refine lv_iload_n K.1 K.2.1 dc_Window_init_29 rfl (lv_at hl 2 rfl) ?_
  refine lv_icmp_ge (tgt := 68) K.1 K.2.1 dc_Window_init_30 rfl (fun b30 => ?_) (fun b30 => ?_)
  · skip
    have hk : k = len := by rw [nI_leI (by omega) (by omega)] at b30; omega
    refine lv_aload_n K.1 K.2.1 dc_Window_init_68 rfl (lv_at hl 0 rfl) ?_
    refine lv_iload_n K.1 K.2.1 dc_Window_init_69 rfl (lv_at hl 3 rfl) ?_
    refine fq_putF K hK cl_Window hP hD hS hin 0 1 rfl (by decide) wd_395 rfl rfl rfl rfl (Nat.le_of_ble_eq_true rfl) dc_Window_init_70 (fun H locs hP hD hS => ?_)
    have hP : va_P D fq_cl ([(h, .inr (4, [.ref q3, .int sm, .ref q1, .int 0])), (q1, .inr (1, [.ref q2, .int 0])), (q2, .inl (cI, 8, .inl (fun _ => 0))), (q3, .inl (cI, len, .inl g))]) _ := hP
    have hD : va_D A ([(h, .inr (4, [.ref q3, .int sm, .ref q1, .int 0])), (q1, .inr (1, [.ref q2, .int 0])), (q2, .inl (cI, 8, .inl (fun _ => 0))), (q3, .inl (cI, len, .inl g))]) := hD
    exact fq_retv K hret hlk hS hP hD ⟨_, _, _, _, _, _, _, rfl, wn_new hsh hl1 hl8 hI27 hk⟩ dc_Window_init_73 (by omega) (by omega)
  · skip
    have hk : k < len := by rw [nI_leI (by omega) (by omega)] at b30; omega
    refine lv_aload_n K.1 K.2.1 dc_Window_init_33 rfl (lv_at hl 0 rfl) ?_
    refine fq_get K hK cl_Window hP 0 0 rfl (by decide) wd_394 rfl dc_Window_init_34 ?_
    refine lv_iload K.1 K.2.1 dc_Window_init_37 (lv_at hl 4 rfl) ?_
    refine lv_iload_n K.1 K.2.1 dc_Window_init_39 rfl (lv_at hl 1 rfl) ?_
    refine lv_iload K.1 K.2.1 dc_Window_init_40 (lv_at hl 4 rfl) ?_
    refine lv_iconst (v := 1) K.1 K.2.1 dc_Window_init_42 (by decide) ?_
    refine lv_iadd K.1 K.2.1 dc_Window_init_43 ?_
    refine fq_asi (y := nI (k + 1)) (nI_1 k) ?_
    refine lv_iload_n K.1 K.2.1 dc_Window_init_44 rfl (lv_at hl 2 rfl) ?_
    refine lv_iload K.1 K.2.1 dc_Window_init_45 (lv_at hl 4 rfl) ?_
    refine lv_isub K.1 K.2.1 dc_Window_init_47 ?_
    refine fq_asi (y := nI (len - k)) (pk_sub (by omega)) ?_
    have hc := fq_cut.of (wc := []) hP hD hS hA [] (by decide) rfl
    refine fq_ci (wr := [(h, .inr (4, [.ref q3, .int 0, .ref q1, .int 0])), (q1, .inr (1, [.ref q2, .int 0])), (q2, .inl (cI, 8, .inl (fun _ => 0))), (q3, .inl (cI, len, .inl g))]) (fq_rS K hK hZ hS hc (ct_Window_weight l D cI cO tE sh k len hsh hk hl8 _) yk_Window_weight wd_391 wd_390 ⟨⟨rfl, rfl⟩, ⟨Nat.le_of_ble_eq_true rfl, Nat.le_of_ble_eq_true rfl⟩, ⟨Nat.le_of_ble_eq_true rfl, (by show 0 + 0 + 2 + 8 + len + 0 ≤ 18; omega)⟩⟩ hl.1 rfl (Nat.le_of_ble_eq_true rfl) dc_Window_init_48) hP hD hS hc [] [0, 1, 2, 3] rfl rfl (by decide) (by decide) (fun r1 w H locs hw3 hP hD hS => ?_)
    obtain ⟨rfl, hwt1⟩ := hw3
    have hP : va_P D fq_cl ([(h, .inr (4, [.ref q3, .int 0, .ref q1, .int 0])), (q1, .inr (1, [.ref q2, .int 0])), (q2, .inl (cI, 8, .inl (fun _ => 0))), (q3, .inl (cI, len, .inl g))]) _ := hP
    have hD : va_D A ([(h, .inr (4, [.ref q3, .int 0, .ref q1, .int 0])), (q1, .inr (1, [.ref q2, .int 0])), (q2, .inl (cI, 8, .inl (fun _ => 0))), (q3, .inl (cI, len, .inl g))]) := hD
    refine fq_ast K hK hP hD hS 3 rfl (vp_in_nI hk (by omega)) dc_Window_init_51 (fun H locs hP hD hS => ?_)
    rw [nI_clamp (by omega)] at hP hD
    have hP : va_P D fq_cl ([(h, .inr (4, [.ref q3, .int 0, .ref q1, .int 0])), (q1, .inr (1, [.ref q2, .int 0])), (q2, .inl (cI, 8, .inl (fun _ => 0))), (q3, .inl (cI, len, .inl (upd g k r1)))]) _ := hP
    have hD : va_D A ([(h, .inr (4, [.ref q3, .int 0, .ref q1, .int 0])), (q1, .inr (1, [.ref q2, .int 0])), (q2, .inl (cI, 8, .inl (fun _ => 0))), (q3, .inl (cI, len, .inl (upd g k r1)))]) := hD
    refine lv_iload_n K.1 K.2.1 dc_Window_init_52 rfl (lv_at hl 3 rfl) ?_
    refine lv_aload_n K.1 K.2.1 dc_Window_init_53 rfl (lv_at hl 0 rfl) ?_
    refine fq_get K hK cl_Window hP 0 0 rfl (by decide) wd_394 rfl dc_Window_init_54 ?_
    refine lv_iload K.1 K.2.1 dc_Window_init_57 (lv_at hl 4 rfl) ?_
    refine fq_ald K hK hP 3 rfl (vp_in_nI hk (by omega)) dc_Window_init_59 ?_
    refine fq_asi (y := (upd g k r1) k) (by rw [nI_clamp (by omega)]) ?_
    refine fq_asi (y := r1) (pk_us) ?_
    refine lv_iadd K.1 K.2.1 dc_Window_init_60 ?_
    refine lv_topi (fun v1 e_v1 => ?_)
    refine lv_istore_n K.1 K.2.1 dc_Window_init_61 rfl hl (by decide) rfl (fun ls hl => ?_)
    have hl : lv_has ls 5 [(3, .int v1), (0, .ref h), (1, .int sh), (2, .int (nI len)), (4, .int (nI k))] := hl
    refine lv_iinc (v := nI (k + 1)) K.1 K.2.1 dc_Window_init_62 hl (k := 4) rfl (nI_1 k) (by decide) rfl (fun ls hl => ?_)
    have hl : lv_has ls 5 [(4, .int (nI (k + 1))), (3, .int v1), (0, .ref h), (1, .int sh), (2, .int (nI len))] := hl
    refine lv_goto (tgt := 27) K.1 K.2.1 dc_Window_init_65 rfl ?_
    exact ih27 (k + 1, v1, upd g k r1) _ _ _ (by show len - (k + 1) < len - k; omega) ⟨wn_step hI27 hk hl8 hwt1 e_v1, lv_sub hl [2, 3, 4, 1, 0] rfl, hP, hD, hS⟩
set_option maxHeartbeats 4000000 in
set_option maxRecDepth 100000 in
theorem ct_Window_take (l : Launch) (D : va_G) (cI cO : ClassId) (tE : Nat) (h hw hr ha len : Nat) (tt : Int32) (f g : Nat → Int32) (sp : fm_S) (xs : List Int) (m : Nat) (hwn : wn_ok len tt f g sp xs m) (x : Int32) (hx : fm_in x.toInt) (hlt : xs.length < 1000000) (sz : Nat) : Met l my_Window_take (fq_w my_Window_take cb_Window_take 2 (some .int)) ({ frames := 1, cells := 0, slots := 0, locals := 21 }) (va_Pc ([.ref h, .int x]) (fq_Pre D cI cO tE sz ([(h, .inr (4, [.ref hw, .int tt, .ref hr, .int (nI m)])), (hr, .inr (1, [.ref ha, .int (nI xs.length)])), (ha, .inl (cI, 8, .inl f)), (hw, .inl (cI, len, .inl g))]))) (va_Qi (S := va_W) (fun r w => r = 1 ∧ sg_win cI h sp (xs ++ [x.toInt]) m w) (fq_Bw D (va_A ([(h, .inr (4, [.ref hw, .int tt, .ref hr, .int (nI m)])), (hr, .inr (1, [.ref ha, .int (nI xs.length)])), (ha, .inl (cI, 8, .inl f)), (hw, .inl (cI, len, .inl g))]) sz)) (va_A ([(h, .inr (4, [.ref hw, .int tt, .ref hr, .int (nI m)])), (hr, .inr (1, [.ref ha, .int (nI xs.length)])), (ha, .inl (cI, 8, .inl f)), (hw, .inl (cI, len, .inl g))]) sz)) (0) (0) (va_A ([(h, .inr (4, [.ref hw, .int tt, .ref hr, .int (nI m)])), (hr, .inr (1, [.ref ha, .int (nI xs.length)])), (ha, .inl (cI, 8, .inl f)), (hw, .inl (cI, len, .inl g))]) sz) := by
  refine fq_open (by decide +kernel) (Nat.le_of_ble_eq_true rfl) ?_
  intro pg ev s mt below meth cd ls K hret hlk hin hK hZ hP hD hA hS hl
  generalize va_A ([(h, .inr (4, [.ref hw, .int tt, .ref hr, .int (nI m)])), (hr, .inr (1, [.ref ha, .int (nI xs.length)])), (ha, .inl (cI, 8, .inl f)), (hw, .inl (cI, len, .inl g))]) sz = A at hZ hD hA hS ⊢
  have K : fq_Ctx pg mt cd cb_Window_take 2 s _ cn_Window := K
  have hl : lv_has ls 2 [(0, .ref h), (1, .int x)] := hl
  refine lv_aload_n K.1 K.2.1 dc_Window_take_0 rfl (lv_at hl 0 rfl) ?_
  refine fq_get K hK cl_Window hP 0 2 rfl (by decide) wd_396 rfl dc_Window_take_1 ?_
  refine lv_iload_n K.1 K.2.1 dc_Window_take_4 rfl (lv_at hl 1 rfl) ?_
  have hc := fq_cut.of (wc := [(hr, .inr (1, [.ref ha, .int (nI xs.length)])), (ha, .inl (cI, 8, .inl f))]) hP hD hS hA [1, 2] (by decide) rfl
  refine fq_cv (wr := [(h, .inr (4, [.ref hw, .int tt, .ref hr, .int (nI m)])), (hw, .inl (cI, len, .inl g))]) (fq_rV K hK hZ hS hc (ct_Recent_put l D cI cO tE hr ha f xs x (hwn.2.2.2.1) hlt _) yk_Recent_put wd_623 wd_624 wd_640 0 rfl rfl rfl ⟨⟨rfl, rfl⟩, ⟨Nat.le_of_ble_eq_true rfl, Nat.le_of_ble_eq_true rfl⟩, ⟨Nat.le_of_ble_eq_true rfl, Nat.le_of_ble_eq_true rfl⟩⟩ hl.1 rfl (Nat.le_of_ble_eq_true rfl) dc_Window_take_5) hP hD hS hc [1, 2] [0, 3] rfl rfl (by decide) (by decide) (fun  w H locs hw1 hP hD hS => ?_)
  obtain ⟨g1, rfl, hrc1⟩ := hw1
  have hP : va_P D fq_cl ([(h, .inr (4, [.ref hw, .int tt, .ref hr, .int (nI m)])), (hw, .inl (cI, len, .inl g)), (hr, .inr (1, [.ref ha, .int (nI (xs ++ [x.toInt]).length)])), (ha, .inl (cI, 8, .inl g1))]) _ := hP
  have hD : va_D A ([(h, .inr (4, [.ref hw, .int tt, .ref hr, .int (nI m)])), (hw, .inl (cI, len, .inl g)), (hr, .inr (1, [.ref ha, .int (nI (xs ++ [x.toInt]).length)])), (ha, .inl (cI, 8, .inl g1))]) := hD
  refine lv_iconst (v := 1) K.1 K.2.1 dc_Window_take_8 (by decide) ?_
  have hP := hP.sub (ws' := [(h, .inr (4, [.ref hw, .int tt, .ref hr, .int (nI m)])), (hr, .inr (1, [.ref ha, .int (nI (xs ++ [x.toInt]).length)])), (ha, .inl (cI, 8, .inl g1)), (hw, .inl (cI, len, .inl g))]) [0, 2, 3, 1] rfl
  have hD := hD.sub (ws' := [(h, .inr (4, [.ref hw, .int tt, .ref hr, .int (nI m)])), (hr, .inr (1, [.ref ha, .int (nI (xs ++ [x.toInt]).length)])), (ha, .inl (cI, 8, .inl g1)), (hw, .inl (cI, len, .inl g))]) [0, 2, 3, 1] (by decide) rfl
  exact fq_reti K hret hlk hS hP hD ⟨rfl, _, _, _, _, _, _, _, rfl, wn_take hwn hx hrc1⟩ dc_Window_take_9 (Nat.le_of_ble_eq_true rfl) (Nat.le_of_ble_eq_true rfl)
set_option maxHeartbeats 4000000 in
set_option maxRecDepth 100000 in
theorem ct_Window_finish (l : Launch) (D : va_G) (cI cO : ClassId) (tE : Nat) (h hw hr ha len : Nat) (tt : Int32) (f g : Nat → Int32) (sp : fm_S) (xs : List Int) (m : Nat) (hwn : wn_ok len tt f g sp xs m)  (sz : Nat) : Met l my_Window_finish (fq_w my_Window_finish cb_Window_finish 1 (some .int)) ({ frames := 1, cells := 0, slots := 0, locals := 20 }) (va_Pc ([.ref h]) (fq_Pre D cI cO tE sz ([(h, .inr (4, [.ref hw, .int tt, .ref hr, .int (nI m)])), (hr, .inr (1, [.ref ha, .int (nI xs.length)])), (ha, .inl (cI, 8, .inl f)), (hw, .inl (cI, len, .inl g))]))) (va_Qi (S := va_W) (fun r w => r = nI (fm_m sp true xs.length - fm_m sp false xs.length) ∧ sg_win cI h sp xs m w) (fq_Bw D (va_A ([(h, .inr (4, [.ref hw, .int tt, .ref hr, .int (nI m)])), (hr, .inr (1, [.ref ha, .int (nI xs.length)])), (ha, .inl (cI, 8, .inl f)), (hw, .inl (cI, len, .inl g))]) sz)) (va_A ([(h, .inr (4, [.ref hw, .int tt, .ref hr, .int (nI m)])), (hr, .inr (1, [.ref ha, .int (nI xs.length)])), (ha, .inl (cI, 8, .inl f)), (hw, .inl (cI, len, .inl g))]) sz)) (0) (0) (va_A ([(h, .inr (4, [.ref hw, .int tt, .ref hr, .int (nI m)])), (hr, .inr (1, [.ref ha, .int (nI xs.length)])), (ha, .inl (cI, 8, .inl f)), (hw, .inl (cI, len, .inl g))]) sz) := by
  refine fq_open (by decide +kernel) (Nat.le_of_ble_eq_true rfl) ?_
  intro pg ev s mt below meth cd ls K hret hlk hin hK hZ hP hD hA hS hl
  generalize va_A ([(h, .inr (4, [.ref hw, .int tt, .ref hr, .int (nI m)])), (hr, .inr (1, [.ref ha, .int (nI xs.length)])), (ha, .inl (cI, 8, .inl f)), (hw, .inl (cI, len, .inl g))]) sz = A at hZ hD hA hS ⊢
  have K : fq_Ctx pg mt cd cb_Window_finish 1 s _ cn_Window := K
  have hl : lv_has ls 1 [(0, .ref h)] := hl
  refine lv_aload_n K.1 K.2.1 dc_Window_finish_0 rfl (lv_at hl 0 rfl) ?_
  refine fq_get K hK cl_Window hP 0 2 rfl (by decide) wd_396 rfl dc_Window_finish_1 ?_
  have hc := fq_cut.of (wc := [(hr, .inr (1, [.ref ha, .int (nI xs.length)])), (ha, .inl (cI, 8, .inl f))]) hP hD hS hA [1, 2] (by decide) rfl
  refine fq_ci (wr := [(h, .inr (4, [.ref hw, .int tt, .ref hr, .int (nI m)])), (hw, .inl (cI, len, .inl g))]) (fq_rV K hK hZ hS hc (ct_Recent_count l D cI cO tE hr ha f xs _) yk_Recent_count wd_627 wd_628 wd_706 0 rfl rfl rfl ⟨⟨rfl, rfl⟩, ⟨Nat.le_of_ble_eq_true rfl, Nat.le_of_ble_eq_true rfl⟩, ⟨Nat.le_of_ble_eq_true rfl, Nat.le_of_ble_eq_true rfl⟩⟩ hl.1 rfl (Nat.le_of_ble_eq_true rfl) dc_Window_finish_4) hP hD hS hc [1, 2] [0, 3] rfl rfl (by decide) (by decide) (fun r1 w H locs hw1 hP hD hS => ?_)
  obtain ⟨rfl, rfl⟩ := hw1
  have hP : va_P D fq_cl ([(h, .inr (4, [.ref hw, .int tt, .ref hr, .int (nI m)])), (hw, .inl (cI, len, .inl g)), (hr, .inr (1, [.ref ha, .int (nI xs.length)])), (ha, .inl (cI, 8, .inl f))]) _ := hP
  have hD : va_D A ([(h, .inr (4, [.ref hw, .int tt, .ref hr, .int (nI m)])), (hw, .inl (cI, len, .inl g)), (hr, .inr (1, [.ref ha, .int (nI xs.length)])), (ha, .inl (cI, 8, .inl f))]) := hD
  refine lv_if_ne (tgt := 14) K.1 K.2.1 dc_Window_finish_7 rfl (fun b7 => ?_) (fun b7 => ?_)
  · skip
    refine lv_aload_n K.1 K.2.1 dc_Window_finish_14 rfl (lv_at hl 0 rfl) ?_
    refine fq_get K hK cl_Window hP 0 0 rfl (by decide) wd_394 rfl dc_Window_finish_15 ?_
    refine fq_len K hK hP 1 rfl dc_Window_finish_18 ?_
    refine lv_iconst (v := 1) K.1 K.2.1 dc_Window_finish_19 (by decide) ?_
    refine lv_isub K.1 K.2.1 dc_Window_finish_20 ?_
    have hP := hP.sub (ws' := [(h, .inr (4, [.ref hw, .int tt, .ref hr, .int (nI m)])), (hr, .inr (1, [.ref ha, .int (nI xs.length)])), (ha, .inl (cI, 8, .inl f)), (hw, .inl (cI, len, .inl g))]) [0, 2, 3, 1] rfl
    have hD := hD.sub (ws' := [(h, .inr (4, [.ref hw, .int tt, .ref hr, .int (nI m)])), (hr, .inr (1, [.ref ha, .int (nI xs.length)])), (ha, .inl (cI, 8, .inl f)), (hw, .inl (cI, len, .inl g))]) [0, 2, 3, 1] (by decide) rfl
    exact fq_reti K hret hlk hS hP hD ⟨wn_fin1 hwn b7, _, _, _, _, _, _, _, rfl, hwn⟩ dc_Window_finish_21 (Nat.le_of_ble_eq_true rfl) (Nat.le_of_ble_eq_true rfl)
  · skip
    refine lv_iconst (v := 0) K.1 K.2.1 dc_Window_finish_10 (by decide) ?_
    refine lv_goto (tgt := 21) K.1 K.2.1 dc_Window_finish_11 rfl ?_
    have hP := hP.sub (ws' := [(h, .inr (4, [.ref hw, .int tt, .ref hr, .int (nI m)])), (hr, .inr (1, [.ref ha, .int (nI xs.length)])), (ha, .inl (cI, 8, .inl f)), (hw, .inl (cI, len, .inl g))]) [0, 2, 3, 1] rfl
    have hD := hD.sub (ws' := [(h, .inr (4, [.ref hw, .int tt, .ref hr, .int (nI m)])), (hr, .inr (1, [.ref ha, .int (nI xs.length)])), (ha, .inl (cI, 8, .inl f)), (hw, .inl (cI, len, .inl g))]) [0, 2, 3, 1] (by decide) rfl
    exact fq_reti K hret hlk hS hP hD ⟨wn_fin0 hwn b7, _, _, _, _, _, _, _, rfl, hwn⟩ dc_Window_finish_21 (Nat.le_of_ble_eq_true rfl) (Nat.le_of_ble_eq_true rfl)
set_option maxHeartbeats 4000000 in
set_option maxRecDepth 100000 in
theorem ct_Window_make (l : Launch) (D : va_G) (cI cO : ClassId) (tE : Nat) (h hw hr ha len : Nat) (tt : Int32) (f g : Nat → Int32) (sp : fm_S) (xs : List Int) (m : Nat) (hwn : wn_ok len tt f g sp xs m) (hm : xs.length ≤ m + 1) (hmx : m + 1 < 300000) (sz : Nat) : Met l my_Window_make (fq_w my_Window_make cb_Window_make 4 (some .int)) ({ frames := 2, cells := 0, slots := 0, locals := 38 }) (va_Pc ([.ref h]) (fq_Pre D cI cO tE sz ([(h, .inr (4, [.ref hw, .int tt, .ref hr, .int (nI m)])), (hr, .inr (1, [.ref ha, .int (nI xs.length)])), (ha, .inl (cI, 8, .inl f)), (hw, .inl (cI, len, .inl g))]))) (va_Qi (S := va_W) (fun r w => r.toInt = fm_y sp xs m ∧ sg_win cI h sp xs (m + 1) w) (fq_Bw D (va_A ([(h, .inr (4, [.ref hw, .int tt, .ref hr, .int (nI m)])), (hr, .inr (1, [.ref ha, .int (nI xs.length)])), (ha, .inl (cI, 8, .inl f)), (hw, .inl (cI, len, .inl g))]) sz)) (va_A ([(h, .inr (4, [.ref hw, .int tt, .ref hr, .int (nI m)])), (hr, .inr (1, [.ref ha, .int (nI xs.length)])), (ha, .inl (cI, 8, .inl f)), (hw, .inl (cI, len, .inl g))]) sz)) (0) (0) (va_A ([(h, .inr (4, [.ref hw, .int tt, .ref hr, .int (nI m)])), (hr, .inr (1, [.ref ha, .int (nI xs.length)])), (ha, .inl (cI, 8, .inl f)), (hw, .inl (cI, len, .inl g))]) sz) := by
  refine fq_open (by decide +kernel) (Nat.le_of_ble_eq_true rfl) ?_
  intro pg ev s mt below meth cd ls K hret hlk hin hK hZ hP hD hA hS hl
  generalize va_A ([(h, .inr (4, [.ref hw, .int tt, .ref hr, .int (nI m)])), (hr, .inr (1, [.ref ha, .int (nI xs.length)])), (ha, .inl (cI, 8, .inl f)), (hw, .inl (cI, len, .inl g))]) sz = A at hZ hD hA hS ⊢
  have K : fq_Ctx pg mt cd cb_Window_make 4 s _ cn_Window := K
  have hl : lv_has ls 4 [(0, .ref h)] := hl
  have hlen := wn_len hwn
  have hmb := hwn.2.2.2.2.1
  refine lv_lconst (v := 0) K.1 K.2.1 dc_Window_make_0 (by decide) ?_
  refine lv_lstore_n K.1 K.2.1 dc_Window_make_1 rfl hl (by decide) rfl (fun ls hl => ?_)
  have hl : lv_has ls 4 [(1, .long 0), (0, .ref h)] := hl
  refine lv_iconst (v := 0) K.1 K.2.1 dc_Window_make_2 (by decide) ?_
  refine lv_istore_n K.1 K.2.1 dc_Window_make_3 rfl hl (by decide) rfl (fun ls hl => ?_)
  have hl : lv_has ls 4 [(3, .int 0), (1, .long 0), (0, .ref h)] := hl
  refine fq_lp (σ := Nat × Int64) (fun x => len - x.1) (fun x H locs ls => (x.1 ≤ len ∧ x.2.toInt = fm_sum (fun i => fm_wt sp.2.1 len i * fm_x xs ((m : Int) - i)) x.1) ∧ lv_has ls 4 [(0, .ref h), (1, .long x.2), (3, .int (nI x.1))] ∧ va_P D fq_cl ([(h, .inr (4, [.ref hw, .int tt, .ref hr, .int (nI m)])), (hr, .inr (1, [.ref ha, .int (nI xs.length)])), (ha, .inl (cI, 8, .inl f)), (hw, .inl (cI, len, .inl g))]) H ∧ va_D A ([(h, .inr (4, [.ref hw, .int tt, .ref hr, .int (nI m)])), (hr, .inr (1, [.ref ha, .int (nI xs.length)])), (ha, .inl (cI, 8, .inl f)), (hw, .inl (cI, len, .inl g))]) ∧ va_S A s.heap H locs) ?_ (0, 0) _ _ _ ⟨⟨Nat.zero_le _, rfl⟩, lv_sub hl [2, 1, 0] rfl, hP, hD, hS⟩
  rintro ⟨k, v⟩ H locs ls ⟨hI4, hl, hP, hD, hS⟩ ih4
  have hI4 : k ≤ len ∧ v.toInt = fm_sum (fun i => fm_wt sp.2.1 len i * fm_x xs ((m : Int) - i)) k := hI4
  have hl : lv_has ls 4 [(0, .ref h), (1, .long v), (3, .int (nI k))] := hl
  have hP : va_P D fq_cl ([(h, .inr (4, [.ref hw, .int tt, .ref hr, .int (nI m)])), (hr, .inr (1, [.ref ha, .int (nI xs.length)])), (ha, .inl (cI, 8, .inl f)), (hw, .inl (cI, len, .inl g))]) _ := hP
  have hD : va_D A ([(h, .inr (4, [.ref hw, .int tt, .ref hr, .int (nI m)])), (hr, .inr (1, [.ref ha, .int (nI xs.length)])), (ha, .inl (cI, 8, .inl f)), (hw, .inl (cI, len, .inl g))]) := hD
  refine lv_iload_n K.1 K.2.1 dc_Window_make_4 rfl (lv_at hl 2 rfl) ?_
  refine lv_aload_n K.1 K.2.1 dc_Window_make_5 rfl (lv_at hl 0 rfl) ?_
  refine fq_get K hK cl_Window hP 0 0 rfl (by decide) wd_394 rfl dc_Window_make_6 ?_
  refine fq_len K hK hP 3 rfl dc_Window_make_9 ?_
  refine lv_icmp_ge (tgt := 44) K.1 K.2.1 dc_Window_make_10 rfl (fun b10 => ?_) (fun b10 => ?_)
  · skip
    have hk : k = len := by rw [nI_leI (by omega) (by omega)] at b10; omega
    refine lv_aload_n K.1 K.2.1 dc_Window_make_44 rfl (lv_at hl 0 rfl) ?_
    refine lv_dup K.1 K.2.1 dc_Window_make_45 rfl ?_
    refine fq_get K hK cl_Window hP 0 3 rfl (by decide) wd_397 rfl dc_Window_make_46 ?_
    refine lv_iconst (v := 1) K.1 K.2.1 dc_Window_make_49 (by decide) ?_
    refine lv_iadd K.1 K.2.1 dc_Window_make_50 ?_
    refine fq_asi (y := nI (m + 1)) (nI_1 m) ?_
    refine fq_put K hK cl_Window hP hD hS 0 3 rfl (by decide) wd_397 rfl rfl rfl (Nat.le_of_ble_eq_true rfl) dc_Window_make_51 (fun H locs hP hD hS => ?_)
    have hP : va_P D fq_cl ([(h, .inr (4, [.ref hw, .int tt, .ref hr, .int (nI (m + 1))])), (hr, .inr (1, [.ref ha, .int (nI xs.length)])), (ha, .inl (cI, 8, .inl f)), (hw, .inl (cI, len, .inl g))]) _ := hP
    have hD : va_D A ([(h, .inr (4, [.ref hw, .int tt, .ref hr, .int (nI (m + 1))])), (hr, .inr (1, [.ref ha, .int (nI xs.length)])), (ha, .inl (cI, 8, .inl f)), (hw, .inl (cI, len, .inl g))]) := hD
    refine lv_lload_n K.1 K.2.1 dc_Window_make_54 rfl (lv_at hl 1 rfl) ?_
    refine lv_aload_n K.1 K.2.1 dc_Window_make_55 rfl (lv_at hl 0 rfl) ?_
    refine fq_get K hK cl_Window hP 0 1 rfl (by decide) wd_395 rfl dc_Window_make_56 ?_
    refine lv_i2l K.1 K.2.1 dc_Window_make_59 rfl ?_
    have hc := fq_cut.of (wc := []) hP hD hS hA [] (by decide) rfl
    refine fq_cl_ (wr := [(h, .inr (4, [.ref hw, .int tt, .ref hr, .int (nI (m + 1))])), (hr, .inr (1, [.ref ha, .int (nI xs.length)])), (ha, .inl (cI, 8, .inl f)), (hw, .inl (cI, len, .inl g))]) (fq_rS K hK hZ hS hc (ct_Ma_floorDiv l D cI cO tE v tt.toInt64 (wn_pos hwn) _) yk_Ma_floorDiv wd_345 wd_685 ⟨⟨rfl, rfl⟩, ⟨Nat.le_of_ble_eq_true rfl, Nat.le_of_ble_eq_true rfl⟩, ⟨Nat.le_of_ble_eq_true rfl, Nat.le_of_ble_eq_true rfl⟩⟩ hl.1 rfl (Nat.le_of_ble_eq_true rfl) dc_Window_make_60) hP hD hS hc [] [0, 1, 2, 3] rfl rfl (by decide) (by decide) (fun r1 w H locs hw1 hP hD hS => ?_)
    obtain ⟨rfl, hd1⟩ := hw1
    have hP : va_P D fq_cl ([(h, .inr (4, [.ref hw, .int tt, .ref hr, .int (nI (m + 1))])), (hr, .inr (1, [.ref ha, .int (nI xs.length)])), (ha, .inl (cI, 8, .inl f)), (hw, .inl (cI, len, .inl g))]) _ := hP
    have hD : va_D A ([(h, .inr (4, [.ref hw, .int tt, .ref hr, .int (nI (m + 1))])), (hr, .inr (1, [.ref ha, .int (nI xs.length)])), (ha, .inl (cI, 8, .inl f)), (hw, .inl (cI, len, .inl g))]) := hD
    have hc := fq_cut.of (wc := []) hP hD hS hA [] (by decide) rfl
    refine fq_ci (wr := [(h, .inr (4, [.ref hw, .int tt, .ref hr, .int (nI (m + 1))])), (hr, .inr (1, [.ref ha, .int (nI xs.length)])), (ha, .inl (cI, 8, .inl f)), (hw, .inl (cI, len, .inl g))]) (fq_rSN K hK hZ hS hc (ct_FP_clipped l D cI cO tE r1 _) yk_FP_clipped wd_654 wn_686 ⟨⟨rfl, rfl⟩, ⟨Nat.le_of_ble_eq_true rfl, Nat.le_of_ble_eq_true rfl⟩, ⟨Nat.le_of_ble_eq_true rfl, Nat.le_of_ble_eq_true rfl⟩⟩ hl.1 rfl (Nat.le_of_ble_eq_true rfl) dc_Window_make_63) hP hD hS hc [] [0, 1, 2, 3] rfl rfl (by decide) (by decide) (fun r2 w H locs hw2 hP hD hS => ?_)
    obtain ⟨rfl, hd2⟩ := hw2
    have hP : va_P D fq_cl ([(h, .inr (4, [.ref hw, .int tt, .ref hr, .int (nI (m + 1))])), (hr, .inr (1, [.ref ha, .int (nI xs.length)])), (ha, .inl (cI, 8, .inl f)), (hw, .inl (cI, len, .inl g))]) _ := hP
    have hD : va_D A ([(h, .inr (4, [.ref hw, .int tt, .ref hr, .int (nI (m + 1))])), (hr, .inr (1, [.ref ha, .int (nI xs.length)])), (ha, .inl (cI, 8, .inl f)), (hw, .inl (cI, len, .inl g))]) := hD
    exact fq_reti K hret hlk hS hP hD ⟨wn_val hwn hk hI4 hd1 hd2, _, _, _, _, _, _, _, rfl, wn_next hwn hmx⟩ dc_Window_make_66 (Nat.le_of_ble_eq_true rfl) (Nat.le_of_ble_eq_true rfl)
  · skip
    have hk : k < len := by rw [nI_leI (by omega) (by omega)] at b10; omega
    refine lv_lload_n K.1 K.2.1 dc_Window_make_13 rfl (lv_at hl 1 rfl) ?_
    refine lv_aload_n K.1 K.2.1 dc_Window_make_14 rfl (lv_at hl 0 rfl) ?_
    refine fq_get K hK cl_Window hP 0 0 rfl (by decide) wd_394 rfl dc_Window_make_15 ?_
    refine lv_iload_n K.1 K.2.1 dc_Window_make_18 rfl (lv_at hl 2 rfl) ?_
    refine fq_ald K hK hP 3 rfl (vp_in_nI hk (by omega)) dc_Window_make_19 ?_
    refine fq_asi (y := g k) (by rw [nI_clamp (by omega)]) ?_
    refine lv_i2l K.1 K.2.1 dc_Window_make_20 rfl ?_
    refine lv_aload_n K.1 K.2.1 dc_Window_make_21 rfl (lv_at hl 0 rfl) ?_
    refine fq_get K hK cl_Window hP 0 2 rfl (by decide) wd_396 rfl dc_Window_make_22 ?_
    refine lv_aload_n K.1 K.2.1 dc_Window_make_25 rfl (lv_at hl 0 rfl) ?_
    refine fq_get K hK cl_Window hP 0 3 rfl (by decide) wd_397 rfl dc_Window_make_26 ?_
    refine lv_iload_n K.1 K.2.1 dc_Window_make_29 rfl (lv_at hl 2 rfl) ?_
    refine lv_isub K.1 K.2.1 dc_Window_make_30 ?_
    have hc := fq_cut.of (wc := [(hr, .inr (1, [.ref ha, .int (nI xs.length)])), (ha, .inl (cI, 8, .inl f))]) hP hD hS hA [1, 2] (by decide) rfl
    refine fq_ci (wr := [(h, .inr (4, [.ref hw, .int tt, .ref hr, .int (nI m)])), (hw, .inl (cI, len, .inl g))]) (fq_rV K hK hZ hS hc (ct_Recent_at l D cI cO tE hr ha f xs ((nI m) - (nI k)) (hwn.2.2.2.1) _) yk_Recent_at wd_668 wd_669 wd_684 0 rfl rfl rfl ⟨⟨rfl, rfl⟩, ⟨Nat.le_of_ble_eq_true rfl, Nat.le_of_ble_eq_true rfl⟩, ⟨Nat.le_of_ble_eq_true rfl, Nat.le_of_ble_eq_true rfl⟩⟩ hl.1 rfl (Nat.le_of_ble_eq_true rfl) dc_Window_make_31) hP hD hS hc [1, 2] [0, 3] rfl rfl (by decide) (by decide) (fun r3 w H locs hw3 hP hD hS => ?_)
    obtain ⟨rfl, hat1⟩ := hw3
    have hP : va_P D fq_cl ([(h, .inr (4, [.ref hw, .int tt, .ref hr, .int (nI m)])), (hw, .inl (cI, len, .inl g)), (hr, .inr (1, [.ref ha, .int (nI xs.length)])), (ha, .inl (cI, 8, .inl f))]) _ := hP
    have hD : va_D A ([(h, .inr (4, [.ref hw, .int tt, .ref hr, .int (nI m)])), (hw, .inl (cI, len, .inl g)), (hr, .inr (1, [.ref ha, .int (nI xs.length)])), (ha, .inl (cI, 8, .inl f))]) := hD
    refine lv_i2l K.1 K.2.1 dc_Window_make_34 rfl ?_
    refine lv_lmul K.1 K.2.1 dc_Window_make_35 ?_
    refine lv_ladd K.1 K.2.1 dc_Window_make_36 ?_
    refine lv_topl (fun v1 e_v1 => ?_)
    refine lv_lstore_n K.1 K.2.1 dc_Window_make_37 rfl hl (by decide) rfl (fun ls hl => ?_)
    have hl : lv_has ls 4 [(1, .long v1), (0, .ref h), (3, .int (nI k))] := hl
    refine lv_iinc (v := nI (k + 1)) K.1 K.2.1 dc_Window_make_38 hl (k := 2) rfl (nI_1 k) (by decide) rfl (fun ls hl => ?_)
    have hl : lv_has ls 4 [(3, .int (nI (k + 1))), (1, .long v1), (0, .ref h)] := hl
    refine lv_goto (tgt := 4) K.1 K.2.1 dc_Window_make_41 rfl ?_
    have hP := hP.sub (ws' := [(h, .inr (4, [.ref hw, .int tt, .ref hr, .int (nI m)])), (hr, .inr (1, [.ref ha, .int (nI xs.length)])), (ha, .inl (cI, 8, .inl f)), (hw, .inl (cI, len, .inl g))]) [0, 2, 3, 1] rfl
    have hD := hD.sub (ws' := [(h, .inr (4, [.ref hw, .int tt, .ref hr, .int (nI m)])), (hr, .inr (1, [.ref ha, .int (nI xs.length)])), (ha, .inl (cI, 8, .inl f)), (hw, .inl (cI, len, .inl g))]) [0, 2, 3, 1] (by decide) rfl
    exact ih4 (k + 1, v1) _ _ _ (by show len - (k + 1) < len - k; omega) ⟨wn_add hwn hm hk hI4 e_v1 hat1, lv_sub hl [2, 1, 0] rfl, hP, hD, hS⟩
set_option maxHeartbeats 4000000 in
set_option maxRecDepth 100000 in
theorem ct_Window_clear (l : Launch) (D : va_G) (cI cO : ClassId) (tE : Nat) (h hw hr ha len : Nat) (tt : Int32) (f g : Nat → Int32) (sp : fm_S) (xs : List Int) (m : Nat) (hwn : wn_ok len tt f g sp xs m)  (sz : Nat) : Met l my_Window_clear (fq_w my_Window_clear cb_Window_clear 1 none) ({ frames := 1, cells := 0, slots := 0, locals := 20 }) (va_Pc ([.ref h]) (fq_Pre D cI cO tE sz ([(h, .inr (4, [.ref hw, .int tt, .ref hr, .int (nI m)])), (hr, .inr (1, [.ref ha, .int (nI xs.length)])), (ha, .inl (cI, 8, .inl f)), (hw, .inl (cI, len, .inl g))]))) (va_Qv (S := va_W) (fun w => sg_win cI h sp [] 0 w) (fq_Bw D (va_A ([(h, .inr (4, [.ref hw, .int tt, .ref hr, .int (nI m)])), (hr, .inr (1, [.ref ha, .int (nI xs.length)])), (ha, .inl (cI, 8, .inl f)), (hw, .inl (cI, len, .inl g))]) sz)) (va_A ([(h, .inr (4, [.ref hw, .int tt, .ref hr, .int (nI m)])), (hr, .inr (1, [.ref ha, .int (nI xs.length)])), (ha, .inl (cI, 8, .inl f)), (hw, .inl (cI, len, .inl g))]) sz)) (0) (0) (va_A ([(h, .inr (4, [.ref hw, .int tt, .ref hr, .int (nI m)])), (hr, .inr (1, [.ref ha, .int (nI xs.length)])), (ha, .inl (cI, 8, .inl f)), (hw, .inl (cI, len, .inl g))]) sz) := by
  refine fq_open (by decide +kernel) (Nat.le_of_ble_eq_true rfl) ?_
  intro pg ev s mt below meth cd ls K hret hlk hin hK hZ hP hD hA hS hl
  generalize va_A ([(h, .inr (4, [.ref hw, .int tt, .ref hr, .int (nI m)])), (hr, .inr (1, [.ref ha, .int (nI xs.length)])), (ha, .inl (cI, 8, .inl f)), (hw, .inl (cI, len, .inl g))]) sz = A at hZ hD hA hS ⊢
  have K : fq_Ctx pg mt cd cb_Window_clear 1 s _ cn_Window := K
  have hl : lv_has ls 1 [(0, .ref h)] := hl
  refine lv_aload_n K.1 K.2.1 dc_Window_clear_0 rfl (lv_at hl 0 rfl) ?_
  refine fq_get K hK cl_Window hP 0 2 rfl (by decide) wd_396 rfl dc_Window_clear_1 ?_
  have hc := fq_cut.of (wc := [(hr, .inr (1, [.ref ha, .int (nI xs.length)])), (ha, .inl (cI, 8, .inl f))]) hP hD hS hA [1, 2] (by decide) rfl
  refine fq_cv (wr := [(h, .inr (4, [.ref hw, .int tt, .ref hr, .int (nI m)])), (hw, .inl (cI, len, .inl g))]) (fq_rV K hK hZ hS hc (ct_Recent_forget l D cI cO tE hr ha f xs _) yk_Recent_forget wd_527 wd_528 wd_536 0 rfl rfl rfl ⟨⟨rfl, rfl⟩, ⟨Nat.le_of_ble_eq_true rfl, Nat.le_of_ble_eq_true rfl⟩, ⟨Nat.le_of_ble_eq_true rfl, Nat.le_of_ble_eq_true rfl⟩⟩ hl.1 rfl (Nat.le_of_ble_eq_true rfl) dc_Window_clear_4) hP hD hS hc [1, 2] [0, 3] rfl rfl (by decide) (by decide) (fun  w H locs hw1 hP hD hS => ?_)
  subst hw1
  have hP : va_P D fq_cl ([(h, .inr (4, [.ref hw, .int tt, .ref hr, .int (nI m)])), (hw, .inl (cI, len, .inl g)), (hr, .inr (1, [.ref ha, .int 0])), (ha, .inl (cI, 8, .inl f))]) _ := hP
  have hD : va_D A ([(h, .inr (4, [.ref hw, .int tt, .ref hr, .int (nI m)])), (hw, .inl (cI, len, .inl g)), (hr, .inr (1, [.ref ha, .int 0])), (ha, .inl (cI, 8, .inl f))]) := hD
  refine lv_aload_n K.1 K.2.1 dc_Window_clear_7 rfl (lv_at hl 0 rfl) ?_
  refine lv_iconst (v := 0) K.1 K.2.1 dc_Window_clear_8 (by decide) ?_
  refine fq_put K hK cl_Window hP hD hS 0 3 rfl (by decide) wd_397 rfl rfl rfl (Nat.le_of_ble_eq_true rfl) dc_Window_clear_9 (fun H locs hP hD hS => ?_)
  have hP : va_P D fq_cl ([(h, .inr (4, [.ref hw, .int tt, .ref hr, .int 0])), (hw, .inl (cI, len, .inl g)), (hr, .inr (1, [.ref ha, .int 0])), (ha, .inl (cI, 8, .inl f))]) _ := hP
  have hD : va_D A ([(h, .inr (4, [.ref hw, .int tt, .ref hr, .int 0])), (hw, .inl (cI, len, .inl g)), (hr, .inr (1, [.ref ha, .int 0])), (ha, .inl (cI, 8, .inl f))]) := hD
  have hP := hP.sub (ws' := [(h, .inr (4, [.ref hw, .int tt, .ref hr, .int 0])), (hr, .inr (1, [.ref ha, .int 0])), (ha, .inl (cI, 8, .inl f)), (hw, .inl (cI, len, .inl g))]) [0, 2, 3, 1] rfl
  have hD := hD.sub (ws' := [(h, .inr (4, [.ref hw, .int tt, .ref hr, .int 0])), (hr, .inr (1, [.ref ha, .int 0])), (ha, .inl (cI, 8, .inl f)), (hw, .inl (cI, len, .inl g))]) [0, 2, 3, 1] (by decide) rfl
  exact fq_retv K hret hlk hS hP hD ⟨_, _, _, _, _, _, _, rfl, wn_nil hwn⟩ dc_Window_clear_12 (Nat.le_of_ble_eq_true rfl) (Nat.le_of_ble_eq_true rfl)
end
section
theorem wd_9 : Cond.selects cn_Resampler my_Resampler_dueUpTo my_Resampler_dueUpTo ∈ fq_TB := fq_in 9 (by decide +kernel) rfl
theorem wd_45 : Cond.initialized cn_Resampler ∈ fq_TB := fq_in 45 (by decide +kernel) rfl
theorem wd_179 : Cond.static my_Ma_max ∈ fq_TB := fq_in 179 (by decide +kernel) rfl
theorem wd_180 : Cond.code my_Ma_max cb_Ma_max 2 (some .int) ∈ fq_TB := fq_in 180 (by decide +kernel) rfl
theorem wd_421 : Cond.instanceMethod my_Resampler_init ∈ fq_TB := fq_in 421 (by decide +kernel) rfl
theorem wd_422 : Cond.code my_Resampler_init cb_Resampler_init 4 none ∈ fq_TB := fq_in 422 (by decide +kernel) rfl
theorem wn_423 : Cond.methodLinkNest cn_Resampler 3 my_Stage_init cn_FP ∈ lw_tbl := List.mem_of_getElem? (i := 423) (by decide +kernel)
theorem wd_424 : Cond.classLink cn_Resampler 9 cn_Recent ∈ fq_TB := fq_in 424 (by decide +kernel) rfl
theorem wn_425 : Cond.methodLinkNest cn_Resampler 11 my_Recent_init cn_FP ∈ lw_tbl := List.mem_of_getElem? (i := 425) (by decide +kernel)
theorem wd_426 : Cond.methodLink cn_Resampler 18 my_Resampler_commonDivisor ∈ fq_TB := fq_in 426 (by decide +kernel) rfl
theorem wd_427 : Cond.static my_Resampler_commonDivisor ∈ fq_TB := fq_in 427 (by decide +kernel) rfl
theorem wd_428 : Cond.code my_Resampler_commonDivisor cb_Resampler_commonDivisor 3 (some .int) ∈ fq_TB := fq_in 428 (by decide +kernel) rfl
theorem wd_429 : Cond.methodLink cn_Resampler 29 my_Ma_max ∈ fq_TB := fq_in 429 (by decide +kernel) rfl
theorem wd_430 : Cond.fieldLink cn_Resampler 22 cn_Resampler "up" "I" ∈ fq_TB := fq_in 430 (by decide +kernel) rfl
theorem wd_431 : Cond.fieldLink cn_Resampler 26 cn_Resampler "down" "I" ∈ fq_TB := fq_in 431 (by decide +kernel) rfl
theorem wd_432 : Cond.fieldLink cn_Resampler 34 cn_Resampler "reach" "I" ∈ fq_TB := fq_in 432 (by decide +kernel) rfl
theorem wd_433 : Cond.fieldLink cn_Resampler 12 cn_Resampler "recent" "LFilterPipe$Recent;" ∈ fq_TB := fq_in 433 (by decide +kernel) rfl
theorem wd_434 : Cond.fieldLink cn_Resampler 49 cn_Resampler "next" "I" ∈ fq_TB := fq_in 434 (by decide +kernel) rfl
theorem wd_524 : Cond.instanceMethod my_Resampler_clear ∈ fq_TB := fq_in 524 (by decide +kernel) rfl
theorem wd_525 : Cond.code my_Resampler_clear cb_Resampler_clear 1 none ∈ fq_TB := fq_in 525 (by decide +kernel) rfl
theorem wd_526 : Cond.methodLink cn_Resampler 66 my_Recent_forget ∈ fq_TB := fq_in 526 (by decide +kernel) rfl
theorem wd_620 : Cond.instanceMethod my_Resampler_take ∈ fq_TB := fq_in 620 (by decide +kernel) rfl
theorem wd_621 : Cond.code my_Resampler_take cb_Resampler_take 2 (some .int) ∈ fq_TB := fq_in 621 (by decide +kernel) rfl
theorem wd_622 : Cond.methodLink cn_Resampler 37 my_Recent_put ∈ fq_TB := fq_in 622 (by decide +kernel) rfl
theorem wd_626 : Cond.methodLink cn_Resampler 41 my_Recent_count ∈ fq_TB := fq_in 626 (by decide +kernel) rfl
theorem wd_630 : Cond.methodLink cn_Resampler 45 my_Resampler_dueUpTo ∈ fq_TB := fq_in 630 (by decide +kernel) rfl
theorem wd_632 : Cond.instanceMethod my_Resampler_dueUpTo ∈ fq_TB := fq_in 632 (by decide +kernel) rfl
theorem wd_633 : Cond.code my_Resampler_dueUpTo cb_Resampler_dueUpTo 2 (some .int) ∈ fq_TB := fq_in 633 (by decide +kernel) rfl
theorem wd_665 : Cond.instanceMethod my_Resampler_make ∈ fq_TB := fq_in 665 (by decide +kernel) rfl
theorem wd_666 : Cond.code my_Resampler_make cb_Resampler_make 6 (some .int) ∈ fq_TB := fq_in 666 (by decide +kernel) rfl
theorem wd_667 : Cond.methodLink cn_Resampler 52 my_Recent_at ∈ fq_TB := fq_in 667 (by decide +kernel) rfl
theorem wd_671 : Cond.methodLink cn_Resampler 55 my_Ma_abs ∈ fq_TB := fq_in 671 (by decide +kernel) rfl
theorem wd_672 : Cond.static my_Ma_abs ∈ fq_TB := fq_in 672 (by decide +kernel) rfl
theorem wd_673 : Cond.code my_Ma_abs cb_Ma_abs 1 (some .int) ∈ fq_TB := fq_in 673 (by decide +kernel) rfl
theorem wd_674 : Cond.methodLink cn_Resampler 58 my_Ma_floorDiv ∈ fq_TB := fq_in 674 (by decide +kernel) rfl
theorem wn_675 : Cond.methodLinkNest cn_Resampler 62 my_FP_clipped cn_FP ∈ lw_tbl := List.mem_of_getElem? (i := 675) (by decide +kernel)
theorem wd_698 : Cond.instanceMethod my_Resampler_finish ∈ fq_TB := fq_in 698 (by decide +kernel) rfl
theorem wd_699 : Cond.code my_Resampler_finish cb_Resampler_finish 1 (some .int) ∈ fq_TB := fq_in 699 (by decide +kernel) rfl

def rs_g (a b : Nat) : Nat := if a % 4 = 0 ∧ b % 4 = 0 then 4 else if a % 3 = 0 ∧ b % 3 = 0 then 3 else if a % 2 = 0 ∧ b % 2 = 0 then 2 else 1
theorem rs_gs {a b k : Nat} (h : 1 ≤ k ∧ k ≤ 4 ∧ ∀ j, k < j → j ≤ 4 → ¬ (a % j = 0 ∧ b % j = 0)) (hk : 1 < k) (hn : ¬ a % k = 0 ∨ ¬ b % k = 0) : 1 ≤ k - 1 ∧ k - 1 ≤ 4 ∧ ∀ j, k - 1 < j → j ≤ 4 → ¬ (a % j = 0 ∧ b % j = 0) := by
  refine ⟨by omega, by omega, fun j h1 h2 h3 => ?_⟩
  by_cases e : j = k
  · subst e; exact hn.elim (fun z => z h3.1) (fun z => z h3.2)
  · exact h.2.2 j (by omega) h2 h3
theorem rs_gf {a b k : Nat} (h : 1 ≤ k ∧ k ≤ 4 ∧ ∀ j, k < j → j ≤ 4 → ¬ (a % j = 0 ∧ b % j = 0)) (hk : 1 < k) (h1 : a % k = 0) (h2 : b % k = 0) : k = rs_g a b := by
  unfold rs_g
  have c : k = 2 ∨ k = 3 ∨ k = 4 := by omega
  rcases c with rfl | rfl | rfl
  · rw [if_neg (h.2.2 4 (by decide) (by decide)), if_neg (h.2.2 3 (by decide) (by decide)), if_pos ⟨h1, h2⟩]
  · rw [if_neg (h.2.2 4 (by decide) (by decide)), if_pos ⟨h1, h2⟩]
  · rw [if_pos ⟨h1, h2⟩]
theorem rs_g1 {a b k : Nat} (h : 1 ≤ k ∧ k ≤ 4 ∧ ∀ j, k < j → j ≤ 4 → ¬ (a % j = 0 ∧ b % j = 0)) (hk : k = 1) : 1 = rs_g a b := by
  subst hk
  unfold rs_g
  rw [if_neg (h.2.2 4 (by decide) (by decide)), if_neg (h.2.2 3 (by decide) (by decide)), if_neg (h.2.2 2 (by decide) (by decide))]
theorem rs_gb {a b : Nat} (ha : 1 ≤ a ∧ a ≤ 4) (hb : 1 ≤ b ∧ b ≤ 4) : 1 ≤ rs_g a b ∧ rs_g a b ≤ 4 ∧ (1 ≤ a / rs_g a b ∧ a / rs_g a b ≤ 4) ∧ (1 ≤ b / rs_g a b ∧ b / rs_g a b ≤ 4) := by
  obtain ⟨a1, a4⟩ := ha
  obtain ⟨b1, b4⟩ := hb
  have ca : a = 1 ∨ a = 2 ∨ a = 3 ∨ a = 4 := by omega
  have cb : b = 1 ∨ b = 2 ∨ b = 3 ∨ b = 4 := by omega
  rcases ca with rfl | rfl | rfl | rfl <;> rcases cb with rfl | rfl | rfl | rfl <;> decide
def rs_r (u d : Nat) : Nat := if u < d then d else u
theorem rs_rb {u d : Nat} (hu : 1 ≤ u ∧ u ≤ 4) (hd : 1 ≤ d ∧ d ≤ 4) : 1 ≤ rs_r u d ∧ rs_r u d ≤ 4 := by
  unfold rs_r; split <;> omega
theorem rs_mx {u d : Nat} (hu : 1 ≤ u ∧ u ≤ 4) (hd : 1 ≤ d ∧ d ≤ 4) : (if nI u < nI d then nI d else nI u) = nI (rs_r u d) := by
  unfold rs_r
  by_cases c : u < d
  · rw [if_pos c, if_pos (nI_lt c (by omega))]
  · rw [if_neg c, if_neg (nI_nlt (by omega) (by omega))]
theorem rs_max (u d : Nat) : fm_max (u : Int) (d : Int) = (rs_r u d : Int) := by
  unfold fm_max rs_r
  split <;> split <;> omega
def rs_ok (u d : Nat) (f : Nat → Int32) (sp : fm_S) (xs : List Int) (m : Nat) : Prop :=
  sp = (3, (u : Int), (d : Int), 0, 0, 0) ∧ fm_ok sp ∧ (∀ v ∈ xs, fm_in v) ∧ rc_ok f xs ∧ m < 300000
def sg_res (cI : ClassId) (h : Nat) (sp : fm_S) (xs : List Int) (m : Nat) (ws : va_W) : Prop :=
  ∃ (u d hr ha : Nat) (f : Nat → Int32), ws = [(h, .inr (5, [.int (nI u), .int (nI d), .int (nI (rs_r u d)), .ref hr, .int (nI (m * d))])), (hr, .inr (1, [.ref ha, .int (nI xs.length)])), (ha, .inl (cI, 8, .inl f))] ∧ rs_ok u d f sp xs m
theorem rs_ud {u d : Nat} {f : Nat → Int32} {sp : fm_S} {xs : List Int} {m : Nat} (h : rs_ok u d f sp xs m) : (1 ≤ u ∧ u ≤ 4) ∧ (1 ≤ d ∧ d ≤ 4) := by
  have e := h.1
  have k := h.2.1.2.2.2.2 (by rw [e])
  have e2 : sp.2.1 = (u : Int) := by rw [e]
  have e3 : sp.2.2.1 = (d : Int) := by rw [e]
  omega
theorem rs_new {a b : Nat} (hg : 1 ≤ rs_g a b ∧ rs_g a b ≤ 4 ∧ (1 ≤ a / rs_g a b ∧ a / rs_g a b ≤ 4) ∧ (1 ≤ b / rs_g a b ∧ b / rs_g a b ≤ 4)) : rs_ok (a / rs_g a b) (b / rs_g a b) (fun _ => 0) (3, ((a / rs_g a b : Nat) : Int), ((b / rs_g a b : Nat) : Int), 0, 0, 0) [] 0 := by
  generalize a / rs_g a b = u at hg ⊢
  generalize b / rs_g a b = d at hg ⊢
  refine ⟨rfl, ⟨(by decide : 3 ≤ 3), fun z => absurd (show 3 = 0 from z) (by decide), fun z => absurd (show 3 = 1 from z) (by decide), fun z => absurd (show 3 = 2 from z) (by decide), fun _ => ⟨⟨?_, ?_⟩, ?_, ?_⟩⟩, fun _ z => absurd z List.not_mem_nil, rc_nil, by decide⟩
  · show (1 : Int) ≤ (u : Int); omega
  · show (u : Int) ≤ 4; omega
  · show (1 : Int) ≤ (d : Int); omega
  · show (d : Int) ≤ 4; omega
theorem rs_nil {u d : Nat} {f : Nat → Int32} {sp : fm_S} {xs : List Int} {m : Nat} (h : rs_ok u d f sp xs m) : rs_ok u d f sp [] 0 := ⟨h.1, h.2.1, fun _ z => absurd z List.not_mem_nil, rc_nil, by decide⟩
theorem rs_next {u d : Nat} {f : Nat → Int32} {sp : fm_S} {xs : List Int} {m n : Nat} (h : rs_ok u d f sp xs m) (hn : n < 300000) : rs_ok u d f sp xs n := ⟨h.1, h.2.1, h.2.2.1, h.2.2.2.1, hn⟩
theorem rs_tk {u d : Nat} {f f2 : Nat → Int32} {sp : fm_S} {xs : List Int} {m : Nat} {x : Int32} (h : rs_ok u d f sp xs m) (hx : fm_in x.toInt) (hr : rc_ok f2 (xs ++ [x.toInt])) : rs_ok u d f2 sp (xs ++ [x.toInt]) m := ⟨h.1, h.2.1, fm_in_app h.2.2.1 hx, hr, h.2.2.2.2⟩
theorem rs_due0 {t d m : Nat} (hd : 1 ≤ d) (h : ¬ m * d ≤ t) : (0 : Int32) = nI (t / d + 1 - m) := by
  have e : t / d < m := (Nat.div_lt_iff_lt_mul (by omega)).mpr (by omega)
  rw [show t / d + 1 - m = 0 by omega, nI_0]
theorem rs_due1 {t d m : Nat} (hd : 1 ≤ d) (h : m * d ≤ t) : (t - m * d) / d + 1 = t / d + 1 - m := by
  have e1 : t - m * d + m * d = t := Nat.sub_add_cancel h
  have e2 : (t - m * d + m * d) / d = (t - m * d) / d + m := Nat.add_mul_div_right _ _ (by omega)
  rw [e1] at e2
  generalize (t - m * d) / d = X at e2 ⊢
  generalize t / d = Y at e2 ⊢
  omega
theorem rs_mk {u d : Nat} {f : Nat → Int32} {sp : fm_S} {xs : List Int} {m : Nat} (h : rs_ok u d f sp xs m) (fl : Bool) {n : Nat} (hn : 0 < n) : fm_m sp fl n = if fl then (n * u + 2 * rs_r u d - 3) / d + 1 else (n * u + d - 1) / d := by
  have k3 : sp.1 = 3 := by rw [h.1]
  have e1 : sp.2.1 = (u : Int) := by rw [h.1]
  have e2 : sp.2.2.1 = (d : Int) := by rw [h.1]
  unfold fm_m
  rw [if_neg (by omega), if_neg (by omega), e1, e2, rs_max]
  rfl
theorem rs_take1 {u d : Nat} {f : Nat → Int32} {sp : fm_S} {xs : List Int} {m : Nat} (h : rs_ok u d f sp xs m) (h1 : 1 ≤ (xs.length + 1) * u) : ((xs.length + 1) * u - 1) / d + 1 - m = fm_m sp false (xs.length + 1) - m := by
  have hud := rs_ud h
  rw [rs_mk h false (by omega), if_neg (by decide), show (xs.length + 1) * u + d - 1 = ((xs.length + 1) * u - 1) + d by omega, Nat.add_div_right _ (by omega)]
theorem rs_fin0 {u d : Nat} {f : Nat → Int32} {sp : fm_S} {xs : List Int} {m : Nat} (h : rs_ok u d f sp xs m) (hn : xs.length = 0) : (0 : Int32) = nI (fm_m sp true xs.length - m) := by
  rw [hn, show fm_m sp true 0 = 0 from if_pos (Or.inl rfl), Nat.zero_sub, nI_0]
theorem rs_fin1 {u d : Nat} {f : Nat → Int32} {sp : fm_S} {xs : List Int} {m : Nat} (h : rs_ok u d f sp xs m) (hn : 0 < xs.length) : (xs.length * u + 2 * rs_r u d - 3) / d + 1 - m = fm_m sp true xs.length - m := by
  rw [rs_mk h true hn, if_pos rfl]
theorem rs_pl {m d k r : Nat} {p : Int32} (hmd : m * d ≤ 300000 * 4) (hk : k < 2 * r - 1) (hr : 1 ≤ r ∧ r ≤ 4) (e : p = nI (m * d) - nI k) : p.toInt = (m : Int) * d - k ∧ k ≤ 6 := by
  rw [e, pk_sub_toInt (by omega) (by omega), Int.natCast_mul]
  omega
theorem rs_rem {p : Int32} {u : Nat} (hu : 1 ≤ u ∧ u ≤ 4) : p - p / nI u * nI u = 0 ↔ p.toInt % (u : Int) = 0 := by
  have e1 : (nI u).toInt = (u : Int) := nI_toInt (by omega)
  have hd : (p / nI u).toInt = p.toInt.tdiv u := by rw [Kit.i32_div (fun z => by omega), e1]
  have hb := Int32.le_toInt p
  have hb2 := Int32.toInt_lt p
  have ht : p.toInt.tdiv u * u + p.toInt.tmod u = p.toInt := by rw [Int.mul_comm]; exact Int.mul_tdiv_add_tmod _ _
  have hm := tmod_bounds (a := p.toInt) (M := (u : Int)) (by omega)
  have hsgn : (p.toInt.tmod u = 0) ↔ p.toInt % (u : Int) = 0 := by
    rw [← Int.dvd_iff_emod_eq_zero, ← Int.dvd_iff_tmod_eq_zero]
  rw [← hsgn, ← Int32.toInt_inj, Int32.toInt_zero]
  have hx : -2 ^ 31 ≤ p.toInt.tdiv u * u ∧ p.toInt.tdiv u * u < 2 ^ 31 := by
    have := Int.tmod_nonneg (a := p.toInt) (u : Int)
    by_cases z : p.toInt < 0
    · have h2 := Int.tmod_nonneg (a := -p.toInt) (u : Int) (by omega)
      rw [Int.neg_tmod] at h2
      omega
    · have h2 := Int.tmod_nonneg (a := p.toInt) (u : Int) (by omega)
      omega
  have e2 : (p / nI u * nI u).toInt = p.toInt.tdiv u * u := by rw [Kit.i32_mul (by rw [hd, e1]; exact hx.1) (by rw [hd, e1]; exact hx.2), hd, e1]
  rw [Kit.i32_sub (by rw [e2]; omega) (by rw [e2]; omega), e2]
  omega
theorem rs_u0 {u d : Nat} {f : Nat → Int32} {sp : fm_S} {xs : List Int} {m k : Nat} {p : Int32} (h : rs_ok u d f sp xs m) (hp : p.toInt = (m : Int) * d - k ∧ k ≤ 6) (hz : ¬ p - p / nI u * nI u = 0) : (0 : Int32).toInt = fm_u (u : Int) xs ((m : Int) * d - k) := by
  rw [rs_rem (rs_ud h).1, hp.1] at hz
  unfold fm_u
  rw [if_neg (fun z => hz z.2)]
  rfl
theorem rs_u1 {u d : Nat} {f : Nat → Int32} {sp : fm_S} {xs : List Int} {m k : Nat} {p r : Int32} {N : Nat} (h : rs_ok u d f sp xs m) (hm : xs.length * u ≤ m * d + u) (hk : k < N) (hp : p.toInt = (m : Int) * d - k ∧ k ≤ 6) (hz : p - p / nI u * nI u = 0) (hr : r.toInt = rc_at xs (p / nI u).toInt) : r.toInt = fm_u (u : Int) xs ((m : Int) * d - k) := by
  have hu := (rs_ud h).1
  rw [rs_rem hu] at hz
  have e1 : (nI u).toInt = (u : Int) := nI_toInt (by omega)
  have hd : (p / nI u).toInt = p.toInt / u := by
    rw [Kit.i32_div (fun z => by omega), e1]
    rcases fn_td (a := p.toInt) (b := (u : Int)) (by omega) with z | z | z
    · exact z.2
    · exact z.2.2
    · exact absurd (Int.dvd_of_emod_eq_zero hz) z.1
  rw [hd] at hr
  rw [hp.1] at hr hz
  unfold fm_u
  by_cases c : 0 ≤ (m : Int) * d - k
  · rw [if_pos ⟨c, hz⟩, hr, rc_at_x]
    apply Int.le_ediv_of_mul_le (by omega)
    have hm' : (xs.length : Int) * u ≤ (m : Int) * d + u := by
      have : ((xs.length * u : Nat) : Int) ≤ ((m * d + u : Nat) : Int) := by omega
      rw [Int.natCast_mul, Int.natCast_add, Int.natCast_mul] at this
      exact this
    rw [Int.sub_mul]
    omega
  · rw [if_neg (fun z => c z.1), hr, rc_at, if_pos (Or.inl (Int.ediv_neg_of_neg_of_pos (by omega) (by omega)))]
theorem rs_far {r k : Nat} (hr : 1 ≤ r ∧ r ≤ 4) (hk : k < 2 * r - 1) : (nI r - (if 0 ≤ nI k - (nI r - 1) then nI k - (nI r - 1) else 0 - (nI k - (nI r - 1)))).toInt = fm_far (r : Int) k ∧ 0 ≤ fm_far (r : Int) k ∧ fm_far (r : Int) k ≤ 4 := by
  have e0 : nI r - 1 = nI (r - 1) := pk_sub (a := r) (b := 1) (by omega)
  have e1 : (nI k - nI (r - 1)).toInt = (k : Int) - (r - 1 : Nat) := pk_sub_toInt (by omega) (by omega)
  have er : (nI r).toInt = (r : Int) := nI_toInt (by omega)
  rw [e0]
  unfold fm_far
  by_cases c : r - 1 ≤ k
  · rw [if_pos (by rw [Kit.i32_nonneg, e1]; omega), Kit.i32_sub (by rw [er, e1]; omega) (by rw [er, e1]; omega), er, e1, if_neg (by omega)]
    omega
  · have e2 : (0 - (nI k - nI (r - 1))).toInt = (r - 1 : Nat) - (k : Int) := by
      rw [Kit.i32_sub (by rw [e1, Int32.toInt_zero]; omega) (by rw [e1, Int32.toInt_zero]; omega), e1, Int32.toInt_zero]; omega
    rw [if_neg (by rw [Kit.i32_nonneg, e1]; omega), Kit.i32_sub (by rw [er, e2]; omega) (by rw [er, e2]; omega), er, e2, if_pos (by omega)]
    omega
theorem fm_u_in {up : Int} {xs : List Int} {p : Int} (h : ∀ v ∈ xs, fm_in v) : fm_in (fm_u up xs p) := by
  unfold fm_u
  split
  · exact fm_x_in h _
  · unfold fm_in; omega
theorem fm_far_b {r : Nat} (hr : 1 ≤ r ∧ r ≤ 4) {k : Nat} (hk : k < 2 * r - 1) : 0 ≤ fm_far (r : Int) k ∧ fm_far (r : Int) k ≤ 4 := (rs_far hr hk).2
theorem rs_sb {u r m d : Nat} {xs : List Int} (hr : 1 ≤ r ∧ r ≤ 4) (hx : ∀ v ∈ xs, fm_in v) {k : Nat} (hk : k ≤ 2 * r - 1) : (fm_sum (fun i => fm_far (r : Int) i * fm_u (u : Int) xs ((m : Int) * d - i)) k).natAbs ≤ 7 * 33554432 := by
  have bs : ∀ j, j < k → -33554432 ≤ fm_far (r : Int) j * fm_u (u : Int) xs ((m : Int) * d - j) ∧ fm_far (r : Int) j * fm_u (u : Int) xs ((m : Int) * d - j) ≤ 33554432 := fun j hj => by
    have h1 := fm_far_b hr (show j < 2 * r - 1 by omega)
    have h2 := fm_u_in (up := (u : Int)) (p := (m : Int) * d - j) hx
    unfold fm_in at h2
    have h3 := fn_bd (a := fm_far (r : Int) j) (b := fm_u (u : Int) xs ((m : Int) * d - j)) (A := 4) (B := 8388608) (by omega) (by omega)
    omega
  have b1 := fm_sum_le (f := fun i => fm_far (r : Int) i * fm_u (u : Int) xs ((m : Int) * d - i)) (B := 33554432) (n := k) (fun j hj => (bs j hj).2)
  have b2 := fm_sum_ge (f := fun i => fm_far (r : Int) i * fm_u (u : Int) xs ((m : Int) * d - i)) (B := -33554432) (n := k) (fun j hj => (bs j hj).1)
  have hk7 : k ≤ 7 := by omega
  omega
theorem rs_add {u d : Nat} {f : Nat → Int32} {sp : fm_S} {xs : List Int} {m k : Nat} {v v2 : Int64} {z : Int32} (h : rs_ok u d f sp xs m) (hk : k < 2 * rs_r u d - 1) (hi : k ≤ 2 * rs_r u d - 1 ∧ v.toInt = fm_sum (fun i => fm_far (rs_r u d : Int) i * fm_u (u : Int) xs ((m : Int) * d - i)) k)
    (hv : v2 = v + (nI (rs_r u d) - (if 0 ≤ nI k - (nI (rs_r u d) - 1) then nI k - (nI (rs_r u d) - 1) else 0 - (nI k - (nI (rs_r u d) - 1)))).toInt64 * z.toInt64) (hz : z.toInt = fm_u (u : Int) xs ((m : Int) * d - k)) :
    k + 1 ≤ 2 * rs_r u d - 1 ∧ v2.toInt = fm_sum (fun i => fm_far (rs_r u d : Int) i * fm_u (u : Int) xs ((m : Int) * d - i)) (k + 1) := by
  have hud := rs_ud h
  have hrr := rs_rb hud.1 hud.2
  obtain ⟨f1, f2, f3⟩ := rs_far hrr hk
  have hin : fm_in z.toInt := by rw [hz]; exact fm_u_in h.2.2.1
  generalize (nI (rs_r u d) - (if 0 ≤ nI k - (nI (rs_r u d) - 1) then nI k - (nI (rs_r u d) - 1) else 0 - (nI k - (nI (rs_r u d) - 1)))) = w at hv f1
  obtain ⟨p0, q0⟩ := fn_pr (b := w) (x := z) (by omega) hin
  have hs := rs_sb (u := u) (m := m) (d := d) hrr h.2.2.1 (k := k) (by omega)
  refine ⟨hk, ?_⟩
  rw [hv, Kit.i64_add (by rw [hi.2, p0]; omega) (by rw [hi.2, p0]; omega), hi.2, p0, f1, hz]
  rfl
theorem rs_pos {r : Nat} (hr : 1 ≤ r ∧ r ≤ 4) : 0 < ((nI r).toInt64 * (nI r).toInt64).toInt := by
  have c : r = 1 ∨ r = 2 ∨ r = 3 ∨ r = 4 := by omega
  rcases c with rfl | rfl | rfl | rfl <;> decide
theorem rs_val {u d : Nat} {f : Nat → Int32} {sp : fm_S} {xs : List Int} {m k : Nat} {v q : Int64} {r : Int32} (h : rs_ok u d f sp xs m) (hk : k = 2 * rs_r u d - 1) (hi : k ≤ 2 * rs_r u d - 1 ∧ v.toInt = fm_sum (fun i => fm_far (rs_r u d : Int) i * fm_u (u : Int) xs ((m : Int) * d - i)) k)
    (hq : q.toInt = ((nI u).toInt64 * v).toInt / ((nI (rs_r u d)).toInt64 * (nI (rs_r u d)).toInt64).toInt) (hr : r.toInt = fm_clip q.toInt) : r.toInt = fm_y sp xs m := by
  have hud := rs_ud h
  have hrr := rs_rb hud.1 hud.2
  have hs := rs_sb (u := u) (m := m) (d := d) hrr h.2.2.1 (k := k) (by omega)
  rw [← hi.2] at hs
  have eu : (nI u).toInt64.toInt = (u : Int) := by rw [Kit.i64_of_i32, nI_toInt (by omega)]
  have er : (nI (rs_r u d)).toInt64.toInt = (rs_r u d : Int) := by rw [Kit.i64_of_i32, nI_toInt (by omega)]
  have h3 := fn_bd (a := (u : Int)) (b := v.toInt) (A := 4) (B := 7 * 33554432) (by omega) hs
  have h4 := fn_bd (a := (rs_r u d : Int)) (b := (rs_r u d : Int)) (A := 4) (B := 4) (by omega) (by omega)
  rw [Kit.i64_mul (by rw [eu]; omega) (by rw [eu]; omega), Kit.i64_mul (by rw [er]; omega) (by rw [er]; omega), eu, er, hi.2] at hq
  have k3 : sp.1 = 3 := by rw [h.1]
  have e1 : sp.2.1 = (u : Int) := by rw [h.1]
  have e2 : sp.2.2.1 = (d : Int) := by rw [h.1]
  unfold fm_y
  rw [if_neg (by omega), if_neg (by omega), if_neg (by omega), hr, hq, e1, e2, rs_max, hk, show (2 * (rs_r u d : Int) - 1).toNat = 2 * rs_r u d - 1 by omega]

theorem dc_Resampler_init_0 : decode cb_Resampler_init 0 = .ok (.aload_n 0, 1) := by decide +kernel
theorem dc_Resampler_init_1 : decode cb_Resampler_init 1 = .ok (.invokespecial 3, 3) := by decide +kernel
theorem dc_Resampler_init_4 : decode cb_Resampler_init 4 = .ok (.aload_n 0, 1) := by decide +kernel
theorem dc_Resampler_init_5 : decode cb_Resampler_init 5 = .ok (.new 9, 3) := by decide +kernel
theorem dc_Resampler_init_8 : decode cb_Resampler_init 8 = .ok (.dup, 1) := by decide +kernel
theorem dc_Resampler_init_9 : decode cb_Resampler_init 9 = .ok (.invokespecial 11, 3) := by decide +kernel
theorem dc_Resampler_init_12 : decode cb_Resampler_init 12 = .ok (.putfield 12, 3) := by decide +kernel
theorem dc_Resampler_init_15 : decode cb_Resampler_init 15 = .ok (.iload_n 1, 1) := by decide +kernel
theorem dc_Resampler_init_16 : decode cb_Resampler_init 16 = .ok (.iload_n 2, 1) := by decide +kernel
theorem dc_Resampler_init_17 : decode cb_Resampler_init 17 = .ok (.invokestatic 18, 3) := by decide +kernel
theorem dc_Resampler_init_20 : decode cb_Resampler_init 20 = .ok (.istore_n 3, 1) := by decide +kernel
theorem dc_Resampler_init_21 : decode cb_Resampler_init 21 = .ok (.aload_n 0, 1) := by decide +kernel
theorem dc_Resampler_init_22 : decode cb_Resampler_init 22 = .ok (.iload_n 1, 1) := by decide +kernel
theorem dc_Resampler_init_23 : decode cb_Resampler_init 23 = .ok (.iload_n 3, 1) := by decide +kernel
theorem dc_Resampler_init_24 : decode cb_Resampler_init 24 = .ok (.idiv, 1) := by decide +kernel
theorem dc_Resampler_init_25 : decode cb_Resampler_init 25 = .ok (.putfield 22, 3) := by decide +kernel
theorem dc_Resampler_init_28 : decode cb_Resampler_init 28 = .ok (.aload_n 0, 1) := by decide +kernel
theorem dc_Resampler_init_29 : decode cb_Resampler_init 29 = .ok (.iload_n 2, 1) := by decide +kernel
theorem dc_Resampler_init_30 : decode cb_Resampler_init 30 = .ok (.iload_n 3, 1) := by decide +kernel
theorem dc_Resampler_init_31 : decode cb_Resampler_init 31 = .ok (.idiv, 1) := by decide +kernel
theorem dc_Resampler_init_32 : decode cb_Resampler_init 32 = .ok (.putfield 26, 3) := by decide +kernel
theorem dc_Resampler_init_35 : decode cb_Resampler_init 35 = .ok (.aload_n 0, 1) := by decide +kernel
theorem dc_Resampler_init_36 : decode cb_Resampler_init 36 = .ok (.aload_n 0, 1) := by decide +kernel
theorem dc_Resampler_init_37 : decode cb_Resampler_init 37 = .ok (.getfield 22, 3) := by decide +kernel
theorem dc_Resampler_init_40 : decode cb_Resampler_init 40 = .ok (.aload_n 0, 1) := by decide +kernel
theorem dc_Resampler_init_41 : decode cb_Resampler_init 41 = .ok (.getfield 26, 3) := by decide +kernel
theorem dc_Resampler_init_44 : decode cb_Resampler_init 44 = .ok (.invokestatic 29, 3) := by decide +kernel
theorem dc_Resampler_init_47 : decode cb_Resampler_init 47 = .ok (.putfield 34, 3) := by decide +kernel
theorem dc_Resampler_init_50 : decode cb_Resampler_init 50 = .ok (.return_, 1) := by decide +kernel
theorem yk_Resampler_init : fq_Y my_Resampler_init cb_Resampler_init 4 none 2 := ⟨wd_422, wd_45, by decide +kernel⟩
theorem dc_Resampler_commonDivisor_0 : decode cb_Resampler_commonDivisor 0 = .ok (.iconst 4, 1) := by decide +kernel
theorem dc_Resampler_commonDivisor_1 : decode cb_Resampler_commonDivisor 1 = .ok (.istore_n 2, 1) := by decide +kernel
theorem dc_Resampler_commonDivisor_2 : decode cb_Resampler_commonDivisor 2 = .ok (.iload_n 2, 1) := by decide +kernel
theorem dc_Resampler_commonDivisor_3 : decode cb_Resampler_commonDivisor 3 = .ok (.iconst 1, 1) := by decide +kernel
theorem dc_Resampler_commonDivisor_4 : decode cb_Resampler_commonDivisor 4 = .ok (.if_icmp .le 23, 3) := by decide +kernel
theorem dc_Resampler_commonDivisor_7 : decode cb_Resampler_commonDivisor 7 = .ok (.iload_n 0, 1) := by decide +kernel
theorem dc_Resampler_commonDivisor_8 : decode cb_Resampler_commonDivisor 8 = .ok (.iload_n 2, 1) := by decide +kernel
theorem dc_Resampler_commonDivisor_9 : decode cb_Resampler_commonDivisor 9 = .ok (.irem, 1) := by decide +kernel
theorem dc_Resampler_commonDivisor_10 : decode cb_Resampler_commonDivisor 10 = .ok (.ifCond .ne 11, 3) := by decide +kernel
theorem dc_Resampler_commonDivisor_13 : decode cb_Resampler_commonDivisor 13 = .ok (.iload_n 1, 1) := by decide +kernel
theorem dc_Resampler_commonDivisor_14 : decode cb_Resampler_commonDivisor 14 = .ok (.iload_n 2, 1) := by decide +kernel
theorem dc_Resampler_commonDivisor_15 : decode cb_Resampler_commonDivisor 15 = .ok (.irem, 1) := by decide +kernel
theorem dc_Resampler_commonDivisor_16 : decode cb_Resampler_commonDivisor 16 = .ok (.ifCond .ne 5, 3) := by decide +kernel
theorem dc_Resampler_commonDivisor_19 : decode cb_Resampler_commonDivisor 19 = .ok (.iload_n 2, 1) := by decide +kernel
theorem dc_Resampler_commonDivisor_20 : decode cb_Resampler_commonDivisor 20 = .ok (.ireturn, 1) := by decide +kernel
theorem dc_Resampler_commonDivisor_21 : decode cb_Resampler_commonDivisor 21 = .ok (.iinc 2 (-1), 3) := by decide +kernel
theorem dc_Resampler_commonDivisor_24 : decode cb_Resampler_commonDivisor 24 = .ok (.goto (-22), 3) := by decide +kernel
theorem dc_Resampler_commonDivisor_27 : decode cb_Resampler_commonDivisor 27 = .ok (.iconst 1, 1) := by decide +kernel
theorem dc_Resampler_commonDivisor_28 : decode cb_Resampler_commonDivisor 28 = .ok (.ireturn, 1) := by decide +kernel
theorem yk_Resampler_commonDivisor : fq_Y my_Resampler_commonDivisor cb_Resampler_commonDivisor 3 (some .int) 2 := ⟨wd_428, wd_45, by decide +kernel⟩
theorem dc_Resampler_dueUpTo_0 : decode cb_Resampler_dueUpTo 0 = .ok (.iload_n 1, 1) := by decide +kernel
theorem dc_Resampler_dueUpTo_1 : decode cb_Resampler_dueUpTo 1 = .ok (.aload_n 0, 1) := by decide +kernel
theorem dc_Resampler_dueUpTo_2 : decode cb_Resampler_dueUpTo 2 = .ok (.getfield 49, 3) := by decide +kernel
theorem dc_Resampler_dueUpTo_5 : decode cb_Resampler_dueUpTo 5 = .ok (.if_icmp .ge 7, 3) := by decide +kernel
theorem dc_Resampler_dueUpTo_8 : decode cb_Resampler_dueUpTo 8 = .ok (.iconst 0, 1) := by decide +kernel
theorem dc_Resampler_dueUpTo_9 : decode cb_Resampler_dueUpTo 9 = .ok (.goto 16, 3) := by decide +kernel
theorem dc_Resampler_dueUpTo_12 : decode cb_Resampler_dueUpTo 12 = .ok (.iload_n 1, 1) := by decide +kernel
theorem dc_Resampler_dueUpTo_13 : decode cb_Resampler_dueUpTo 13 = .ok (.aload_n 0, 1) := by decide +kernel
theorem dc_Resampler_dueUpTo_14 : decode cb_Resampler_dueUpTo 14 = .ok (.getfield 49, 3) := by decide +kernel
theorem dc_Resampler_dueUpTo_17 : decode cb_Resampler_dueUpTo 17 = .ok (.isub, 1) := by decide +kernel
theorem dc_Resampler_dueUpTo_18 : decode cb_Resampler_dueUpTo 18 = .ok (.aload_n 0, 1) := by decide +kernel
theorem dc_Resampler_dueUpTo_19 : decode cb_Resampler_dueUpTo 19 = .ok (.getfield 26, 3) := by decide +kernel
theorem dc_Resampler_dueUpTo_22 : decode cb_Resampler_dueUpTo 22 = .ok (.idiv, 1) := by decide +kernel
theorem dc_Resampler_dueUpTo_23 : decode cb_Resampler_dueUpTo 23 = .ok (.iconst 1, 1) := by decide +kernel
theorem dc_Resampler_dueUpTo_24 : decode cb_Resampler_dueUpTo 24 = .ok (.iadd, 1) := by decide +kernel
theorem dc_Resampler_dueUpTo_25 : decode cb_Resampler_dueUpTo 25 = .ok (.ireturn, 1) := by decide +kernel
theorem yk_Resampler_dueUpTo : fq_Y my_Resampler_dueUpTo cb_Resampler_dueUpTo 2 (some .int) 1 := ⟨wd_633, wd_45, by decide +kernel⟩
theorem dc_Resampler_take_0 : decode cb_Resampler_take 0 = .ok (.aload_n 0, 1) := by decide +kernel
theorem dc_Resampler_take_1 : decode cb_Resampler_take 1 = .ok (.getfield 12, 3) := by decide +kernel
theorem dc_Resampler_take_4 : decode cb_Resampler_take 4 = .ok (.iload_n 1, 1) := by decide +kernel
theorem dc_Resampler_take_5 : decode cb_Resampler_take 5 = .ok (.invokevirtual 37, 3) := by decide +kernel
theorem dc_Resampler_take_8 : decode cb_Resampler_take 8 = .ok (.aload_n 0, 1) := by decide +kernel
theorem dc_Resampler_take_9 : decode cb_Resampler_take 9 = .ok (.aload_n 0, 1) := by decide +kernel
theorem dc_Resampler_take_10 : decode cb_Resampler_take 10 = .ok (.getfield 12, 3) := by decide +kernel
theorem dc_Resampler_take_13 : decode cb_Resampler_take 13 = .ok (.invokevirtual 41, 3) := by decide +kernel
theorem dc_Resampler_take_16 : decode cb_Resampler_take 16 = .ok (.aload_n 0, 1) := by decide +kernel
theorem dc_Resampler_take_17 : decode cb_Resampler_take 17 = .ok (.getfield 22, 3) := by decide +kernel
theorem dc_Resampler_take_20 : decode cb_Resampler_take 20 = .ok (.imul, 1) := by decide +kernel
theorem dc_Resampler_take_21 : decode cb_Resampler_take 21 = .ok (.iconst 1, 1) := by decide +kernel
theorem dc_Resampler_take_22 : decode cb_Resampler_take 22 = .ok (.isub, 1) := by decide +kernel
theorem dc_Resampler_take_23 : decode cb_Resampler_take 23 = .ok (.invokevirtual 45, 3) := by decide +kernel
theorem dc_Resampler_take_26 : decode cb_Resampler_take 26 = .ok (.ireturn, 1) := by decide +kernel
theorem yk_Resampler_take : fq_Y my_Resampler_take cb_Resampler_take 2 (some .int) 1 := ⟨wd_621, wd_45, by decide +kernel⟩
theorem dc_Resampler_finish_0 : decode cb_Resampler_finish 0 = .ok (.aload_n 0, 1) := by decide +kernel
theorem dc_Resampler_finish_1 : decode cb_Resampler_finish 1 = .ok (.getfield 12, 3) := by decide +kernel
theorem dc_Resampler_finish_4 : decode cb_Resampler_finish 4 = .ok (.invokevirtual 41, 3) := by decide +kernel
theorem dc_Resampler_finish_7 : decode cb_Resampler_finish 7 = .ok (.ifCond .ne 7, 3) := by decide +kernel
theorem dc_Resampler_finish_10 : decode cb_Resampler_finish 10 = .ok (.iconst 0, 1) := by decide +kernel
theorem dc_Resampler_finish_11 : decode cb_Resampler_finish 11 = .ok (.goto 28, 3) := by decide +kernel
theorem dc_Resampler_finish_14 : decode cb_Resampler_finish 14 = .ok (.aload_n 0, 1) := by decide +kernel
theorem dc_Resampler_finish_15 : decode cb_Resampler_finish 15 = .ok (.aload_n 0, 1) := by decide +kernel
theorem dc_Resampler_finish_16 : decode cb_Resampler_finish 16 = .ok (.getfield 12, 3) := by decide +kernel
theorem dc_Resampler_finish_19 : decode cb_Resampler_finish 19 = .ok (.invokevirtual 41, 3) := by decide +kernel
theorem dc_Resampler_finish_22 : decode cb_Resampler_finish 22 = .ok (.aload_n 0, 1) := by decide +kernel
theorem dc_Resampler_finish_23 : decode cb_Resampler_finish 23 = .ok (.getfield 22, 3) := by decide +kernel
theorem dc_Resampler_finish_26 : decode cb_Resampler_finish 26 = .ok (.imul, 1) := by decide +kernel
theorem dc_Resampler_finish_27 : decode cb_Resampler_finish 27 = .ok (.iconst 2, 1) := by decide +kernel
theorem dc_Resampler_finish_28 : decode cb_Resampler_finish 28 = .ok (.aload_n 0, 1) := by decide +kernel
theorem dc_Resampler_finish_29 : decode cb_Resampler_finish 29 = .ok (.getfield 34, 3) := by decide +kernel
theorem dc_Resampler_finish_32 : decode cb_Resampler_finish 32 = .ok (.imul, 1) := by decide +kernel
theorem dc_Resampler_finish_33 : decode cb_Resampler_finish 33 = .ok (.iadd, 1) := by decide +kernel
theorem dc_Resampler_finish_34 : decode cb_Resampler_finish 34 = .ok (.iconst 3, 1) := by decide +kernel
theorem dc_Resampler_finish_35 : decode cb_Resampler_finish 35 = .ok (.isub, 1) := by decide +kernel
theorem dc_Resampler_finish_36 : decode cb_Resampler_finish 36 = .ok (.invokevirtual 45, 3) := by decide +kernel
theorem dc_Resampler_finish_39 : decode cb_Resampler_finish 39 = .ok (.ireturn, 1) := by decide +kernel
theorem yk_Resampler_finish : fq_Y my_Resampler_finish cb_Resampler_finish 1 (some .int) 0 := ⟨wd_699, wd_45, by decide +kernel⟩
theorem dc_Resampler_make_0 : decode cb_Resampler_make 0 = .ok (.lconst 0, 1) := by decide +kernel
theorem dc_Resampler_make_1 : decode cb_Resampler_make 1 = .ok (.lstore_n 1, 1) := by decide +kernel
theorem dc_Resampler_make_2 : decode cb_Resampler_make 2 = .ok (.iconst 0, 1) := by decide +kernel
theorem dc_Resampler_make_3 : decode cb_Resampler_make 3 = .ok (.istore_n 3, 1) := by decide +kernel
theorem dc_Resampler_make_4 : decode cb_Resampler_make 4 = .ok (.iload_n 3, 1) := by decide +kernel
theorem dc_Resampler_make_5 : decode cb_Resampler_make 5 = .ok (.iconst 2, 1) := by decide +kernel
theorem dc_Resampler_make_6 : decode cb_Resampler_make 6 = .ok (.aload_n 0, 1) := by decide +kernel
theorem dc_Resampler_make_7 : decode cb_Resampler_make 7 = .ok (.getfield 34, 3) := by decide +kernel
theorem dc_Resampler_make_10 : decode cb_Resampler_make 10 = .ok (.imul, 1) := by decide +kernel
theorem dc_Resampler_make_11 : decode cb_Resampler_make 11 = .ok (.iconst 2, 1) := by decide +kernel
theorem dc_Resampler_make_12 : decode cb_Resampler_make 12 = .ok (.isub, 1) := by decide +kernel
theorem dc_Resampler_make_13 : decode cb_Resampler_make 13 = .ok (.if_icmp .gt 71, 3) := by decide +kernel
theorem dc_Resampler_make_16 : decode cb_Resampler_make 16 = .ok (.aload_n 0, 1) := by decide +kernel
theorem dc_Resampler_make_17 : decode cb_Resampler_make 17 = .ok (.getfield 49, 3) := by decide +kernel
theorem dc_Resampler_make_20 : decode cb_Resampler_make 20 = .ok (.iload_n 3, 1) := by decide +kernel
theorem dc_Resampler_make_21 : decode cb_Resampler_make 21 = .ok (.isub, 1) := by decide +kernel
theorem dc_Resampler_make_22 : decode cb_Resampler_make 22 = .ok (.istore 4, 2) := by decide +kernel
theorem dc_Resampler_make_24 : decode cb_Resampler_make 24 = .ok (.iload 4, 2) := by decide +kernel
theorem dc_Resampler_make_26 : decode cb_Resampler_make 26 = .ok (.aload_n 0, 1) := by decide +kernel
theorem dc_Resampler_make_27 : decode cb_Resampler_make 27 = .ok (.getfield 22, 3) := by decide +kernel
theorem dc_Resampler_make_30 : decode cb_Resampler_make 30 = .ok (.irem, 1) := by decide +kernel
theorem dc_Resampler_make_31 : decode cb_Resampler_make 31 = .ok (.ifCond .ne 20, 3) := by decide +kernel
theorem dc_Resampler_make_34 : decode cb_Resampler_make 34 = .ok (.aload_n 0, 1) := by decide +kernel
theorem dc_Resampler_make_35 : decode cb_Resampler_make 35 = .ok (.getfield 12, 3) := by decide +kernel
theorem dc_Resampler_make_38 : decode cb_Resampler_make 38 = .ok (.iload 4, 2) := by decide +kernel
theorem dc_Resampler_make_40 : decode cb_Resampler_make 40 = .ok (.aload_n 0, 1) := by decide +kernel
theorem dc_Resampler_make_41 : decode cb_Resampler_make 41 = .ok (.getfield 22, 3) := by decide +kernel
theorem dc_Resampler_make_44 : decode cb_Resampler_make 44 = .ok (.idiv, 1) := by decide +kernel
theorem dc_Resampler_make_45 : decode cb_Resampler_make 45 = .ok (.invokevirtual 52, 3) := by decide +kernel
theorem dc_Resampler_make_48 : decode cb_Resampler_make 48 = .ok (.goto 4, 3) := by decide +kernel
theorem dc_Resampler_make_51 : decode cb_Resampler_make 51 = .ok (.iconst 0, 1) := by decide +kernel
theorem dc_Resampler_make_52 : decode cb_Resampler_make 52 = .ok (.istore 5, 2) := by decide +kernel
theorem dc_Resampler_make_54 : decode cb_Resampler_make 54 = .ok (.lload_n 1, 1) := by decide +kernel
theorem dc_Resampler_make_55 : decode cb_Resampler_make 55 = .ok (.aload_n 0, 1) := by decide +kernel
theorem dc_Resampler_make_56 : decode cb_Resampler_make 56 = .ok (.getfield 34, 3) := by decide +kernel
theorem dc_Resampler_make_59 : decode cb_Resampler_make 59 = .ok (.iload_n 3, 1) := by decide +kernel
theorem dc_Resampler_make_60 : decode cb_Resampler_make 60 = .ok (.aload_n 0, 1) := by decide +kernel
theorem dc_Resampler_make_61 : decode cb_Resampler_make 61 = .ok (.getfield 34, 3) := by decide +kernel
theorem dc_Resampler_make_64 : decode cb_Resampler_make 64 = .ok (.iconst 1, 1) := by decide +kernel
theorem dc_Resampler_make_65 : decode cb_Resampler_make 65 = .ok (.isub, 1) := by decide +kernel
theorem dc_Resampler_make_66 : decode cb_Resampler_make 66 = .ok (.isub, 1) := by decide +kernel
theorem dc_Resampler_make_67 : decode cb_Resampler_make 67 = .ok (.invokestatic 55, 3) := by decide +kernel
theorem dc_Resampler_make_70 : decode cb_Resampler_make 70 = .ok (.isub, 1) := by decide +kernel
theorem dc_Resampler_make_71 : decode cb_Resampler_make 71 = .ok (.i2l, 1) := by decide +kernel
theorem dc_Resampler_make_72 : decode cb_Resampler_make 72 = .ok (.iload 5, 2) := by decide +kernel
theorem dc_Resampler_make_74 : decode cb_Resampler_make 74 = .ok (.i2l, 1) := by decide +kernel
theorem dc_Resampler_make_75 : decode cb_Resampler_make 75 = .ok (.lmul, 1) := by decide +kernel
theorem dc_Resampler_make_76 : decode cb_Resampler_make 76 = .ok (.ladd, 1) := by decide +kernel
theorem dc_Resampler_make_77 : decode cb_Resampler_make 77 = .ok (.lstore_n 1, 1) := by decide +kernel
theorem dc_Resampler_make_78 : decode cb_Resampler_make 78 = .ok (.iinc 3 1, 3) := by decide +kernel
theorem dc_Resampler_make_81 : decode cb_Resampler_make 81 = .ok (.goto (-77), 3) := by decide +kernel
theorem dc_Resampler_make_84 : decode cb_Resampler_make 84 = .ok (.aload_n 0, 1) := by decide +kernel
theorem dc_Resampler_make_85 : decode cb_Resampler_make 85 = .ok (.dup, 1) := by decide +kernel
theorem dc_Resampler_make_86 : decode cb_Resampler_make 86 = .ok (.getfield 49, 3) := by decide +kernel
theorem dc_Resampler_make_89 : decode cb_Resampler_make 89 = .ok (.aload_n 0, 1) := by decide +kernel
theorem dc_Resampler_make_90 : decode cb_Resampler_make 90 = .ok (.getfield 26, 3) := by decide +kernel
theorem dc_Resampler_make_93 : decode cb_Resampler_make 93 = .ok (.iadd, 1) := by decide +kernel
theorem dc_Resampler_make_94 : decode cb_Resampler_make 94 = .ok (.putfield 49, 3) := by decide +kernel
theorem dc_Resampler_make_97 : decode cb_Resampler_make 97 = .ok (.aload_n 0, 1) := by decide +kernel
theorem dc_Resampler_make_98 : decode cb_Resampler_make 98 = .ok (.getfield 22, 3) := by decide +kernel
theorem dc_Resampler_make_101 : decode cb_Resampler_make 101 = .ok (.i2l, 1) := by decide +kernel
theorem dc_Resampler_make_102 : decode cb_Resampler_make 102 = .ok (.lload_n 1, 1) := by decide +kernel
theorem dc_Resampler_make_103 : decode cb_Resampler_make 103 = .ok (.lmul, 1) := by decide +kernel
theorem dc_Resampler_make_104 : decode cb_Resampler_make 104 = .ok (.aload_n 0, 1) := by decide +kernel
theorem dc_Resampler_make_105 : decode cb_Resampler_make 105 = .ok (.getfield 34, 3) := by decide +kernel
theorem dc_Resampler_make_108 : decode cb_Resampler_make 108 = .ok (.i2l, 1) := by decide +kernel
theorem dc_Resampler_make_109 : decode cb_Resampler_make 109 = .ok (.aload_n 0, 1) := by decide +kernel
theorem dc_Resampler_make_110 : decode cb_Resampler_make 110 = .ok (.getfield 34, 3) := by decide +kernel
theorem dc_Resampler_make_113 : decode cb_Resampler_make 113 = .ok (.i2l, 1) := by decide +kernel
theorem dc_Resampler_make_114 : decode cb_Resampler_make 114 = .ok (.lmul, 1) := by decide +kernel
theorem dc_Resampler_make_115 : decode cb_Resampler_make 115 = .ok (.invokestatic 58, 3) := by decide +kernel
theorem dc_Resampler_make_118 : decode cb_Resampler_make 118 = .ok (.invokestatic 62, 3) := by decide +kernel
theorem dc_Resampler_make_121 : decode cb_Resampler_make 121 = .ok (.ireturn, 1) := by decide +kernel
theorem yk_Resampler_make : fq_Y my_Resampler_make cb_Resampler_make 6 (some .int) 0 := ⟨wd_666, wd_45, by decide +kernel⟩
theorem dc_Resampler_clear_0 : decode cb_Resampler_clear 0 = .ok (.aload_n 0, 1) := by decide +kernel
theorem dc_Resampler_clear_1 : decode cb_Resampler_clear 1 = .ok (.getfield 12, 3) := by decide +kernel
theorem dc_Resampler_clear_4 : decode cb_Resampler_clear 4 = .ok (.invokevirtual 66, 3) := by decide +kernel
theorem dc_Resampler_clear_7 : decode cb_Resampler_clear 7 = .ok (.aload_n 0, 1) := by decide +kernel
theorem dc_Resampler_clear_8 : decode cb_Resampler_clear 8 = .ok (.iconst 0, 1) := by decide +kernel
theorem dc_Resampler_clear_9 : decode cb_Resampler_clear 9 = .ok (.putfield 49, 3) := by decide +kernel
theorem dc_Resampler_clear_12 : decode cb_Resampler_clear 12 = .ok (.return_, 1) := by decide +kernel
theorem yk_Resampler_clear : fq_Y my_Resampler_clear cb_Resampler_clear 1 none 0 := ⟨wd_525, wd_45, by decide +kernel⟩
set_option maxHeartbeats 4000000 in
set_option maxRecDepth 100000 in
theorem ct_Resampler_commonDivisor (l : Launch) (D : va_G) (cI cO : ClassId) (tE : Nat) (a b : Nat) (ha : 1 ≤ a ∧ a ≤ 4) (hb : 1 ≤ b ∧ b ≤ 4) (sz : Nat) : Met l my_Resampler_commonDivisor (fq_w my_Resampler_commonDivisor cb_Resampler_commonDivisor 3 (some .int)) ({ frames := 0, cells := 0, slots := 0, locals := 0 }) (va_Pc ([.int (nI a), .int (nI b)]) (fq_Pre D cI cO tE sz ([]))) (va_Qi (S := va_W) (fun r w => w = [] ∧ r = nI (rs_g a b)) (fq_Bw D (va_A ([]) sz)) (va_A ([]) sz)) (0) (0) (va_A ([]) sz) := by
  refine fq_open (by decide +kernel) (Nat.le_of_ble_eq_true rfl) ?_
  intro pg ev s mt below meth cd ls K hret hlk hin hK hZ hP hD hA hS hl
  generalize va_A ([]) sz = A at hZ hD hA hS ⊢
  have K : fq_Ctx pg mt cd cb_Resampler_commonDivisor 3 s _ cn_Resampler := K
  have hl : lv_has ls 3 [(0, .int (nI a)), (1, .int (nI b))] := hl
  refine lv_iconst (v := 4) K.1 K.2.1 dc_Resampler_commonDivisor_0 (by decide) ?_
  refine lv_istore_n K.1 K.2.1 dc_Resampler_commonDivisor_1 rfl hl (by decide) rfl (fun ls hl => ?_)
  have hl : lv_has ls 3 [(2, .int 4), (0, .int (nI a)), (1, .int (nI b))] := hl
  refine fq_lp (σ := Nat) (fun x => x) (fun x H locs ls => (1 ≤ x ∧ x ≤ 4 ∧ ∀ j, x < j → j ≤ 4 → ¬ (a % j = 0 ∧ b % j = 0)) ∧ lv_has ls 3 [(0, .int (nI a)), (1, .int (nI b)), (2, .int (nI x))] ∧ va_P D fq_cl ([]) H ∧ va_D A ([]) ∧ va_S A s.heap H locs) ?_ (4) _ _ _ ⟨⟨by decide, by decide, fun j h1 h2 => by omega⟩, lv_sub hl [1, 2, 0] rfl, hP, hD, hS⟩
  rintro k H locs ls ⟨hI2, hl, hP, hD, hS⟩ ih2
  have hI2 : 1 ≤ k ∧ k ≤ 4 ∧ ∀ j, k < j → j ≤ 4 → ¬ (a % j = 0 ∧ b % j = 0) := hI2
  have hl : lv_has ls 3 [(0, .int (nI a)), (1, .int (nI b)), (2, .int (nI k))] := hl
  have hP : va_P D fq_cl ([]) _ := hP
  have hD : va_D A ([]) := hD
  refine lv_iload_n K.1 K.2.1 dc_Resampler_commonDivisor_2 rfl (lv_at hl 2 rfl) ?_
  refine lv_iconst (v := 1) K.1 K.2.1 dc_Resampler_commonDivisor_3 (by decide) ?_
  refine lv_icmp_le (tgt := 27) K.1 K.2.1 dc_Resampler_commonDivisor_4 rfl (fun b4 => ?_) (fun b4 => ?_)
  · skip
    have hk : k = 1 := by rw [show (1 : Int32) = nI 1 from rfl, nI_leI (by omega) (by decide)] at b4; omega
    refine lv_iconst (v := 1) K.1 K.2.1 dc_Resampler_commonDivisor_27 (by decide) ?_
    exact fq_reti K hret hlk hS hP hD ⟨rfl, congrArg nI (rs_g1 hI2 hk)⟩ dc_Resampler_commonDivisor_28 (Nat.le_of_ble_eq_true rfl) (Nat.le_of_ble_eq_true rfl)
  · skip
    have hk : 1 < k := by rw [show (1 : Int32) = nI 1 from rfl, nI_leI (by omega) (by decide)] at b4; omega
    refine lv_iload_n K.1 K.2.1 dc_Resampler_commonDivisor_7 rfl (lv_at hl 0 rfl) ?_
    refine lv_iload_n K.1 K.2.1 dc_Resampler_commonDivisor_8 rfl (lv_at hl 2 rfl) ?_
    refine lv_irem K.1 K.2.1 dc_Resampler_commonDivisor_9 (nI_ne0 (by omega) (by omega)) ?_
    refine fq_asi (y := nI (a % k)) (pk_rem (by omega) (by omega) (by omega)) ?_
    refine lv_if_ne (tgt := 21) K.1 K.2.1 dc_Resampler_commonDivisor_10 rfl (fun b10 => ?_) (fun b10 => ?_)
    · skip
      have hz : a % k < 4 := by have := Nat.mod_lt a (show 0 < k by omega); omega
      have b10 : ¬ a % k = 0 := fun z => b10 (by rw [z, nI_0])
      refine lv_iinc (v := nI (k - 1)) K.1 K.2.1 dc_Resampler_commonDivisor_21 hl (k := 2) rfl (by rw [show Int32.ofInt (-1) = (-1 : Int32) by decide]; exact sb_m1 (by omega)) (by decide) rfl (fun ls hl => ?_)
      have hl : lv_has ls 3 [(2, .int (nI (k - 1))), (0, .int (nI a)), (1, .int (nI b))] := hl
      refine lv_goto (tgt := 2) K.1 K.2.1 dc_Resampler_commonDivisor_24 rfl ?_
      exact ih2 (k - 1) _ _ _ (by show k - 1 < k; omega) ⟨rs_gs hI2 hk (by first | exact Or.inl b10 | exact Or.inr b16), lv_sub hl [1, 2, 0] rfl, hP, hD, hS⟩
    · skip
      have hz : a % k < 4 := by have := Nat.mod_lt a (show 0 < k by omega); omega
      have b10 : a % k = 0 := (nI_eq (by omega) (by decide)).mp (b10.trans nI_0.symm)
      refine lv_iload_n K.1 K.2.1 dc_Resampler_commonDivisor_13 rfl (lv_at hl 1 rfl) ?_
      refine lv_iload_n K.1 K.2.1 dc_Resampler_commonDivisor_14 rfl (lv_at hl 2 rfl) ?_
      refine lv_irem K.1 K.2.1 dc_Resampler_commonDivisor_15 (nI_ne0 (by omega) (by omega)) ?_
      refine fq_asi (y := nI (b % k)) (pk_rem (by omega) (by omega) (by omega)) ?_
      refine lv_if_ne (tgt := 21) K.1 K.2.1 dc_Resampler_commonDivisor_16 rfl (fun b16 => ?_) (fun b16 => ?_)
      · skip
        have hz : b % k < 4 := by have := Nat.mod_lt b (show 0 < k by omega); omega
        have b16 : ¬ b % k = 0 := fun z => b16 (by rw [z, nI_0])
        refine lv_iinc (v := nI (k - 1)) K.1 K.2.1 dc_Resampler_commonDivisor_21 hl (k := 2) rfl (by rw [show Int32.ofInt (-1) = (-1 : Int32) by decide]; exact sb_m1 (by omega)) (by decide) rfl (fun ls hl => ?_)
        have hl : lv_has ls 3 [(2, .int (nI (k - 1))), (0, .int (nI a)), (1, .int (nI b))] := hl
        refine lv_goto (tgt := 2) K.1 K.2.1 dc_Resampler_commonDivisor_24 rfl ?_
        exact ih2 (k - 1) _ _ _ (by show k - 1 < k; omega) ⟨rs_gs hI2 hk (by first | exact Or.inl b10 | exact Or.inr b16), lv_sub hl [1, 2, 0] rfl, hP, hD, hS⟩
      · skip
        have hz : b % k < 4 := by have := Nat.mod_lt b (show 0 < k by omega); omega
        have b16 : b % k = 0 := (nI_eq (by omega) (by decide)).mp (b16.trans nI_0.symm)
        refine lv_iload_n K.1 K.2.1 dc_Resampler_commonDivisor_19 rfl (lv_at hl 2 rfl) ?_
        exact fq_reti K hret hlk hS hP hD ⟨rfl, congrArg nI (rs_gf hI2 hk b10 b16)⟩ dc_Resampler_commonDivisor_20 (Nat.le_of_ble_eq_true rfl) (Nat.le_of_ble_eq_true rfl)
set_option maxHeartbeats 4000000 in
set_option maxRecDepth 100000 in
theorem ct_Resampler_init (l : Launch) (D : va_G) (cI cO : ClassId) (tE : Nat) (h a b : Nat) (ha : 1 ≤ a ∧ a ≤ 4) (hb : 1 ≤ b ∧ b ≤ 4) (sz : Nat) : Met l my_Resampler_init (fq_w my_Resampler_init cb_Resampler_init 4 none) ({ frames := 2, cells := 2, slots := 10, locals := 32 }) (va_Pc ([.ref h, .int (nI a), .int (nI b)]) (fq_Pre D cI cO tE sz ([(h, .inr (5, [.int 0, .int 0, .int 0, .null, .int 0]))]))) (va_Qv (S := va_W) (fun w => sg_res cI h (3, ((a / rs_g a b : Nat) : Int), ((b / rs_g a b : Nat) : Int), 0, 0, 0) [] 0 w) (fq_Bw D (va_A ([(h, .inr (5, [.int 0, .int 0, .int 0, .null, .int 0]))]) sz)) (va_A ([(h, .inr (5, [.int 0, .int 0, .int 0, .null, .int 0]))]) sz)) (2) (10) (va_A ([(h, .inr (5, [.int 0, .int 0, .int 0, .null, .int 0]))]) sz) := by
  refine fq_open (by decide +kernel) (Nat.le_of_ble_eq_true rfl) ?_
  intro pg ev s mt below meth cd ls K hret hlk hin hK hZ hP hD hA hS hl
  generalize va_A ([(h, .inr (5, [.int 0, .int 0, .int 0, .null, .int 0]))]) sz = A at hZ hD hA hS ⊢
  have K : fq_Ctx pg mt cd cb_Resampler_init 4 s _ cn_Resampler := K
  have hin : meth.name = "<init>" := hin
  have hl : lv_has ls 4 [(0, .ref h), (1, .int (nI a)), (2, .int (nI b))] := hl
  have hg := rs_gb ha hb
  refine lv_aload_n K.1 K.2.1 dc_Resampler_init_0 rfl (lv_at hl 0 rfl) ?_
  have hc := fq_cut.of (wc := []) hP hD hS hA [] (by decide) rfl
  refine fq_cv (wr := [(h, .inr (5, [.int 0, .int 0, .int 0, .null, .int 0]))]) (fq_rIN K hK hZ hS hc (ct_Stage_init l D cI cO tE h _) yk_Stage_init wd_238 rfl wn_423 ⟨⟨rfl, rfl⟩, ⟨Nat.le_of_ble_eq_true rfl, Nat.le_of_ble_eq_true rfl⟩, ⟨Nat.le_of_ble_eq_true rfl, Nat.le_of_ble_eq_true rfl⟩⟩ hl.1 rfl (Nat.le_of_ble_eq_true rfl) dc_Resampler_init_1) hP hD hS hc [] [0] rfl rfl (by decide) (by decide) (fun  w H locs hw1 hP hD hS => ?_)
  subst hw1
  have hP : va_P D fq_cl ([(h, .inr (5, [.int 0, .int 0, .int 0, .null, .int 0]))]) _ := hP
  have hD : va_D A ([(h, .inr (5, [.int 0, .int 0, .int 0, .null, .int 0]))]) := hD
  refine lv_aload_n K.1 K.2.1 dc_Resampler_init_4 rfl (lv_at hl 0 rfl) ?_
  refine fq_new (fs := [.null, .int 0]) K hK cl_Recent wd_424 wd_378 wd_44 hP hD hS hA (by decide) (Nat.le_of_ble_eq_true rfl) (Nat.le_of_ble_eq_true rfl) dc_Resampler_init_5 (fun q1 H hP hD hS => ?_)
  have hP : va_P D fq_cl ([(h, .inr (5, [.int 0, .int 0, .int 0, .null, .int 0])), (q1, .inr (1, [.null, .int 0]))]) _ := hP
  have hD : va_D A ([(h, .inr (5, [.int 0, .int 0, .int 0, .null, .int 0])), (q1, .inr (1, [.null, .int 0]))]) := hD
  refine lv_dup K.1 K.2.1 dc_Resampler_init_8 rfl ?_
  have hc := fq_cut.of (wc := [(q1, .inr (1, [.null, .int 0]))]) hP hD hS hA [1] (by decide) rfl
  refine fq_cv (wr := [(h, .inr (5, [.int 0, .int 0, .int 0, .null, .int 0]))]) (fq_rIN K hK hZ hS hc (ct_Recent_init l D cI cO tE q1 _) yk_Recent_init wd_380 rfl wn_425 ⟨⟨rfl, rfl⟩, ⟨Nat.le_of_ble_eq_true rfl, Nat.le_of_ble_eq_true rfl⟩, ⟨Nat.le_of_ble_eq_true rfl, Nat.le_of_ble_eq_true rfl⟩⟩ hl.1 rfl (Nat.le_of_ble_eq_true rfl) dc_Resampler_init_9) hP hD hS hc [1] [0] rfl rfl (by decide) (by decide) (fun  w H locs hw2 hP hD hS => ?_)
  obtain ⟨q2, rfl⟩ := hw2
  have hP : va_P D fq_cl ([(h, .inr (5, [.int 0, .int 0, .int 0, .null, .int 0])), (q1, .inr (1, [.ref q2, .int 0])), (q2, .inl (cI, 8, .inl (fun _ => 0)))]) _ := hP
  have hD : va_D A ([(h, .inr (5, [.int 0, .int 0, .int 0, .null, .int 0])), (q1, .inr (1, [.ref q2, .int 0])), (q2, .inl (cI, 8, .inl (fun _ => 0)))]) := hD
  refine fq_putF K hK cl_Resampler hP hD hS hin 0 3 rfl (by decide) wd_433 rfl rfl rfl rfl (Nat.le_of_ble_eq_true rfl) dc_Resampler_init_12 (fun H locs hP hD hS => ?_)
  have hP : va_P D fq_cl ([(h, .inr (5, [.int 0, .int 0, .int 0, .ref q1, .int 0])), (q1, .inr (1, [.ref q2, .int 0])), (q2, .inl (cI, 8, .inl (fun _ => 0)))]) _ := hP
  have hD : va_D A ([(h, .inr (5, [.int 0, .int 0, .int 0, .ref q1, .int 0])), (q1, .inr (1, [.ref q2, .int 0])), (q2, .inl (cI, 8, .inl (fun _ => 0)))]) := hD
  refine lv_iload_n K.1 K.2.1 dc_Resampler_init_15 rfl (lv_at hl 1 rfl) ?_
  refine lv_iload_n K.1 K.2.1 dc_Resampler_init_16 rfl (lv_at hl 2 rfl) ?_
  have hc := fq_cut.of (wc := []) hP hD hS hA [] (by decide) rfl
  refine fq_ci (wr := [(h, .inr (5, [.int 0, .int 0, .int 0, .ref q1, .int 0])), (q1, .inr (1, [.ref q2, .int 0])), (q2, .inl (cI, 8, .inl (fun _ => 0)))]) (fq_rS K hK hZ hS hc (ct_Resampler_commonDivisor l D cI cO tE a b ha hb _) yk_Resampler_commonDivisor wd_427 wd_426 ⟨⟨rfl, rfl⟩, ⟨Nat.le_of_ble_eq_true rfl, Nat.le_of_ble_eq_true rfl⟩, ⟨Nat.le_of_ble_eq_true rfl, Nat.le_of_ble_eq_true rfl⟩⟩ hl.1 rfl (Nat.le_of_ble_eq_true rfl) dc_Resampler_init_17) hP hD hS hc [] [0, 1, 2] rfl rfl (by decide) (by decide) (fun r1 w H locs hw3 hP hD hS => ?_)
  obtain ⟨rfl, rfl⟩ := hw3
  have hP : va_P D fq_cl ([(h, .inr (5, [.int 0, .int 0, .int 0, .ref q1, .int 0])), (q1, .inr (1, [.ref q2, .int 0])), (q2, .inl (cI, 8, .inl (fun _ => 0)))]) _ := hP
  have hD : va_D A ([(h, .inr (5, [.int 0, .int 0, .int 0, .ref q1, .int 0])), (q1, .inr (1, [.ref q2, .int 0])), (q2, .inl (cI, 8, .inl (fun _ => 0)))]) := hD
  refine lv_istore_n K.1 K.2.1 dc_Resampler_init_20 rfl hl (by decide) rfl (fun ls hl => ?_)
  have hl : lv_has ls 4 [(3, .int (nI (rs_g a b))), (0, .ref h), (1, .int (nI a)), (2, .int (nI b))] := hl
  refine lv_aload_n K.1 K.2.1 dc_Resampler_init_21 rfl (lv_at hl 1 rfl) ?_
  refine lv_iload_n K.1 K.2.1 dc_Resampler_init_22 rfl (lv_at hl 2 rfl) ?_
  refine lv_iload_n K.1 K.2.1 dc_Resampler_init_23 rfl (lv_at hl 0 rfl) ?_
  refine lv_idiv K.1 K.2.1 dc_Resampler_init_24 (nI_ne0 (by omega) (by omega)) ?_
  refine fq_asi (y := nI (a / rs_g a b)) (pk_div (by omega) (by omega) (by omega)) ?_
  refine fq_putF K hK cl_Resampler hP hD hS hin 0 0 rfl (by decide) wd_430 rfl rfl rfl rfl (Nat.le_of_ble_eq_true rfl) dc_Resampler_init_25 (fun H locs hP hD hS => ?_)
  have hP : va_P D fq_cl ([(h, .inr (5, [.int (nI (a / rs_g a b)), .int 0, .int 0, .ref q1, .int 0])), (q1, .inr (1, [.ref q2, .int 0])), (q2, .inl (cI, 8, .inl (fun _ => 0)))]) _ := hP
  have hD : va_D A ([(h, .inr (5, [.int (nI (a / rs_g a b)), .int 0, .int 0, .ref q1, .int 0])), (q1, .inr (1, [.ref q2, .int 0])), (q2, .inl (cI, 8, .inl (fun _ => 0)))]) := hD
  refine lv_aload_n K.1 K.2.1 dc_Resampler_init_28 rfl (lv_at hl 1 rfl) ?_
  refine lv_iload_n K.1 K.2.1 dc_Resampler_init_29 rfl (lv_at hl 3 rfl) ?_
  refine lv_iload_n K.1 K.2.1 dc_Resampler_init_30 rfl (lv_at hl 0 rfl) ?_
  refine lv_idiv K.1 K.2.1 dc_Resampler_init_31 (nI_ne0 (by omega) (by omega)) ?_
  refine fq_asi (y := nI (b / rs_g a b)) (pk_div (by omega) (by omega) (by omega)) ?_
  refine fq_putF K hK cl_Resampler hP hD hS hin 0 1 rfl (by decide) wd_431 rfl rfl rfl rfl (Nat.le_of_ble_eq_true rfl) dc_Resampler_init_32 (fun H locs hP hD hS => ?_)
  have hP : va_P D fq_cl ([(h, .inr (5, [.int (nI (a / rs_g a b)), .int (nI (b / rs_g a b)), .int 0, .ref q1, .int 0])), (q1, .inr (1, [.ref q2, .int 0])), (q2, .inl (cI, 8, .inl (fun _ => 0)))]) _ := hP
  have hD : va_D A ([(h, .inr (5, [.int (nI (a / rs_g a b)), .int (nI (b / rs_g a b)), .int 0, .ref q1, .int 0])), (q1, .inr (1, [.ref q2, .int 0])), (q2, .inl (cI, 8, .inl (fun _ => 0)))]) := hD
  refine lv_aload_n K.1 K.2.1 dc_Resampler_init_35 rfl (lv_at hl 1 rfl) ?_
  refine lv_aload_n K.1 K.2.1 dc_Resampler_init_36 rfl (lv_at hl 1 rfl) ?_
  refine fq_get K hK cl_Resampler hP 0 0 rfl (by decide) wd_430 rfl dc_Resampler_init_37 ?_
  refine lv_aload_n K.1 K.2.1 dc_Resampler_init_40 rfl (lv_at hl 1 rfl) ?_
  refine fq_get K hK cl_Resampler hP 0 1 rfl (by decide) wd_431 rfl dc_Resampler_init_41 ?_
  refine va_mmax K.1 K.2.1 (K.2.2.1.trans hl.1.symm) K.2.2.2.1 (K.2.2.2.2 _ wd_429) (K.2.2.2.2 _ wd_179) (K.2.2.2.2 _ wd_35) (K.2.2.2.2 _ wd_180) (Nat.le_of_ble_eq_true rfl) (Nat.le_of_ble_eq_true rfl) (Nat.le_of_ble_eq_true rfl) (Nat.le_of_ble_eq_true rfl) dc_Resampler_init_44 ?_
  refine fq_asi (y := nI (rs_r (a / rs_g a b) (b / rs_g a b))) (rs_mx hg.2.2.1 hg.2.2.2) ?_
  refine fq_putF K hK cl_Resampler hP hD hS hin 0 2 rfl (by decide) wd_432 rfl rfl rfl rfl (Nat.le_of_ble_eq_true rfl) dc_Resampler_init_47 (fun H locs hP hD hS => ?_)
  have hP : va_P D fq_cl ([(h, .inr (5, [.int (nI (a / rs_g a b)), .int (nI (b / rs_g a b)), .int (nI (rs_r (a / rs_g a b) (b / rs_g a b))), .ref q1, .int 0])), (q1, .inr (1, [.ref q2, .int 0])), (q2, .inl (cI, 8, .inl (fun _ => 0)))]) _ := hP
  have hD : va_D A ([(h, .inr (5, [.int (nI (a / rs_g a b)), .int (nI (b / rs_g a b)), .int (nI (rs_r (a / rs_g a b) (b / rs_g a b))), .ref q1, .int 0])), (q1, .inr (1, [.ref q2, .int 0])), (q2, .inl (cI, 8, .inl (fun _ => 0)))]) := hD
  exact fq_retv K hret hlk hS hP hD ⟨_, _, _, _, _, by rw [Nat.zero_mul]; rfl, rs_new hg⟩ dc_Resampler_init_50 (Nat.le_of_ble_eq_true rfl) (Nat.le_of_ble_eq_true rfl)
set_option maxHeartbeats 4000000 in
set_option maxRecDepth 100000 in
theorem ct_Resampler_dueUpTo (l : Launch) (D : va_G) (cI cO : ClassId) (tE : Nat) (h u d m hr : Nat) (t : Nat) (hd : 1 ≤ d ∧ d ≤ 4) (hm : m < 300000) (ht : t < 100000000) (sz : Nat) : Met l my_Resampler_dueUpTo (fq_w my_Resampler_dueUpTo cb_Resampler_dueUpTo 2 (some .int)) ({ frames := 0, cells := 0, slots := 0, locals := 0 }) (va_Pc ([.ref h, .int (nI t)]) (fq_Pre D cI cO tE sz ([(h, .inr (5, [.int (nI u), .int (nI d), .int (nI (rs_r u d)), .ref hr, .int (nI (m * d))]))]))) (va_Qi (S := va_W) (fun r w => w = [(h, .inr (5, [.int (nI u), .int (nI d), .int (nI (rs_r u d)), .ref hr, .int (nI (m * d))]))] ∧ r = nI (t / d + 1 - m)) (fq_Bw D (va_A ([(h, .inr (5, [.int (nI u), .int (nI d), .int (nI (rs_r u d)), .ref hr, .int (nI (m * d))]))]) sz)) (va_A ([(h, .inr (5, [.int (nI u), .int (nI d), .int (nI (rs_r u d)), .ref hr, .int (nI (m * d))]))]) sz)) (0) (0) (va_A ([(h, .inr (5, [.int (nI u), .int (nI d), .int (nI (rs_r u d)), .ref hr, .int (nI (m * d))]))]) sz) := by
  refine fq_open (by decide +kernel) (Nat.le_of_ble_eq_true rfl) ?_
  intro pg ev s mt below meth cd ls K hret hlk hin hK hZ hP hD hA hS hl
  generalize va_A ([(h, .inr (5, [.int (nI u), .int (nI d), .int (nI (rs_r u d)), .ref hr, .int (nI (m * d))]))]) sz = A at hZ hD hA hS ⊢
  have K : fq_Ctx pg mt cd cb_Resampler_dueUpTo 2 s _ cn_Resampler := K
  have hl : lv_has ls 2 [(0, .ref h), (1, .int (nI t))] := hl
  have hmd : m * d ≤ 300000 * 4 := Nat.mul_le_mul (by omega) hd.2
  refine lv_iload_n K.1 K.2.1 dc_Resampler_dueUpTo_0 rfl (lv_at hl 1 rfl) ?_
  refine lv_aload_n K.1 K.2.1 dc_Resampler_dueUpTo_1 rfl (lv_at hl 0 rfl) ?_
  refine fq_get K hK cl_Resampler hP 0 4 rfl (by decide) wd_434 rfl dc_Resampler_dueUpTo_2 ?_
  refine lv_icmp_ge (tgt := 12) K.1 K.2.1 dc_Resampler_dueUpTo_5 rfl (fun b5 => ?_) (fun b5 => ?_)
  · skip
    have hle : m * d ≤ t := (nI_leI (by omega) (by omega)).mp b5
    refine lv_iload_n K.1 K.2.1 dc_Resampler_dueUpTo_12 rfl (lv_at hl 1 rfl) ?_
    refine lv_aload_n K.1 K.2.1 dc_Resampler_dueUpTo_13 rfl (lv_at hl 0 rfl) ?_
    refine fq_get K hK cl_Resampler hP 0 4 rfl (by decide) wd_434 rfl dc_Resampler_dueUpTo_14 ?_
    refine lv_isub K.1 K.2.1 dc_Resampler_dueUpTo_17 ?_
    refine fq_asi (y := nI (t - m * d)) (pk_sub hle) ?_
    refine lv_aload_n K.1 K.2.1 dc_Resampler_dueUpTo_18 rfl (lv_at hl 0 rfl) ?_
    refine fq_get K hK cl_Resampler hP 0 1 rfl (by decide) wd_431 rfl dc_Resampler_dueUpTo_19 ?_
    refine lv_idiv K.1 K.2.1 dc_Resampler_dueUpTo_22 (nI_ne0 (by omega) (by omega)) ?_
    refine fq_asi (y := nI ((t - m * d) / d)) (pk_div (by omega) (by omega) (by omega)) ?_
    refine lv_iconst (v := 1) K.1 K.2.1 dc_Resampler_dueUpTo_23 (by decide) ?_
    refine lv_iadd K.1 K.2.1 dc_Resampler_dueUpTo_24 ?_
    refine fq_asi (y := nI ((t - m * d) / d + 1)) (nI_1 _) ?_
    exact fq_reti K hret hlk hS hP hD ⟨rfl, congrArg nI (rs_due1 hd.1 hle)⟩ dc_Resampler_dueUpTo_25 (Nat.le_of_ble_eq_true rfl) (Nat.le_of_ble_eq_true rfl)
  · skip
    have hle : ¬ m * d ≤ t := fun z => b5 ((nI_leI (by omega) (by omega)).mpr z)
    refine lv_iconst (v := 0) K.1 K.2.1 dc_Resampler_dueUpTo_8 (by decide) ?_
    refine lv_goto (tgt := 25) K.1 K.2.1 dc_Resampler_dueUpTo_9 rfl ?_
    exact fq_reti K hret hlk hS hP hD ⟨rfl, rs_due0 hd.1 hle⟩ dc_Resampler_dueUpTo_25 (Nat.le_of_ble_eq_true rfl) (Nat.le_of_ble_eq_true rfl)
set_option maxHeartbeats 4000000 in
set_option maxRecDepth 100000 in
theorem ct_Resampler_take (l : Launch) (D : va_G) (cI cO : ClassId) (tE : Nat) (h u d hr ha : Nat) (f : Nat → Int32) (sp : fm_S) (xs : List Int) (m : Nat) (hrs : rs_ok u d f sp xs m) (x : Int32) (hx : fm_in x.toInt) (hlt : xs.length < 1000000) (sz : Nat) : Met l my_Resampler_take (fq_w my_Resampler_take cb_Resampler_take 2 (some .int)) ({ frames := 1, cells := 0, slots := 0, locals := 21 }) (va_Pc ([.ref h, .int x]) (fq_Pre D cI cO tE sz ([(h, .inr (5, [.int (nI u), .int (nI d), .int (nI (rs_r u d)), .ref hr, .int (nI (m * d))])), (hr, .inr (1, [.ref ha, .int (nI xs.length)])), (ha, .inl (cI, 8, .inl f))]))) (va_Qi (S := va_W) (fun r w => r = nI (fm_m sp false (xs.length + 1) - m) ∧ sg_res cI h sp (xs ++ [x.toInt]) m w) (fq_Bw D (va_A ([(h, .inr (5, [.int (nI u), .int (nI d), .int (nI (rs_r u d)), .ref hr, .int (nI (m * d))])), (hr, .inr (1, [.ref ha, .int (nI xs.length)])), (ha, .inl (cI, 8, .inl f))]) sz)) (va_A ([(h, .inr (5, [.int (nI u), .int (nI d), .int (nI (rs_r u d)), .ref hr, .int (nI (m * d))])), (hr, .inr (1, [.ref ha, .int (nI xs.length)])), (ha, .inl (cI, 8, .inl f))]) sz)) (0) (0) (va_A ([(h, .inr (5, [.int (nI u), .int (nI d), .int (nI (rs_r u d)), .ref hr, .int (nI (m * d))])), (hr, .inr (1, [.ref ha, .int (nI xs.length)])), (ha, .inl (cI, 8, .inl f))]) sz) := by
  refine fq_open (by decide +kernel) (Nat.le_of_ble_eq_true rfl) ?_
  intro pg ev s mt below meth cd ls K hret hlk hin hK hZ hP hD hA hS hl
  generalize va_A ([(h, .inr (5, [.int (nI u), .int (nI d), .int (nI (rs_r u d)), .ref hr, .int (nI (m * d))])), (hr, .inr (1, [.ref ha, .int (nI xs.length)])), (ha, .inl (cI, 8, .inl f))]) sz = A at hZ hD hA hS ⊢
  have K : fq_Ctx pg mt cd cb_Resampler_take 2 s _ cn_Resampler := K
  have hl : lv_has ls 2 [(0, .ref h), (1, .int x)] := hl
  have hud := rs_ud hrs
  have hmb := hrs.2.2.2.2
  have hxl : (xs ++ [x.toInt]).length = xs.length + 1 := by simp
  have hnu : (xs.length + 1) * u ≤ 1000000 * 4 := Nat.mul_le_mul (by omega) hud.1.2
  have hnu1 : 1 ≤ (xs.length + 1) * u := Nat.mul_pos (by omega) (by omega)
  refine lv_aload_n K.1 K.2.1 dc_Resampler_take_0 rfl (lv_at hl 0 rfl) ?_
  refine fq_get K hK cl_Resampler hP 0 3 rfl (by decide) wd_433 rfl dc_Resampler_take_1 ?_
  refine lv_iload_n K.1 K.2.1 dc_Resampler_take_4 rfl (lv_at hl 1 rfl) ?_
  have hc := fq_cut.of (wc := [(hr, .inr (1, [.ref ha, .int (nI xs.length)])), (ha, .inl (cI, 8, .inl f))]) hP hD hS hA [1, 2] (by decide) rfl
  refine fq_cv (wr := [(h, .inr (5, [.int (nI u), .int (nI d), .int (nI (rs_r u d)), .ref hr, .int (nI (m * d))]))]) (fq_rV K hK hZ hS hc (ct_Recent_put l D cI cO tE hr ha f xs x (hrs.2.2.2.1) hlt _) yk_Recent_put wd_623 wd_624 wd_622 0 rfl rfl rfl ⟨⟨rfl, rfl⟩, ⟨Nat.le_of_ble_eq_true rfl, Nat.le_of_ble_eq_true rfl⟩, ⟨Nat.le_of_ble_eq_true rfl, Nat.le_of_ble_eq_true rfl⟩⟩ hl.1 rfl (Nat.le_of_ble_eq_true rfl) dc_Resampler_take_5) hP hD hS hc [1, 2] [0] rfl rfl (by decide) (by decide) (fun  w H locs hw1 hP hD hS => ?_)
  obtain ⟨g1, rfl, hrc1⟩ := hw1
  have hP : va_P D fq_cl ([(h, .inr (5, [.int (nI u), .int (nI d), .int (nI (rs_r u d)), .ref hr, .int (nI (m * d))])), (hr, .inr (1, [.ref ha, .int (nI (xs ++ [x.toInt]).length)])), (ha, .inl (cI, 8, .inl g1))]) _ := hP
  have hD : va_D A ([(h, .inr (5, [.int (nI u), .int (nI d), .int (nI (rs_r u d)), .ref hr, .int (nI (m * d))])), (hr, .inr (1, [.ref ha, .int (nI (xs ++ [x.toInt]).length)])), (ha, .inl (cI, 8, .inl g1))]) := hD
  refine lv_aload_n K.1 K.2.1 dc_Resampler_take_8 rfl (lv_at hl 0 rfl) ?_
  refine lv_aload_n K.1 K.2.1 dc_Resampler_take_9 rfl (lv_at hl 0 rfl) ?_
  refine fq_get K hK cl_Resampler hP 0 3 rfl (by decide) wd_433 rfl dc_Resampler_take_10 ?_
  have hc := fq_cut.of (wc := [(hr, .inr (1, [.ref ha, .int (nI (xs ++ [x.toInt]).length)])), (ha, .inl (cI, 8, .inl g1))]) hP hD hS hA [1, 2] (by decide) rfl
  refine fq_ci (wr := [(h, .inr (5, [.int (nI u), .int (nI d), .int (nI (rs_r u d)), .ref hr, .int (nI (m * d))]))]) (fq_rV K hK hZ hS hc (ct_Recent_count l D cI cO tE hr ha g1 (xs ++ [x.toInt]) _) yk_Recent_count wd_627 wd_628 wd_626 0 rfl rfl rfl ⟨⟨rfl, rfl⟩, ⟨Nat.le_of_ble_eq_true rfl, Nat.le_of_ble_eq_true rfl⟩, ⟨Nat.le_of_ble_eq_true rfl, Nat.le_of_ble_eq_true rfl⟩⟩ hl.1 rfl (Nat.le_of_ble_eq_true rfl) dc_Resampler_take_13) hP hD hS hc [1, 2] [0] rfl rfl (by decide) (by decide) (fun r1 w H locs hw2 hP hD hS => ?_)
  obtain ⟨rfl, rfl⟩ := hw2
  have hP : va_P D fq_cl ([(h, .inr (5, [.int (nI u), .int (nI d), .int (nI (rs_r u d)), .ref hr, .int (nI (m * d))])), (hr, .inr (1, [.ref ha, .int (nI (xs ++ [x.toInt]).length)])), (ha, .inl (cI, 8, .inl g1))]) _ := hP
  have hD : va_D A ([(h, .inr (5, [.int (nI u), .int (nI d), .int (nI (rs_r u d)), .ref hr, .int (nI (m * d))])), (hr, .inr (1, [.ref ha, .int (nI (xs ++ [x.toInt]).length)])), (ha, .inl (cI, 8, .inl g1))]) := hD
  refine lv_aload_n K.1 K.2.1 dc_Resampler_take_16 rfl (lv_at hl 0 rfl) ?_
  refine fq_get K hK cl_Resampler hP 0 0 rfl (by decide) wd_430 rfl dc_Resampler_take_17 ?_
  refine lv_imul K.1 K.2.1 dc_Resampler_take_20 ?_
  refine fq_asi (y := nI ((xs.length + 1) * u)) (by rw [hxl]; exact pk_mul _ _) ?_
  refine lv_iconst (v := 1) K.1 K.2.1 dc_Resampler_take_21 (by decide) ?_
  refine lv_isub K.1 K.2.1 dc_Resampler_take_22 ?_
  refine fq_asi (y := nI ((xs.length + 1) * u - 1)) (pk_sub (b := 1) hnu1) ?_
  have hc := fq_cut.of (wc := [(h, .inr (5, [.int (nI u), .int (nI d), .int (nI (rs_r u d)), .ref hr, .int (nI (m * d))]))]) hP hD hS hA [0] (by decide) rfl
  refine fq_ci (wr := [(hr, .inr (1, [.ref ha, .int (nI (xs ++ [x.toInt]).length)])), (ha, .inl (cI, 8, .inl g1))]) (fq_rV K hK hZ hS hc (ct_Resampler_dueUpTo l D cI cO tE h u d m hr ((xs.length + 1) * u - 1) hud.2 hmb (by omega) _) yk_Resampler_dueUpTo wd_632 wd_9 wd_630 0 rfl rfl rfl ⟨⟨rfl, rfl⟩, ⟨Nat.le_of_ble_eq_true rfl, Nat.le_of_ble_eq_true rfl⟩, ⟨Nat.le_of_ble_eq_true rfl, Nat.le_of_ble_eq_true rfl⟩⟩ hl.1 rfl (Nat.le_of_ble_eq_true rfl) dc_Resampler_take_23) hP hD hS hc [0] [1, 2] rfl rfl (by decide) (by decide) (fun r2 w H locs hw3 hP hD hS => ?_)
  obtain ⟨rfl, rfl⟩ := hw3
  have hP : va_P D fq_cl ([(hr, .inr (1, [.ref ha, .int (nI (xs ++ [x.toInt]).length)])), (ha, .inl (cI, 8, .inl g1)), (h, .inr (5, [.int (nI u), .int (nI d), .int (nI (rs_r u d)), .ref hr, .int (nI (m * d))]))]) _ := hP
  have hD : va_D A ([(hr, .inr (1, [.ref ha, .int (nI (xs ++ [x.toInt]).length)])), (ha, .inl (cI, 8, .inl g1)), (h, .inr (5, [.int (nI u), .int (nI d), .int (nI (rs_r u d)), .ref hr, .int (nI (m * d))]))]) := hD
  have hP := hP.sub (ws' := [(h, .inr (5, [.int (nI u), .int (nI d), .int (nI (rs_r u d)), .ref hr, .int (nI (m * d))])), (hr, .inr (1, [.ref ha, .int (nI (xs ++ [x.toInt]).length)])), (ha, .inl (cI, 8, .inl g1))]) [2, 0, 1] rfl
  have hD := hD.sub (ws' := [(h, .inr (5, [.int (nI u), .int (nI d), .int (nI (rs_r u d)), .ref hr, .int (nI (m * d))])), (hr, .inr (1, [.ref ha, .int (nI (xs ++ [x.toInt]).length)])), (ha, .inl (cI, 8, .inl g1))]) [2, 0, 1] (by decide) rfl
  exact fq_reti K hret hlk hS hP hD ⟨congrArg nI (rs_take1 hrs hnu1), _, _, _, _, _, rfl, rs_tk hrs hx hrc1⟩ dc_Resampler_take_26 (Nat.le_of_ble_eq_true rfl) (Nat.le_of_ble_eq_true rfl)
set_option maxHeartbeats 4000000 in
set_option maxRecDepth 100000 in
theorem ct_Resampler_finish (l : Launch) (D : va_G) (cI cO : ClassId) (tE : Nat) (h u d hr ha : Nat) (f : Nat → Int32) (sp : fm_S) (xs : List Int) (m : Nat) (hrs : rs_ok u d f sp xs m)  (sz : Nat) : Met l my_Resampler_finish (fq_w my_Resampler_finish cb_Resampler_finish 1 (some .int)) ({ frames := 1, cells := 0, slots := 0, locals := 21 }) (va_Pc ([.ref h]) (fq_Pre D cI cO tE sz ([(h, .inr (5, [.int (nI u), .int (nI d), .int (nI (rs_r u d)), .ref hr, .int (nI (m * d))])), (hr, .inr (1, [.ref ha, .int (nI xs.length)])), (ha, .inl (cI, 8, .inl f))]))) (va_Qi (S := va_W) (fun r w => r = nI (fm_m sp true xs.length - m) ∧ sg_res cI h sp xs m w) (fq_Bw D (va_A ([(h, .inr (5, [.int (nI u), .int (nI d), .int (nI (rs_r u d)), .ref hr, .int (nI (m * d))])), (hr, .inr (1, [.ref ha, .int (nI xs.length)])), (ha, .inl (cI, 8, .inl f))]) sz)) (va_A ([(h, .inr (5, [.int (nI u), .int (nI d), .int (nI (rs_r u d)), .ref hr, .int (nI (m * d))])), (hr, .inr (1, [.ref ha, .int (nI xs.length)])), (ha, .inl (cI, 8, .inl f))]) sz)) (0) (0) (va_A ([(h, .inr (5, [.int (nI u), .int (nI d), .int (nI (rs_r u d)), .ref hr, .int (nI (m * d))])), (hr, .inr (1, [.ref ha, .int (nI xs.length)])), (ha, .inl (cI, 8, .inl f))]) sz) := by
  refine fq_open (by decide +kernel) (Nat.le_of_ble_eq_true rfl) ?_
  intro pg ev s mt below meth cd ls K hret hlk hin hK hZ hP hD hA hS hl
  generalize va_A ([(h, .inr (5, [.int (nI u), .int (nI d), .int (nI (rs_r u d)), .ref hr, .int (nI (m * d))])), (hr, .inr (1, [.ref ha, .int (nI xs.length)])), (ha, .inl (cI, 8, .inl f))]) sz = A at hZ hD hA hS ⊢
  have K : fq_Ctx pg mt cd cb_Resampler_finish 1 s _ cn_Resampler := K
  have hl : lv_has ls 1 [(0, .ref h)] := hl
  have hud := rs_ud hrs
  have hmb := hrs.2.2.2.2
  have hxn := hrs.2.2.2.1.1
  have hnu : xs.length * u ≤ 2000000 * 4 := Nat.mul_le_mul (by omega) hud.1.2
  have hrr := rs_rb hud.1 hud.2
  refine lv_aload_n K.1 K.2.1 dc_Resampler_finish_0 rfl (lv_at hl 0 rfl) ?_
  refine fq_get K hK cl_Resampler hP 0 3 rfl (by decide) wd_433 rfl dc_Resampler_finish_1 ?_
  have hc := fq_cut.of (wc := [(hr, .inr (1, [.ref ha, .int (nI xs.length)])), (ha, .inl (cI, 8, .inl f))]) hP hD hS hA [1, 2] (by decide) rfl
  refine fq_ci (wr := [(h, .inr (5, [.int (nI u), .int (nI d), .int (nI (rs_r u d)), .ref hr, .int (nI (m * d))]))]) (fq_rV K hK hZ hS hc (ct_Recent_count l D cI cO tE hr ha f xs _) yk_Recent_count wd_627 wd_628 wd_626 0 rfl rfl rfl ⟨⟨rfl, rfl⟩, ⟨Nat.le_of_ble_eq_true rfl, Nat.le_of_ble_eq_true rfl⟩, ⟨Nat.le_of_ble_eq_true rfl, Nat.le_of_ble_eq_true rfl⟩⟩ hl.1 rfl (Nat.le_of_ble_eq_true rfl) dc_Resampler_finish_4) hP hD hS hc [1, 2] [0] rfl rfl (by decide) (by decide) (fun r1 w H locs hw1 hP hD hS => ?_)
  obtain ⟨rfl, rfl⟩ := hw1
  have hP : va_P D fq_cl ([(h, .inr (5, [.int (nI u), .int (nI d), .int (nI (rs_r u d)), .ref hr, .int (nI (m * d))])), (hr, .inr (1, [.ref ha, .int (nI xs.length)])), (ha, .inl (cI, 8, .inl f))]) _ := hP
  have hD : va_D A ([(h, .inr (5, [.int (nI u), .int (nI d), .int (nI (rs_r u d)), .ref hr, .int (nI (m * d))])), (hr, .inr (1, [.ref ha, .int (nI xs.length)])), (ha, .inl (cI, 8, .inl f))]) := hD
  refine lv_if_ne (tgt := 14) K.1 K.2.1 dc_Resampler_finish_7 rfl (fun b7 => ?_) (fun b7 => ?_)
  · skip
    have hn0 : 0 < xs.length := Nat.pos_of_ne_zero (fun z => b7 (by rw [z, nI_0]))
    have hnu1 : 1 ≤ xs.length * u := Nat.mul_pos hn0 (by omega)
    refine lv_aload_n K.1 K.2.1 dc_Resampler_finish_14 rfl (lv_at hl 0 rfl) ?_
    refine lv_aload_n K.1 K.2.1 dc_Resampler_finish_15 rfl (lv_at hl 0 rfl) ?_
    refine fq_get K hK cl_Resampler hP 0 3 rfl (by decide) wd_433 rfl dc_Resampler_finish_16 ?_
    have hc := fq_cut.of (wc := [(hr, .inr (1, [.ref ha, .int (nI xs.length)])), (ha, .inl (cI, 8, .inl f))]) hP hD hS hA [1, 2] (by decide) rfl
    refine fq_ci (wr := [(h, .inr (5, [.int (nI u), .int (nI d), .int (nI (rs_r u d)), .ref hr, .int (nI (m * d))]))]) (fq_rV K hK hZ hS hc (ct_Recent_count l D cI cO tE hr ha f xs _) yk_Recent_count wd_627 wd_628 wd_626 0 rfl rfl rfl ⟨⟨rfl, rfl⟩, ⟨Nat.le_of_ble_eq_true rfl, Nat.le_of_ble_eq_true rfl⟩, ⟨Nat.le_of_ble_eq_true rfl, Nat.le_of_ble_eq_true rfl⟩⟩ hl.1 rfl (Nat.le_of_ble_eq_true rfl) dc_Resampler_finish_19) hP hD hS hc [1, 2] [0] rfl rfl (by decide) (by decide) (fun r2 w H locs hw2 hP hD hS => ?_)
    obtain ⟨rfl, rfl⟩ := hw2
    have hP : va_P D fq_cl ([(h, .inr (5, [.int (nI u), .int (nI d), .int (nI (rs_r u d)), .ref hr, .int (nI (m * d))])), (hr, .inr (1, [.ref ha, .int (nI xs.length)])), (ha, .inl (cI, 8, .inl f))]) _ := hP
    have hD : va_D A ([(h, .inr (5, [.int (nI u), .int (nI d), .int (nI (rs_r u d)), .ref hr, .int (nI (m * d))])), (hr, .inr (1, [.ref ha, .int (nI xs.length)])), (ha, .inl (cI, 8, .inl f))]) := hD
    refine lv_aload_n K.1 K.2.1 dc_Resampler_finish_22 rfl (lv_at hl 0 rfl) ?_
    refine fq_get K hK cl_Resampler hP 0 0 rfl (by decide) wd_430 rfl dc_Resampler_finish_23 ?_
    refine lv_imul K.1 K.2.1 dc_Resampler_finish_26 ?_
    refine fq_asi (y := nI (xs.length * u)) (pk_mul _ _) ?_
    refine lv_iconst (v := 2) K.1 K.2.1 dc_Resampler_finish_27 (by decide) ?_
    refine lv_aload_n K.1 K.2.1 dc_Resampler_finish_28 rfl (lv_at hl 0 rfl) ?_
    refine fq_get K hK cl_Resampler hP 0 2 rfl (by decide) wd_432 rfl dc_Resampler_finish_29 ?_
    refine lv_imul K.1 K.2.1 dc_Resampler_finish_32 ?_
    refine fq_asi (y := nI (2 * rs_r u d)) (pk_mul 2 _) ?_
    refine lv_iadd K.1 K.2.1 dc_Resampler_finish_33 ?_
    refine fq_asi (y := nI (xs.length * u + 2 * rs_r u d)) (nI_add _ _) ?_
    refine lv_iconst (v := 3) K.1 K.2.1 dc_Resampler_finish_34 (by decide) ?_
    refine lv_isub K.1 K.2.1 dc_Resampler_finish_35 ?_
    refine fq_asi (y := nI (xs.length * u + 2 * rs_r u d - 3)) (pk_sub (b := 3) (by omega)) ?_
    have hc := fq_cut.of (wc := [(h, .inr (5, [.int (nI u), .int (nI d), .int (nI (rs_r u d)), .ref hr, .int (nI (m * d))]))]) hP hD hS hA [0] (by decide) rfl
    refine fq_ci (wr := [(hr, .inr (1, [.ref ha, .int (nI xs.length)])), (ha, .inl (cI, 8, .inl f))]) (fq_rV K hK hZ hS hc (ct_Resampler_dueUpTo l D cI cO tE h u d m hr (xs.length * u + 2 * rs_r u d - 3) hud.2 hmb (by omega) _) yk_Resampler_dueUpTo wd_632 wd_9 wd_630 0 rfl rfl rfl ⟨⟨rfl, rfl⟩, ⟨Nat.le_of_ble_eq_true rfl, Nat.le_of_ble_eq_true rfl⟩, ⟨Nat.le_of_ble_eq_true rfl, Nat.le_of_ble_eq_true rfl⟩⟩ hl.1 rfl (Nat.le_of_ble_eq_true rfl) dc_Resampler_finish_36) hP hD hS hc [0] [1, 2] rfl rfl (by decide) (by decide) (fun r3 w H locs hw3 hP hD hS => ?_)
    obtain ⟨rfl, rfl⟩ := hw3
    have hP : va_P D fq_cl ([(hr, .inr (1, [.ref ha, .int (nI xs.length)])), (ha, .inl (cI, 8, .inl f)), (h, .inr (5, [.int (nI u), .int (nI d), .int (nI (rs_r u d)), .ref hr, .int (nI (m * d))]))]) _ := hP
    have hD : va_D A ([(hr, .inr (1, [.ref ha, .int (nI xs.length)])), (ha, .inl (cI, 8, .inl f)), (h, .inr (5, [.int (nI u), .int (nI d), .int (nI (rs_r u d)), .ref hr, .int (nI (m * d))]))]) := hD
    have hP := hP.sub (ws' := [(h, .inr (5, [.int (nI u), .int (nI d), .int (nI (rs_r u d)), .ref hr, .int (nI (m * d))])), (hr, .inr (1, [.ref ha, .int (nI xs.length)])), (ha, .inl (cI, 8, .inl f))]) [2, 0, 1] rfl
    have hD := hD.sub (ws' := [(h, .inr (5, [.int (nI u), .int (nI d), .int (nI (rs_r u d)), .ref hr, .int (nI (m * d))])), (hr, .inr (1, [.ref ha, .int (nI xs.length)])), (ha, .inl (cI, 8, .inl f))]) [2, 0, 1] (by decide) rfl
    exact fq_reti K hret hlk hS hP hD ⟨congrArg nI (rs_fin1 hrs hn0), _, _, _, _, _, rfl, hrs⟩ dc_Resampler_finish_39 (Nat.le_of_ble_eq_true rfl) (Nat.le_of_ble_eq_true rfl)
  · skip
    have hn0 : xs.length = 0 := (nI_eq (by omega) (by decide)).mp (b7.trans nI_0.symm)
    refine lv_iconst (v := 0) K.1 K.2.1 dc_Resampler_finish_10 (by decide) ?_
    refine lv_goto (tgt := 39) K.1 K.2.1 dc_Resampler_finish_11 rfl ?_
    exact fq_reti K hret hlk hS hP hD ⟨rs_fin0 hrs hn0, _, _, _, _, _, rfl, hrs⟩ dc_Resampler_finish_39 (Nat.le_of_ble_eq_true rfl) (Nat.le_of_ble_eq_true rfl)
set_option maxHeartbeats 4000000 in
set_option maxRecDepth 100000 in
theorem ct_Resampler_make (l : Launch) (D : va_G) (cI cO : ClassId) (tE : Nat) (h u d hr ha : Nat) (f : Nat → Int32) (sp : fm_S) (xs : List Int) (m : Nat) (hrs : rs_ok u d f sp xs m) (hm : xs.length * u ≤ m * d + u) (hmx : m + 1 < 300000) (sz : Nat) : Met l my_Resampler_make (fq_w my_Resampler_make cb_Resampler_make 6 (some .int)) ({ frames := 2, cells := 0, slots := 0, locals := 38 }) (va_Pc ([.ref h]) (fq_Pre D cI cO tE sz ([(h, .inr (5, [.int (nI u), .int (nI d), .int (nI (rs_r u d)), .ref hr, .int (nI (m * d))])), (hr, .inr (1, [.ref ha, .int (nI xs.length)])), (ha, .inl (cI, 8, .inl f))]))) (va_Qi (S := va_W) (fun r w => r.toInt = fm_y sp xs m ∧ sg_res cI h sp xs (m + 1) w) (fq_Bw D (va_A ([(h, .inr (5, [.int (nI u), .int (nI d), .int (nI (rs_r u d)), .ref hr, .int (nI (m * d))])), (hr, .inr (1, [.ref ha, .int (nI xs.length)])), (ha, .inl (cI, 8, .inl f))]) sz)) (va_A ([(h, .inr (5, [.int (nI u), .int (nI d), .int (nI (rs_r u d)), .ref hr, .int (nI (m * d))])), (hr, .inr (1, [.ref ha, .int (nI xs.length)])), (ha, .inl (cI, 8, .inl f))]) sz)) (0) (0) (va_A ([(h, .inr (5, [.int (nI u), .int (nI d), .int (nI (rs_r u d)), .ref hr, .int (nI (m * d))])), (hr, .inr (1, [.ref ha, .int (nI xs.length)])), (ha, .inl (cI, 8, .inl f))]) sz) := by
  refine fq_open (by decide +kernel) (Nat.le_of_ble_eq_true rfl) ?_
  intro pg ev s mt below meth cd ls K hret hlk hin hK hZ hP hD hA hS hl
  generalize va_A ([(h, .inr (5, [.int (nI u), .int (nI d), .int (nI (rs_r u d)), .ref hr, .int (nI (m * d))])), (hr, .inr (1, [.ref ha, .int (nI xs.length)])), (ha, .inl (cI, 8, .inl f))]) sz = A at hZ hD hA hS ⊢
  have K : fq_Ctx pg mt cd cb_Resampler_make 6 s _ cn_Resampler := K
  have hl : lv_has ls 6 [(0, .ref h)] := hl
  have hud := rs_ud hrs
  have hmb := hrs.2.2.2.2
  have hrr := rs_rb hud.1 hud.2
  have hmd : m * d ≤ 300000 * 4 := Nat.mul_le_mul (by omega) hud.2.2
  refine lv_lconst (v := 0) K.1 K.2.1 dc_Resampler_make_0 (by decide) ?_
  refine lv_lstore_n K.1 K.2.1 dc_Resampler_make_1 rfl hl (by decide) rfl (fun ls hl => ?_)
  have hl : lv_has ls 6 [(1, .long 0), (0, .ref h)] := hl
  refine lv_iconst (v := 0) K.1 K.2.1 dc_Resampler_make_2 (by decide) ?_
  refine lv_istore_n K.1 K.2.1 dc_Resampler_make_3 rfl hl (by decide) rfl (fun ls hl => ?_)
  have hl : lv_has ls 6 [(3, .int 0), (1, .long 0), (0, .ref h)] := hl
  refine fq_lp (σ := Nat × Int64) (fun x => 2 * rs_r u d - 1 - x.1) (fun x H locs ls => (x.1 ≤ 2 * rs_r u d - 1 ∧ x.2.toInt = fm_sum (fun i => fm_far (rs_r u d : Int) i * fm_u (u : Int) xs ((m : Int) * d - i)) x.1) ∧ lv_has ls 6 [(0, .ref h), (1, .long x.2), (3, .int (nI x.1))] ∧ va_P D fq_cl ([(h, .inr (5, [.int (nI u), .int (nI d), .int (nI (rs_r u d)), .ref hr, .int (nI (m * d))])), (hr, .inr (1, [.ref ha, .int (nI xs.length)])), (ha, .inl (cI, 8, .inl f))]) H ∧ va_D A ([(h, .inr (5, [.int (nI u), .int (nI d), .int (nI (rs_r u d)), .ref hr, .int (nI (m * d))])), (hr, .inr (1, [.ref ha, .int (nI xs.length)])), (ha, .inl (cI, 8, .inl f))]) ∧ va_S A s.heap H locs) ?_ (0, 0) _ _ _ ⟨⟨Nat.zero_le _, rfl⟩, lv_sub hl [2, 1, 0] rfl, hP, hD, hS⟩
  rintro ⟨k, v⟩ H locs ls ⟨hI4, hl, hP, hD, hS⟩ ih4
  have hI4 : k ≤ 2 * rs_r u d - 1 ∧ v.toInt = fm_sum (fun i => fm_far (rs_r u d : Int) i * fm_u (u : Int) xs ((m : Int) * d - i)) k := hI4
  have hl : lv_has ls 6 [(0, .ref h), (1, .long v), (3, .int (nI k))] := hl
  have hP : va_P D fq_cl ([(h, .inr (5, [.int (nI u), .int (nI d), .int (nI (rs_r u d)), .ref hr, .int (nI (m * d))])), (hr, .inr (1, [.ref ha, .int (nI xs.length)])), (ha, .inl (cI, 8, .inl f))]) _ := hP
  have hD : va_D A ([(h, .inr (5, [.int (nI u), .int (nI d), .int (nI (rs_r u d)), .ref hr, .int (nI (m * d))])), (hr, .inr (1, [.ref ha, .int (nI xs.length)])), (ha, .inl (cI, 8, .inl f))]) := hD
  refine lv_iload_n K.1 K.2.1 dc_Resampler_make_4 rfl (lv_at hl 2 rfl) ?_
  refine lv_iconst (v := 2) K.1 K.2.1 dc_Resampler_make_5 (by decide) ?_
  refine lv_aload_n K.1 K.2.1 dc_Resampler_make_6 rfl (lv_at hl 0 rfl) ?_
  refine fq_get K hK cl_Resampler hP 0 2 rfl (by decide) wd_432 rfl dc_Resampler_make_7 ?_
  refine lv_imul K.1 K.2.1 dc_Resampler_make_10 ?_
  refine fq_asi (y := nI (2 * rs_r u d)) (pk_mul 2 _) ?_
  refine lv_iconst (v := 2) K.1 K.2.1 dc_Resampler_make_11 (by decide) ?_
  refine lv_isub K.1 K.2.1 dc_Resampler_make_12 ?_
  refine fq_asi (y := nI (2 * rs_r u d - 2)) (pk_sub (b := 2) (by omega)) ?_
  refine lv_icmp_gt (tgt := 84) K.1 K.2.1 dc_Resampler_make_13 rfl (fun b13 => ?_) (fun b13 => ?_)
  · skip
    have hk : k = 2 * rs_r u d - 1 := by rw [nI_ltI (by omega) (by omega)] at b13; omega
    refine lv_aload_n K.1 K.2.1 dc_Resampler_make_84 rfl (lv_at hl 0 rfl) ?_
    refine lv_dup K.1 K.2.1 dc_Resampler_make_85 rfl ?_
    refine fq_get K hK cl_Resampler hP 0 4 rfl (by decide) wd_434 rfl dc_Resampler_make_86 ?_
    refine lv_aload_n K.1 K.2.1 dc_Resampler_make_89 rfl (lv_at hl 0 rfl) ?_
    refine fq_get K hK cl_Resampler hP 0 1 rfl (by decide) wd_431 rfl dc_Resampler_make_90 ?_
    refine lv_iadd K.1 K.2.1 dc_Resampler_make_93 ?_
    refine fq_asi (y := nI ((m + 1) * d)) (by rw [nI_add, Nat.succ_mul]) ?_
    refine fq_put K hK cl_Resampler hP hD hS 0 4 rfl (by decide) wd_434 rfl rfl rfl (Nat.le_of_ble_eq_true rfl) dc_Resampler_make_94 (fun H locs hP hD hS => ?_)
    have hP : va_P D fq_cl ([(h, .inr (5, [.int (nI u), .int (nI d), .int (nI (rs_r u d)), .ref hr, .int (nI ((m + 1) * d))])), (hr, .inr (1, [.ref ha, .int (nI xs.length)])), (ha, .inl (cI, 8, .inl f))]) _ := hP
    have hD : va_D A ([(h, .inr (5, [.int (nI u), .int (nI d), .int (nI (rs_r u d)), .ref hr, .int (nI ((m + 1) * d))])), (hr, .inr (1, [.ref ha, .int (nI xs.length)])), (ha, .inl (cI, 8, .inl f))]) := hD
    refine lv_aload_n K.1 K.2.1 dc_Resampler_make_97 rfl (lv_at hl 0 rfl) ?_
    refine fq_get K hK cl_Resampler hP 0 0 rfl (by decide) wd_430 rfl dc_Resampler_make_98 ?_
    refine lv_i2l K.1 K.2.1 dc_Resampler_make_101 rfl ?_
    refine lv_lload_n K.1 K.2.1 dc_Resampler_make_102 rfl (lv_at hl 1 rfl) ?_
    refine lv_lmul K.1 K.2.1 dc_Resampler_make_103 ?_
    refine lv_aload_n K.1 K.2.1 dc_Resampler_make_104 rfl (lv_at hl 0 rfl) ?_
    refine fq_get K hK cl_Resampler hP 0 2 rfl (by decide) wd_432 rfl dc_Resampler_make_105 ?_
    refine lv_i2l K.1 K.2.1 dc_Resampler_make_108 rfl ?_
    refine lv_aload_n K.1 K.2.1 dc_Resampler_make_109 rfl (lv_at hl 0 rfl) ?_
    refine fq_get K hK cl_Resampler hP 0 2 rfl (by decide) wd_432 rfl dc_Resampler_make_110 ?_
    refine lv_i2l K.1 K.2.1 dc_Resampler_make_113 rfl ?_
    refine lv_lmul K.1 K.2.1 dc_Resampler_make_114 ?_
    have hc := fq_cut.of (wc := []) hP hD hS hA [] (by decide) rfl
    refine fq_cl_ (wr := [(h, .inr (5, [.int (nI u), .int (nI d), .int (nI (rs_r u d)), .ref hr, .int (nI ((m + 1) * d))])), (hr, .inr (1, [.ref ha, .int (nI xs.length)])), (ha, .inl (cI, 8, .inl f))]) (fq_rS K hK hZ hS hc (ct_Ma_floorDiv l D cI cO tE (((nI u).toInt64) * v) (((nI (rs_r u d)).toInt64) * ((nI (rs_r u d)).toInt64)) (rs_pos hrr) _) yk_Ma_floorDiv wd_345 wd_674 ⟨⟨rfl, rfl⟩, ⟨Nat.le_of_ble_eq_true rfl, Nat.le_of_ble_eq_true rfl⟩, ⟨Nat.le_of_ble_eq_true rfl, Nat.le_of_ble_eq_true rfl⟩⟩ hl.1 rfl (Nat.le_of_ble_eq_true rfl) dc_Resampler_make_115) hP hD hS hc [] [0, 1, 2] rfl rfl (by decide) (by decide) (fun r1 w H locs hw1 hP hD hS => ?_)
    obtain ⟨rfl, hd1⟩ := hw1
    have hP : va_P D fq_cl ([(h, .inr (5, [.int (nI u), .int (nI d), .int (nI (rs_r u d)), .ref hr, .int (nI ((m + 1) * d))])), (hr, .inr (1, [.ref ha, .int (nI xs.length)])), (ha, .inl (cI, 8, .inl f))]) _ := hP
    have hD : va_D A ([(h, .inr (5, [.int (nI u), .int (nI d), .int (nI (rs_r u d)), .ref hr, .int (nI ((m + 1) * d))])), (hr, .inr (1, [.ref ha, .int (nI xs.length)])), (ha, .inl (cI, 8, .inl f))]) := hD
    have hc := fq_cut.of (wc := []) hP hD hS hA [] (by decide) rfl
    refine fq_ci (wr := [(h, .inr (5, [.int (nI u), .int (nI d), .int (nI (rs_r u d)), .ref hr, .int (nI ((m + 1) * d))])), (hr, .inr (1, [.ref ha, .int (nI xs.length)])), (ha, .inl (cI, 8, .inl f))]) (fq_rSN K hK hZ hS hc (ct_FP_clipped l D cI cO tE r1 _) yk_FP_clipped wd_654 wn_675 ⟨⟨rfl, rfl⟩, ⟨Nat.le_of_ble_eq_true rfl, Nat.le_of_ble_eq_true rfl⟩, ⟨Nat.le_of_ble_eq_true rfl, Nat.le_of_ble_eq_true rfl⟩⟩ hl.1 rfl (Nat.le_of_ble_eq_true rfl) dc_Resampler_make_118) hP hD hS hc [] [0, 1, 2] rfl rfl (by decide) (by decide) (fun r2 w H locs hw2 hP hD hS => ?_)
    obtain ⟨rfl, hd2⟩ := hw2
    have hP : va_P D fq_cl ([(h, .inr (5, [.int (nI u), .int (nI d), .int (nI (rs_r u d)), .ref hr, .int (nI ((m + 1) * d))])), (hr, .inr (1, [.ref ha, .int (nI xs.length)])), (ha, .inl (cI, 8, .inl f))]) _ := hP
    have hD : va_D A ([(h, .inr (5, [.int (nI u), .int (nI d), .int (nI (rs_r u d)), .ref hr, .int (nI ((m + 1) * d))])), (hr, .inr (1, [.ref ha, .int (nI xs.length)])), (ha, .inl (cI, 8, .inl f))]) := hD
    exact fq_reti K hret hlk hS hP hD ⟨rs_val hrs hk hI4 hd1 hd2, _, _, _, _, _, rfl, rs_next hrs hmx⟩ dc_Resampler_make_121 (Nat.le_of_ble_eq_true rfl) (Nat.le_of_ble_eq_true rfl)
  · skip
    have hk : k < 2 * rs_r u d - 1 := by rw [nI_ltI (by omega) (by omega)] at b13; omega
    refine lv_aload_n K.1 K.2.1 dc_Resampler_make_16 rfl (lv_at hl 0 rfl) ?_
    refine fq_get K hK cl_Resampler hP 0 4 rfl (by decide) wd_434 rfl dc_Resampler_make_17 ?_
    refine lv_iload_n K.1 K.2.1 dc_Resampler_make_20 rfl (lv_at hl 2 rfl) ?_
    refine lv_isub K.1 K.2.1 dc_Resampler_make_21 ?_
    refine lv_topi (fun v1 e_v1 => ?_)
    refine lv_istore K.1 K.2.1 dc_Resampler_make_22 hl (by decide) rfl (fun ls hl => ?_)
    have hl : lv_has ls 6 [(4, .int v1), (0, .ref h), (1, .long v), (3, .int (nI k))] := hl
    refine lv_iload K.1 K.2.1 dc_Resampler_make_24 (lv_at hl 0 rfl) ?_
    refine lv_aload_n K.1 K.2.1 dc_Resampler_make_26 rfl (lv_at hl 1 rfl) ?_
    refine fq_get K hK cl_Resampler hP 0 0 rfl (by decide) wd_430 rfl dc_Resampler_make_27 ?_
    refine lv_irem K.1 K.2.1 dc_Resampler_make_30 (nI_ne0 (by omega) (by omega)) ?_
    refine lv_if_ne (tgt := 51) K.1 K.2.1 dc_Resampler_make_31 rfl (fun b31 => ?_) (fun b31 => ?_)
    · skip
      have hpl := rs_pl hmd hk hrr e_v1
      refine lv_iconst (v := 0) K.1 K.2.1 dc_Resampler_make_51 (by decide) ?_
      refine lv_istore K.1 K.2.1 dc_Resampler_make_52 hl (by decide) rfl (fun ls hl => ?_)
      have hl : lv_has ls 6 [(5, .int 0), (4, .int v1), (0, .ref h), (1, .long v), (3, .int (nI k))] := hl
      refine lv_lload_n K.1 K.2.1 dc_Resampler_make_54 rfl (lv_at hl 3 rfl) ?_
      refine lv_aload_n K.1 K.2.1 dc_Resampler_make_55 rfl (lv_at hl 2 rfl) ?_
      refine fq_get K hK cl_Resampler hP 0 2 rfl (by decide) wd_432 rfl dc_Resampler_make_56 ?_
      refine lv_iload_n K.1 K.2.1 dc_Resampler_make_59 rfl (lv_at hl 4 rfl) ?_
      refine lv_aload_n K.1 K.2.1 dc_Resampler_make_60 rfl (lv_at hl 2 rfl) ?_
      refine fq_get K hK cl_Resampler hP 0 2 rfl (by decide) wd_432 rfl dc_Resampler_make_61 ?_
      refine lv_iconst (v := 1) K.1 K.2.1 dc_Resampler_make_64 (by decide) ?_
      refine lv_isub K.1 K.2.1 dc_Resampler_make_65 ?_
      refine lv_isub K.1 K.2.1 dc_Resampler_make_66 ?_
      refine va_mabs K.1 K.2.1 (K.2.2.1.trans hl.1.symm) K.2.2.2.1 (K.2.2.2.2 _ wd_671) (K.2.2.2.2 _ wd_672) (K.2.2.2.2 _ wd_35) (K.2.2.2.2 _ wd_673) (Nat.le_of_ble_eq_true rfl) (Nat.le_of_ble_eq_true rfl) (Nat.le_of_ble_eq_true rfl) (Nat.le_of_ble_eq_true rfl) dc_Resampler_make_67 ?_
      refine lv_isub K.1 K.2.1 dc_Resampler_make_70 ?_
      refine lv_i2l K.1 K.2.1 dc_Resampler_make_71 rfl ?_
      refine lv_iload K.1 K.2.1 dc_Resampler_make_72 (lv_at hl 0 rfl) ?_
      refine lv_i2l K.1 K.2.1 dc_Resampler_make_74 rfl ?_
      refine lv_lmul K.1 K.2.1 dc_Resampler_make_75 ?_
      refine lv_ladd K.1 K.2.1 dc_Resampler_make_76 ?_
      refine lv_topl (fun v2 e_v2 => ?_)
      refine lv_lstore_n K.1 K.2.1 dc_Resampler_make_77 rfl hl (by decide) rfl (fun ls hl => ?_)
      have hl : lv_has ls 6 [(1, .long v2), (5, .int 0), (4, .int v1), (0, .ref h), (3, .int (nI k))] := hl
      refine lv_iinc (v := nI (k + 1)) K.1 K.2.1 dc_Resampler_make_78 hl (k := 4) rfl (nI_1 k) (by decide) rfl (fun ls hl => ?_)
      have hl : lv_has ls 6 [(3, .int (nI (k + 1))), (1, .long v2), (5, .int 0), (4, .int v1), (0, .ref h)] := hl
      refine lv_goto (tgt := 4) K.1 K.2.1 dc_Resampler_make_81 rfl ?_
      exact ih4 (k + 1, v2) _ _ _ (by show 2 * rs_r u d - 1 - (k + 1) < 2 * rs_r u d - 1 - k; omega) ⟨rs_add hrs hk hI4 e_v2 (rs_u0 hrs hpl b31), lv_sub hl [4, 1, 0] rfl, hP, hD, hS⟩
    · skip
      have hpl := rs_pl hmd hk hrr e_v1
      refine lv_aload_n K.1 K.2.1 dc_Resampler_make_34 rfl (lv_at hl 1 rfl) ?_
      refine fq_get K hK cl_Resampler hP 0 3 rfl (by decide) wd_433 rfl dc_Resampler_make_35 ?_
      refine lv_iload K.1 K.2.1 dc_Resampler_make_38 (lv_at hl 0 rfl) ?_
      refine lv_aload_n K.1 K.2.1 dc_Resampler_make_40 rfl (lv_at hl 1 rfl) ?_
      refine fq_get K hK cl_Resampler hP 0 0 rfl (by decide) wd_430 rfl dc_Resampler_make_41 ?_
      refine lv_idiv K.1 K.2.1 dc_Resampler_make_44 (nI_ne0 (by omega) (by omega)) ?_
      have hc := fq_cut.of (wc := [(hr, .inr (1, [.ref ha, .int (nI xs.length)])), (ha, .inl (cI, 8, .inl f))]) hP hD hS hA [1, 2] (by decide) rfl
      refine fq_ci (wr := [(h, .inr (5, [.int (nI u), .int (nI d), .int (nI (rs_r u d)), .ref hr, .int (nI (m * d))]))]) (fq_rV K hK hZ hS hc (ct_Recent_at l D cI cO tE hr ha f xs (v1 / (nI u)) (hrs.2.2.2.1) _) yk_Recent_at wd_668 wd_669 wd_667 0 rfl rfl rfl ⟨⟨rfl, rfl⟩, ⟨Nat.le_of_ble_eq_true rfl, Nat.le_of_ble_eq_true rfl⟩, ⟨Nat.le_of_ble_eq_true rfl, Nat.le_of_ble_eq_true rfl⟩⟩ hl.1 rfl (Nat.le_of_ble_eq_true rfl) dc_Resampler_make_45) hP hD hS hc [1, 2] [0] rfl rfl (by decide) (by decide) (fun r3 w H locs hw3 hP hD hS => ?_)
      obtain ⟨rfl, hat1⟩ := hw3
      have hP : va_P D fq_cl ([(h, .inr (5, [.int (nI u), .int (nI d), .int (nI (rs_r u d)), .ref hr, .int (nI (m * d))])), (hr, .inr (1, [.ref ha, .int (nI xs.length)])), (ha, .inl (cI, 8, .inl f))]) _ := hP
      have hD : va_D A ([(h, .inr (5, [.int (nI u), .int (nI d), .int (nI (rs_r u d)), .ref hr, .int (nI (m * d))])), (hr, .inr (1, [.ref ha, .int (nI xs.length)])), (ha, .inl (cI, 8, .inl f))]) := hD
      refine lv_goto (tgt := 52) K.1 K.2.1 dc_Resampler_make_48 rfl ?_
      refine lv_istore K.1 K.2.1 dc_Resampler_make_52 hl (by decide) rfl (fun ls hl => ?_)
      have hl : lv_has ls 6 [(5, .int r3), (4, .int v1), (0, .ref h), (1, .long v), (3, .int (nI k))] := hl
      refine lv_lload_n K.1 K.2.1 dc_Resampler_make_54 rfl (lv_at hl 3 rfl) ?_
      refine lv_aload_n K.1 K.2.1 dc_Resampler_make_55 rfl (lv_at hl 2 rfl) ?_
      refine fq_get K hK cl_Resampler hP 0 2 rfl (by decide) wd_432 rfl dc_Resampler_make_56 ?_
      refine lv_iload_n K.1 K.2.1 dc_Resampler_make_59 rfl (lv_at hl 4 rfl) ?_
      refine lv_aload_n K.1 K.2.1 dc_Resampler_make_60 rfl (lv_at hl 2 rfl) ?_
      refine fq_get K hK cl_Resampler hP 0 2 rfl (by decide) wd_432 rfl dc_Resampler_make_61 ?_
      refine lv_iconst (v := 1) K.1 K.2.1 dc_Resampler_make_64 (by decide) ?_
      refine lv_isub K.1 K.2.1 dc_Resampler_make_65 ?_
      refine lv_isub K.1 K.2.1 dc_Resampler_make_66 ?_
      refine va_mabs K.1 K.2.1 (K.2.2.1.trans hl.1.symm) K.2.2.2.1 (K.2.2.2.2 _ wd_671) (K.2.2.2.2 _ wd_672) (K.2.2.2.2 _ wd_35) (K.2.2.2.2 _ wd_673) (Nat.le_of_ble_eq_true rfl) (Nat.le_of_ble_eq_true rfl) (Nat.le_of_ble_eq_true rfl) (Nat.le_of_ble_eq_true rfl) dc_Resampler_make_67 ?_
      refine lv_isub K.1 K.2.1 dc_Resampler_make_70 ?_
      refine lv_i2l K.1 K.2.1 dc_Resampler_make_71 rfl ?_
      refine lv_iload K.1 K.2.1 dc_Resampler_make_72 (lv_at hl 0 rfl) ?_
      refine lv_i2l K.1 K.2.1 dc_Resampler_make_74 rfl ?_
      refine lv_lmul K.1 K.2.1 dc_Resampler_make_75 ?_
      refine lv_ladd K.1 K.2.1 dc_Resampler_make_76 ?_
      refine lv_topl (fun v3 e_v3 => ?_)
      refine lv_lstore_n K.1 K.2.1 dc_Resampler_make_77 rfl hl (by decide) rfl (fun ls hl => ?_)
      have hl : lv_has ls 6 [(1, .long v3), (5, .int r3), (4, .int v1), (0, .ref h), (3, .int (nI k))] := hl
      refine lv_iinc (v := nI (k + 1)) K.1 K.2.1 dc_Resampler_make_78 hl (k := 4) rfl (nI_1 k) (by decide) rfl (fun ls hl => ?_)
      have hl : lv_has ls 6 [(3, .int (nI (k + 1))), (1, .long v3), (5, .int r3), (4, .int v1), (0, .ref h)] := hl
      refine lv_goto (tgt := 4) K.1 K.2.1 dc_Resampler_make_81 rfl ?_
      exact ih4 (k + 1, v3) _ _ _ (by show 2 * rs_r u d - 1 - (k + 1) < 2 * rs_r u d - 1 - k; omega) ⟨rs_add hrs hk hI4 e_v3 (rs_u1 hrs hm hk hpl b31 hat1), lv_sub hl [4, 1, 0] rfl, hP, hD, hS⟩
set_option maxHeartbeats 4000000 in
set_option maxRecDepth 100000 in
theorem ct_Resampler_clear (l : Launch) (D : va_G) (cI cO : ClassId) (tE : Nat) (h u d hr ha : Nat) (f : Nat → Int32) (sp : fm_S) (xs : List Int) (m : Nat) (hrs : rs_ok u d f sp xs m)  (sz : Nat) : Met l my_Resampler_clear (fq_w my_Resampler_clear cb_Resampler_clear 1 none) ({ frames := 1, cells := 0, slots := 0, locals := 20 }) (va_Pc ([.ref h]) (fq_Pre D cI cO tE sz ([(h, .inr (5, [.int (nI u), .int (nI d), .int (nI (rs_r u d)), .ref hr, .int (nI (m * d))])), (hr, .inr (1, [.ref ha, .int (nI xs.length)])), (ha, .inl (cI, 8, .inl f))]))) (va_Qv (S := va_W) (fun w => sg_res cI h sp [] 0 w) (fq_Bw D (va_A ([(h, .inr (5, [.int (nI u), .int (nI d), .int (nI (rs_r u d)), .ref hr, .int (nI (m * d))])), (hr, .inr (1, [.ref ha, .int (nI xs.length)])), (ha, .inl (cI, 8, .inl f))]) sz)) (va_A ([(h, .inr (5, [.int (nI u), .int (nI d), .int (nI (rs_r u d)), .ref hr, .int (nI (m * d))])), (hr, .inr (1, [.ref ha, .int (nI xs.length)])), (ha, .inl (cI, 8, .inl f))]) sz)) (0) (0) (va_A ([(h, .inr (5, [.int (nI u), .int (nI d), .int (nI (rs_r u d)), .ref hr, .int (nI (m * d))])), (hr, .inr (1, [.ref ha, .int (nI xs.length)])), (ha, .inl (cI, 8, .inl f))]) sz) := by
  refine fq_open (by decide +kernel) (Nat.le_of_ble_eq_true rfl) ?_
  intro pg ev s mt below meth cd ls K hret hlk hin hK hZ hP hD hA hS hl
  generalize va_A ([(h, .inr (5, [.int (nI u), .int (nI d), .int (nI (rs_r u d)), .ref hr, .int (nI (m * d))])), (hr, .inr (1, [.ref ha, .int (nI xs.length)])), (ha, .inl (cI, 8, .inl f))]) sz = A at hZ hD hA hS ⊢
  have K : fq_Ctx pg mt cd cb_Resampler_clear 1 s _ cn_Resampler := K
  have hl : lv_has ls 1 [(0, .ref h)] := hl
  refine lv_aload_n K.1 K.2.1 dc_Resampler_clear_0 rfl (lv_at hl 0 rfl) ?_
  refine fq_get K hK cl_Resampler hP 0 3 rfl (by decide) wd_433 rfl dc_Resampler_clear_1 ?_
  have hc := fq_cut.of (wc := [(hr, .inr (1, [.ref ha, .int (nI xs.length)])), (ha, .inl (cI, 8, .inl f))]) hP hD hS hA [1, 2] (by decide) rfl
  refine fq_cv (wr := [(h, .inr (5, [.int (nI u), .int (nI d), .int (nI (rs_r u d)), .ref hr, .int (nI (m * d))]))]) (fq_rV K hK hZ hS hc (ct_Recent_forget l D cI cO tE hr ha f xs _) yk_Recent_forget wd_527 wd_528 wd_526 0 rfl rfl rfl ⟨⟨rfl, rfl⟩, ⟨Nat.le_of_ble_eq_true rfl, Nat.le_of_ble_eq_true rfl⟩, ⟨Nat.le_of_ble_eq_true rfl, Nat.le_of_ble_eq_true rfl⟩⟩ hl.1 rfl (Nat.le_of_ble_eq_true rfl) dc_Resampler_clear_4) hP hD hS hc [1, 2] [0] rfl rfl (by decide) (by decide) (fun  w H locs hw1 hP hD hS => ?_)
  subst hw1
  have hP : va_P D fq_cl ([(h, .inr (5, [.int (nI u), .int (nI d), .int (nI (rs_r u d)), .ref hr, .int (nI (m * d))])), (hr, .inr (1, [.ref ha, .int 0])), (ha, .inl (cI, 8, .inl f))]) _ := hP
  have hD : va_D A ([(h, .inr (5, [.int (nI u), .int (nI d), .int (nI (rs_r u d)), .ref hr, .int (nI (m * d))])), (hr, .inr (1, [.ref ha, .int 0])), (ha, .inl (cI, 8, .inl f))]) := hD
  refine lv_aload_n K.1 K.2.1 dc_Resampler_clear_7 rfl (lv_at hl 0 rfl) ?_
  refine lv_iconst (v := 0) K.1 K.2.1 dc_Resampler_clear_8 (by decide) ?_
  refine fq_put K hK cl_Resampler hP hD hS 0 4 rfl (by decide) wd_434 rfl rfl rfl (Nat.le_of_ble_eq_true rfl) dc_Resampler_clear_9 (fun H locs hP hD hS => ?_)
  have hP : va_P D fq_cl ([(h, .inr (5, [.int (nI u), .int (nI d), .int (nI (rs_r u d)), .ref hr, .int 0])), (hr, .inr (1, [.ref ha, .int 0])), (ha, .inl (cI, 8, .inl f))]) _ := hP
  have hD : va_D A ([(h, .inr (5, [.int (nI u), .int (nI d), .int (nI (rs_r u d)), .ref hr, .int 0])), (hr, .inr (1, [.ref ha, .int 0])), (ha, .inl (cI, 8, .inl f))]) := hD
  exact fq_retv K hret hlk hS hP hD ⟨_, _, _, _, _, by rw [Nat.zero_mul]; rfl, rs_nil hrs⟩ dc_Resampler_clear_12 (Nat.le_of_ble_eq_true rfl) (Nat.le_of_ble_eq_true rfl)
end
section
theorem wd_517 : Cond.methodLink cn_Chain 45 ⟨cn_Stage, "clear", "()V"⟩ ∈ fq_TB := fq_in 517 (by decide +kernel) rfl
theorem wn_518 : Cond.declares ⟨cn_Stage, "clear", "()V"⟩ ∈ lw_tbl := List.mem_of_getElem? (i := 518) (by decide +kernel)
theorem wd_519 : Cond.sameMethod cn_Stage cn_Stage "clear" "()V" ∈ fq_TB := fq_in 519 (by decide +kernel) rfl
theorem wd_520 : Cond.selects cn_Gain ⟨cn_Stage, "clear", "()V"⟩ my_Gain_clear ∈ fq_TB := fq_in 520 (by decide +kernel) rfl
theorem wd_523 : Cond.selects cn_Resampler ⟨cn_Stage, "clear", "()V"⟩ my_Resampler_clear ∈ fq_TB := fq_in 523 (by decide +kernel) rfl
theorem wd_530 : Cond.selects cn_Section ⟨cn_Stage, "clear", "()V"⟩ my_Section_clear ∈ fq_TB := fq_in 530 (by decide +kernel) rfl
theorem wd_533 : Cond.selects cn_Window ⟨cn_Stage, "clear", "()V"⟩ my_Window_clear ∈ fq_TB := fq_in 533 (by decide +kernel) rfl
theorem wd_613 : Cond.methodLink cn_Chain 65 ⟨cn_Stage, "take", "(I)I"⟩ ∈ fq_TB := fq_in 613 (by decide +kernel) rfl
theorem wn_614 : Cond.declares ⟨cn_Stage, "take", "(I)I"⟩ ∈ lw_tbl := List.mem_of_getElem? (i := 614) (by decide +kernel)
theorem wd_615 : Cond.sameMethod cn_Stage cn_Stage "take" "(I)I" ∈ fq_TB := fq_in 615 (by decide +kernel) rfl
theorem wd_616 : Cond.selects cn_Gain ⟨cn_Stage, "take", "(I)I"⟩ my_Gain_take ∈ fq_TB := fq_in 616 (by decide +kernel) rfl
theorem wd_619 : Cond.selects cn_Resampler ⟨cn_Stage, "take", "(I)I"⟩ my_Resampler_take ∈ fq_TB := fq_in 619 (by decide +kernel) rfl
theorem wd_634 : Cond.selects cn_Section ⟨cn_Stage, "take", "(I)I"⟩ my_Section_take ∈ fq_TB := fq_in 634 (by decide +kernel) rfl
theorem wd_637 : Cond.selects cn_Window ⟨cn_Stage, "take", "(I)I"⟩ my_Window_take ∈ fq_TB := fq_in 637 (by decide +kernel) rfl
theorem wd_645 : Cond.methodLink cn_Chain 69 ⟨cn_Stage, "make", "()I"⟩ ∈ fq_TB := fq_in 645 (by decide +kernel) rfl
theorem wn_646 : Cond.declares ⟨cn_Stage, "make", "()I"⟩ ∈ lw_tbl := List.mem_of_getElem? (i := 646) (by decide +kernel)
theorem wd_647 : Cond.sameMethod cn_Stage cn_Stage "make" "()I" ∈ fq_TB := fq_in 647 (by decide +kernel) rfl
theorem wd_648 : Cond.selects cn_Gain ⟨cn_Stage, "make", "()I"⟩ my_Gain_make ∈ fq_TB := fq_in 648 (by decide +kernel) rfl
theorem wd_664 : Cond.selects cn_Resampler ⟨cn_Stage, "make", "()I"⟩ my_Resampler_make ∈ fq_TB := fq_in 664 (by decide +kernel) rfl
theorem wd_676 : Cond.selects cn_Section ⟨cn_Stage, "make", "()I"⟩ my_Section_make ∈ fq_TB := fq_in 676 (by decide +kernel) rfl
theorem wd_681 : Cond.selects cn_Window ⟨cn_Stage, "make", "()I"⟩ my_Window_make ∈ fq_TB := fq_in 681 (by decide +kernel) rfl
theorem wd_691 : Cond.methodLink cn_Chain 54 ⟨cn_Stage, "finish", "()I"⟩ ∈ fq_TB := fq_in 691 (by decide +kernel) rfl
theorem wn_692 : Cond.declares ⟨cn_Stage, "finish", "()I"⟩ ∈ lw_tbl := List.mem_of_getElem? (i := 692) (by decide +kernel)
theorem wd_693 : Cond.sameMethod cn_Stage cn_Stage "finish" "()I" ∈ fq_TB := fq_in 693 (by decide +kernel) rfl
theorem wd_694 : Cond.selects cn_Gain ⟨cn_Stage, "finish", "()I"⟩ my_Gain_finish ∈ fq_TB := fq_in 694 (by decide +kernel) rfl
theorem wd_697 : Cond.selects cn_Resampler ⟨cn_Stage, "finish", "()I"⟩ my_Resampler_finish ∈ fq_TB := fq_in 697 (by decide +kernel) rfl
theorem wd_700 : Cond.selects cn_Section ⟨cn_Stage, "finish", "()I"⟩ my_Section_finish ∈ fq_TB := fq_in 700 (by decide +kernel) rfl
theorem wd_703 : Cond.selects cn_Window ⟨cn_Stage, "finish", "()I"⟩ my_Window_finish ∈ fq_TB := fq_in 703 (by decide +kernel) rfl

/-! rearranged worlds -/
theorem fq_permP {D : va_G} {H : Heap} {ws ws' : va_W} (p : ws.Perm ws') (h : va_P D fq_cl ws H) : va_P D fq_cl ws' H := fun k q hk => by
  obtain ⟨j, hj⟩ := List.getElem?_of_mem (p.mem_iff.mpr (List.mem_of_getElem? hk))
  exact h j q hj
theorem fq_Dc {A : Nat → Prop} {x : Nat × va_E} {l : va_W} : va_D A (x :: l) ↔ A x.1 ∧ (∀ q ∈ l, q.1 ≠ x.1) ∧ va_D A l := by
  constructor
  · intro h
    refine ⟨h.2 0 x rfl, fun q hq e => ?_, fun i j p q hi hj e => ?_, fun k q hk => h.2 (k + 1) q hk⟩
    · obtain ⟨j, hj⟩ := List.getElem?_of_mem hq
      have := h.1 0 (j + 1) x q rfl hj e.symm
      omega
    · have := h.1 (i + 1) (j + 1) p q hi hj e
      omega
  · intro ⟨h1, h2, h3⟩
    refine ⟨fun i j p q hi hj e => ?_, fun k q hk => ?_⟩
    · cases i with
      | zero =>
        cases j with
        | zero => rfl
        | succ j =>
          have e1 : x = p := Option.some.inj hi
          subst e1
          exact absurd e.symm (h2 q (List.mem_of_getElem? (i := j) hj))
      | succ i =>
        cases j with
        | zero =>
          have e1 : x = q := Option.some.inj hj
          subst e1
          exact absurd e (h2 p (List.mem_of_getElem? (i := i) hi))
        | succ j => rw [h3.1 i j p q hi hj e]
    · cases k with
      | zero =>
        have e1 : x = q := Option.some.inj hk
        exact e1 ▸ h1
      | succ k => exact h3.2 k q hk
theorem fq_permD {A : Nat → Prop} {ws ws' : va_W} (p : ws.Perm ws') : va_D A ws → va_D A ws' := by
  induction p with
  | nil => exact id
  | cons x p ih =>
    intro h
    obtain ⟨h1, h2, h3⟩ := fq_Dc.mp h
    exact fq_Dc.mpr ⟨h1, fun q hq => h2 q (p.mem_iff.mpr hq), ih h3⟩
  | swap x y l =>
    intro h
    obtain ⟨h1, h2, h3⟩ := fq_Dc.mp h
    obtain ⟨k1, k2, k3⟩ := fq_Dc.mp h3
    refine fq_Dc.mpr ⟨k1, fun q hq => ?_, fq_Dc.mpr ⟨h1, fun q hq => h2 q (List.mem_cons_of_mem _ hq), k3⟩⟩
    rcases List.mem_cons.mp hq with rfl | hq
    · exact (h2 _ List.mem_cons_self).symm
    · exact k2 q hq
  | trans _ _ i1 i2 => exact fun h => i2 (i1 h)
theorem fq_Pl {D : va_G} {H : Heap} {a b : va_W} (h : va_P D fq_cl (a ++ b) H) : va_P D fq_cl a H := fun k q hk => h k q (by rw [List.getElem?_append_left (List.getElem?_eq_some_iff.mp hk).1]; exact hk)
theorem fq_Dl {A : Nat → Prop} {a b : va_W} (h : va_D A (a ++ b)) : va_D A a :=
  ⟨fun i j p q hi hj e => h.1 i j p q (by rw [List.getElem?_append_left (List.getElem?_eq_some_iff.mp hi).1]; exact hi) (by rw [List.getElem?_append_left (List.getElem?_eq_some_iff.mp hj).1]; exact hj) e,
   fun k q hk => h.2 k q (by rw [List.getElem?_append_left (List.getElem?_eq_some_iff.mp hk).1]; exact hk)⟩
section FP
variable {p : Program} {l : Launch} {e : Env} {R : Room} {s : State} {m : MethodId} {args : Array Value} {below : List Frame} {meth : Method} {c : Code} {H : Heap} {locs : List Loc} {cells slots : Nat} {Q : State → Prop}
variable {cc : ByteArray} {nL pc : Nat} {ls : Array Slot} {rest st0 : List Value} {D : va_G} {cI cO : ClassId} {tE : Nat} {A : Nat → Prop} {w ws wc wr X cx T : va_W} {mc ms : Nat} {own : String}
theorem fq_cutR (pm : ws.Perm (wc ++ wr)) (hP : va_P D fq_cl ws H) (hD : va_D A ws) (hS : va_S A s.heap H locs) (hA : ∀ q, s.heap.size ≤ q → A q) : fq_cut D A H wc := by
  refine ⟨fq_Pl (fq_permP pm hP), fq_Dl (fq_permD pm hD), fun q h => ?_⟩
  rcases h with ⟨k, e, h⟩ | h
  · exact (fq_Dl (fq_permD pm hD)).2 k _ h
  · exact hA q (Nat.le_trans hS.1 h)
theorem fq_cutT (hP : va_P D fq_cl (X ++ T) H) (hD : va_D A (X ++ T)) (hS : va_S A s.heap H locs) (hA : ∀ q, s.heap.size ≤ q → A q) (is : List Nat) (hn : va_nd is = true) (hs : is.map (fun i => X[i]?) = cx.map some) : fq_cut D A H cx :=
  fq_cut.of (fq_Pl hP) (fq_Dl hD) hS hA is hn hs
theorem fq_joinR {H1 : Heap} (hP : va_P D fq_cl (wc ++ wr) H) (hD : va_D A (wc ++ wr)) (hk : ∀ q : Nat, q < H.size → ¬ va_A wc H.size q → H1[q]? = H[q]?) (hF : ∀ q, va_A wc H.size q → A q) (hP1 : va_P D fq_cl w H1) (hD1 : va_D (va_A wc H.size) w) : va_P D fq_cl (w ++ wr) H1 ∧ va_D A (w ++ wr) := by
  have hC : (List.range wc.length).map (fun i => wc[i]?) = wc.map some := List.ext_getElem (by simp) (fun i h1 h2 => by simp)
  have h := va_joinQ (X := wc) (cx := wc) (wr := []) (w1 := w) (pl := wr) hP hD (List.range wc.length) [] hC rfl rfl (fun i hi => absurd hi List.not_mem_nil) hk hF hP1 hD1
  rw [List.nil_append] at h
  exact h
theorem fq_ciR {post : Int32 → va_W → Prop} {a : Array Value} (hr : va_Run p l e R s m args below meth c H locs cells slots mc ms (F0 m pc ls st0) rest (va_Qi (S := va_W) post (fq_Bw D (va_A wc H.size)) (va_A wc H.size) a) (va_A wc H.size))
    (hP : va_P D fq_cl ws H) (hD : va_D A ws) (hS : va_S A s.heap H locs) (hc : fq_cut D A H wc) (pm : ws.Perm (wc ++ wr))
    (kk : ∀ (r : Int32) (w : va_W) (H1 : Heap) (locs1 : List Loc), post r w → va_P D fq_cl (w ++ wr) H1 → va_D A (w ++ wr) → va_S A s.heap H1 locs1 → W p l e R s m args below meth c H1 locs1 (cells + mc) (slots + ms) Q (F0 m (pc + 3) ls (.int r :: rest))) : W p l e R s m args below meth c H locs cells slots Q (F0 m pc ls st0) := by
  refine va_calli hr hS (fun q _ h => hc.2.2 q h) hc.2.2 (fun r u t H1 locs1 ht hvm hp hB hz hk hS1 => ?_)
  obtain ⟨hP1, hD1⟩ := hB
  rw [ht] at hP1
  obtain ⟨hP2, hD2⟩ := fq_joinR (fq_permP pm hP) (fq_permD pm hD) hk hc.2.2 hP1 hD1
  exact kk r u H1 locs1 hp hP2 hD2 hS1
theorem fq_cvR {post : va_W → Prop} {a : Array Value} (hr : va_Run p l e R s m args below meth c H locs cells slots mc ms (F0 m pc ls st0) rest (va_Qv (S := va_W) post (fq_Bw D (va_A wc H.size)) (va_A wc H.size) a) (va_A wc H.size))
    (hP : va_P D fq_cl ws H) (hD : va_D A ws) (hS : va_S A s.heap H locs) (hc : fq_cut D A H wc) (pm : ws.Perm (wc ++ wr))
    (kk : ∀ (w : va_W) (H1 : Heap) (locs1 : List Loc), post w → va_P D fq_cl (w ++ wr) H1 → va_D A (w ++ wr) → va_S A s.heap H1 locs1 → W p l e R s m args below meth c H1 locs1 (cells + mc) (slots + ms) Q (F0 m (pc + 3) ls rest)) : W p l e R s m args below meth c H locs cells slots Q (F0 m pc ls st0) := by
  refine va_callv hr hS (fun q _ h => hc.2.2 q h) hc.2.2 (fun u t H1 locs1 ht hvm hp hB hz hk hS1 => ?_)
  obtain ⟨hP1, hD1⟩ := hB
  rw [ht] at hP1
  obtain ⟨hP2, hD2⟩ := fq_joinR (fq_permP pm hP) (fq_permD pm hD) hk hc.2.2 hP1 hD1
  exact kk u H1 locs1 hp hP2 hD2 hS1
theorem fq_cqR {post : Option Nat → va_W → Prop} {a : Array Value} (hr : va_Run p l e R s m args below meth c H locs cells slots mc ms (F0 m pc ls st0) rest (va_Qq (S := va_W) post (fq_Bw D (va_A wc H.size)) (va_A wc H.size) a) (va_A wc H.size))
    (hP : va_P D fq_cl ws H) (hD : va_D A ws) (hS : va_S A s.heap H locs) (hc : fq_cut D A H wc) (pm : ws.Perm (wc ++ wr))
    (kk : ∀ (r : Option Nat) (w : va_W) (H1 : Heap) (locs1 : List Loc), post r w → va_P D fq_cl (w ++ wr) H1 → va_D A (w ++ wr) → va_S A s.heap H1 locs1 → W p l e R s m args below meth c H1 locs1 (cells + mc) (slots + ms) Q (F0 m (pc + 3) ls (va_rf r :: rest))) : W p l e R s m args below meth c H locs cells slots Q (F0 m pc ls st0) := by
  refine va_callq hr hS (fun q _ h => hc.2.2 q h) hc.2.2 (fun r u t H1 locs1 ht hvm hp hB hz hk hS1 => ?_)
  obtain ⟨hP1, hD1⟩ := hB
  rw [ht] at hP1
  obtain ⟨hP2, hD2⟩ := fq_joinR (fq_permP pm hP) (fq_permD pm hD) hk hc.2.2 hP1 hD1
  exact kk r u H1 locs1 hp hP2 hD2 hS1
theorem fq_ciT {post : Int32 → va_W → Prop} {a : Array Value} (hr : va_Run p l e R s m args below meth c H locs cells slots mc ms (F0 m pc ls st0) rest (va_Qi (S := va_W) post (fq_Bw D (va_A cx H.size)) (va_A cx H.size) a) (va_A cx H.size))
    (hP : va_P D fq_cl (X ++ T) H) (hD : va_D A (X ++ T)) (hS : va_S A s.heap H locs) (hc : fq_cut D A H cx) (isC isR : List Nat) (hC : isC.map (fun i => X[i]?) = cx.map some) (hR : isR.map (fun i => X[i]?) = wr.map some) (hn : va_nd isR = true) (hdis : ∀ i ∈ isR, i ∉ isC)
    (kk : ∀ (r : Int32) (w : va_W) (H1 : Heap) (locs1 : List Loc), post r w → va_P D fq_cl ((wr ++ w) ++ T) H1 → va_D A ((wr ++ w) ++ T) → va_S A s.heap H1 locs1 → W p l e R s m args below meth c H1 locs1 (cells + mc) (slots + ms) Q (F0 m (pc + 3) ls (.int r :: rest))) : W p l e R s m args below meth c H locs cells slots Q (F0 m pc ls st0) := by
  refine va_calli hr hS (fun q _ h => hc.2.2 q h) hc.2.2 (fun r u t H1 locs1 ht hvm hp hB hz hk hS1 => ?_)
  obtain ⟨hP1, hD1⟩ := hB
  rw [ht] at hP1
  obtain ⟨hP2, hD2⟩ := va_joinQ hP hD isC isR hC hR hn hdis hk hc.2.2 hP1 hD1
  exact kk r u H1 locs1 hp hP2 hD2 hS1
theorem fq_cvT {post : va_W → Prop} {a : Array Value} (hr : va_Run p l e R s m args below meth c H locs cells slots mc ms (F0 m pc ls st0) rest (va_Qv (S := va_W) post (fq_Bw D (va_A cx H.size)) (va_A cx H.size) a) (va_A cx H.size))
    (hP : va_P D fq_cl (X ++ T) H) (hD : va_D A (X ++ T)) (hS : va_S A s.heap H locs) (hc : fq_cut D A H cx) (isC isR : List Nat) (hC : isC.map (fun i => X[i]?) = cx.map some) (hR : isR.map (fun i => X[i]?) = wr.map some) (hn : va_nd isR = true) (hdis : ∀ i ∈ isR, i ∉ isC)
    (kk : ∀ (w : va_W) (H1 : Heap) (locs1 : List Loc), post w → va_P D fq_cl ((wr ++ w) ++ T) H1 → va_D A ((wr ++ w) ++ T) → va_S A s.heap H1 locs1 → W p l e R s m args below meth c H1 locs1 (cells + mc) (slots + ms) Q (F0 m (pc + 3) ls rest)) : W p l e R s m args below meth c H locs cells slots Q (F0 m pc ls st0) := by
  refine va_callv hr hS (fun q _ h => hc.2.2 q h) hc.2.2 (fun u t H1 locs1 ht hvm hp hB hz hk hS1 => ?_)
  obtain ⟨hP1, hD1⟩ := hB
  rw [ht] at hP1
  obtain ⟨hP2, hD2⟩ := va_joinQ hP hD isC isR hC hR hn hdis hk hc.2.2 hP1 hD1
  exact kk u H1 locs1 hp hP2 hD2 hS1
variable {x y : MethodName} {bytes : ByteArray} {maxL index k : Nat} {ret : Option FieldType} {rm : Room} {Qc : Array Value → State → Outcome → State → Prop} {free : Addr → Prop} {b : Addr} {As : List Value} {C : String}
/-- a call whose named method is abstract -/
theorem fq_rA (K : fq_Ctx p m c cc nL s args own) (hK : fq_K D cI cO s) (hZ : fq_Z tE A s s.heap) (hS : va_S A s.heap H locs) (hc : fq_cut D A H wc)
    (hM : Met l y (fq_w y bytes maxL ret) rm (va_Pc (.ref b :: As) (fq_Pre D cI cO tE H.size wc)) Qc mc ms free) (hY : fq_Y y bytes maxL ret As.length) (hin : Cond.instanceMethod y ∈ fq_TB) (hse : Cond.selects C x y ∈ fq_TB) (hlink : Cond.methodLink own index x ∈ fq_TB) (hsame : Cond.sameMethod x.cls x.cls x.name x.desc ∈ fq_TB) (hdec : Cond.declares x ∈ lw_tbl)
    (hdx : x.cls ≠ "java/lang/invoke/MethodHandle" ∧ x.cls ≠ "java/lang/invoke/VarHandle" ∧ (parseMethodDescriptor x.desc).map (fun d => d.parameters.length) = some As.length)
    (q0 : Nat) {ci : Nat} {fs : List Value} {q : vw_C} (he : wc[q0]? = some (b, .inr (ci, fs))) (hq : fq_cl[ci]? = some q) (hqc : q.1 = C)
    (hfit : fq_fit rm R maxL cells slots mc ms) (hsz : ls.size = nL) (hstack : st0 = As.reverse ++ .ref b :: rest) (hrest : (rest.map fun v => v.category).sum ≤ 8) (hdg : decode cc pc = .ok (.invokevirtual index, 3)) :
    va_Run p l e R s m args below meth c H locs cells slots mc ms (F0 m pc ls st0) rest (Qc (Value.ref b :: As).toArray) free := by
  obtain ⟨h1, h2, h3⟩ := hfit
  have hts := K.2.2.2.2
  have hrv := va_recv hK.1 hc.1 hq he
  rw [hqc] at hrv
  have gd : ∀ {w : Cond}, w ∈ fq_TB → w ∈ fq_TB ∧ ((w.onTables && w.keeps) = true ∨ ∃ ty, w = .arrayClass ty) := fun h => ⟨h, good_of_word (List.mem_filter.mp h).2⟩
  have hT : GoodIn fq_TB (va_wsU own index C x.cls x y (fq_w y bytes maxL ret)) := by
    intro w hw
    unfold va_wsU at hw
    rcases List.mem_append.mp hw with h | h
    · simp only [List.mem_cons, List.not_mem_nil, or_false] at h
      rcases h with rfl | rfl | rfl | rfl | rfl
      · exact gd hlink
      · exact gd hsame
      · exact gd hse
      · exact gd hin
      · exact gd hY.2.1
    · exact fq_gi hY.1 w h
  have hz : va_Nw (.declares ⟨x.cls, x.name, x.desc⟩) s := hK.2.1 _ hdec rfl
  exact va_runU K hM (va_cwA As.length hts hT rfl h1.1 h1.2 hz hdx h2) ⟨fq_blind, hrv, fq_pre hK hZ hS hc.1 hc.2.1 hc.2.2⟩ rfl rfl hsz hstack (lv_room hrest) hdg h3
theorem fq_weaki {post post' : Int32 → va_W → Prop} {B : va_W → State → Prop} {A1 : Nat → Prop} {a : Array Value} {g : JFrame} (h : ∀ r w, post r w → post' r w) (hr : va_Run p l e R s m args below meth c H locs cells slots mc ms g rest (va_Qi (S := va_W) post B A1 a) free) : va_Run p l e R s m args below meth c H locs cells slots mc ms g rest (va_Qi (S := va_W) post' B A1 a) free := by
  intro T hT X
  obtain ⟨v, st₀, t, T', L, h0, X', hL, e1, e2, ⟨⟨r, u, hv, hp, hb⟩, hf⟩, st⟩ := hr T hT X
  exact ⟨v, st₀, t, T', L, h0, X', hL, e1, e2, ⟨⟨r, u, hv, h r u hp, hb⟩, hf⟩, st⟩
theorem fq_weakv {post post' : va_W → Prop} {B : va_W → State → Prop} {A1 : Nat → Prop} {a : Array Value} {g : JFrame} (h : ∀ w, post w → post' w) (hr : va_Run p l e R s m args below meth c H locs cells slots mc ms g rest (va_Qv (S := va_W) post B A1 a) free) : va_Run p l e R s m args below meth c H locs cells slots mc ms g rest (va_Qv (S := va_W) post' B A1 a) free := by
  intro T hT X
  obtain ⟨v, st₀, t, T', L, h0, X', hL, e1, e2, ⟨⟨u, hv, hp, hb⟩, hf⟩, st⟩ := hr T hT X
  exact ⟨v, st₀, t, T', L, h0, X', hL, e1, e2, ⟨⟨u, hv, h u hp, hb⟩, hf⟩, st⟩
end FP
/-! groups of cells behind each other -/
theorem fq_fl : ∀ {L : List va_W} {i : Nat} {g : va_W}, L[i]? = some g → L.flatten.Perm (g ++ (L.eraseIdx i).flatten)
  | [], i, g, h => by simp at h
  | a :: L, 0, g, h => by
    have e : a = g := Option.some.inj h
    subst e
    exact List.Perm.refl _
  | a :: L, i + 1, g, h => by
    have ih := fq_fl (L := L) (i := i) (g := g) h
    show (a ++ L.flatten).Perm (g ++ (a ++ (L.eraseIdx i).flatten))
    exact (ih.append_left a).trans (List.perm_append_comm_assoc a g _)
theorem fq_fs : ∀ {L : List va_W} {i : Nat} {g g' : va_W}, L[i]? = some g → (L.set i g').flatten.Perm (g' ++ (L.eraseIdx i).flatten)
  | [], i, g, g', h => by simp at h
  | a :: L, 0, g, g', h => List.Perm.refl _
  | a :: L, i + 1, g, g', h => by
    have ih := fq_fs (L := L) (i := i) (g := g) (g' := g') h
    show (a ++ (L.set i g').flatten).Perm (g' ++ (a ++ (L.eraseIdx i).flatten))
    exact (ih.append_left a).trans (List.perm_append_comm_assoc a g' _)
/-- group i, and explicit cells beside it -/
theorem fq_gout {X : va_W} {L : List va_W} {i : Nat} {g : va_W} (h : L[i]? = some g) : (X ++ L.flatten).Perm ((X ++ g) ++ (L.eraseIdx i).flatten) := by
  rw [List.append_assoc]; exact (fq_fl h).append_left X
theorem fq_gin {X : va_W} {L : List va_W} {i : Nat} {g g' : va_W} (h : L[i]? = some g) : ((X ++ g') ++ (L.eraseIdx i).flatten).Perm (X ++ (L.set i g').flatten) := by
  rw [List.append_assoc]; exact ((fq_fs h).symm).append_left X
theorem fq_gone {X : va_W} {L : List va_W} {i : Nat} {g : va_W} (h : L[i]? = some g) : (X ++ L.flatten).Perm (g ++ (X ++ (L.eraseIdx i).flatten)) := ((fq_fl h).append_left X).trans (List.perm_append_comm_assoc X g _)
theorem fq_gback {X : va_W} {L : List va_W} {i : Nat} {g g' : va_W} (h : L[i]? = some g) : (g' ++ (X ++ (L.eraseIdx i).flatten)).Perm (X ++ (L.set i g').flatten) := (((fq_fs h).append_left X).trans (List.perm_append_comm_assoc X g' _)).symm
/-! a stage of any kind -/
def sg_ok (cI : ClassId) (h : Nat) (sp : fm_S) (xs : List Int) (m : Nat) (g : va_W) : Prop := sg_sec h sp xs m g ∨ sg_gain h sp xs m g ∨ sg_win cI h sp xs m g ∨ sg_res cI h sp xs m g
theorem sg_facts {cI : ClassId} {h : Nat} {sp : fm_S} {xs : List Int} {m : Nat} {g : va_W} (hs : sg_ok cI h sp xs m g) : fm_ok sp ∧ ∀ v ∈ xs, fm_in v := by
  rcases hs with ⟨_, _, _, _, _, _, _, _, _, _, -, k⟩ | ⟨_, _, -, k⟩ | ⟨_, _, _, _, _, _, _, -, k⟩ | ⟨_, _, _, _, _, -, k⟩ <;> exact ⟨k.2.1, k.2.2.1⟩
theorem sg_m {cI : ClassId} {h : Nat} {sp : fm_S} {xs : List Int} {m : Nat} {g : va_W} (hs : sg_ok cI h sp xs m g) : True := trivial
theorem sg_k0 {a b c d e : Int} {sp : fm_S} (h : sp = (0, a, b, c, d, e)) {fl : Bool} {n : Nat} : fm_m sp fl n = n := if_pos (Or.inr (by rw [h]; exact (by decide : 0 < 2)))
theorem sg_k1 {a b c d e : Int} {sp : fm_S} (h : sp = (1, a, b, c, d, e)) {fl : Bool} {n : Nat} : fm_m sp fl n = n := if_pos (Or.inr (by rw [h]; exact (by decide : 1 < 2)))
theorem sg_k2 {len : Nat} {tt : Int32} {f g : Nat → Int32} {sp : fm_S} {xs : List Int} {m : Nat} (h : wn_ok len tt f g sp xs m) {n : Nat} : fm_m sp false n = n := by
  have k2 : sp.1 = 2 := by rw [h.1]
  unfold fm_m
  by_cases hz : n = 0 ∨ sp.1 < 2
  · rw [if_pos hz]
  · rw [if_neg hz, if_pos k2, if_neg (by decide)]
theorem sg_sg0 {a b c d e : Int} {sp : fm_S} {m n : Nat} (h : sp = (0, a, b, c, d, e)) (h1 : fm_m sp false (n - 1) ≤ m) (h2 : m < fm_m sp true n) : m + 1 = n := by
  rw [sg_k0 h] at h1 h2; omega
theorem sg_sg1 {a b c d e : Int} {sp : fm_S} {m n : Nat} (h : sp = (1, a, b, c, d, e)) (h1 : fm_m sp false (n - 1) ≤ m) (h2 : m < fm_m sp true n) : m + 1 = n := by
  rw [sg_k1 h] at h1 h2; omega
theorem sg_sg2 {len : Nat} {tt : Int32} {f g : Nat → Int32} {sp : fm_S} {xs : List Int} {m : Nat} (h : wn_ok len tt f g sp xs m) (h1 : fm_m sp false (xs.length - 1) ≤ m) : xs.length ≤ m + 1 := by
  rw [sg_k2 h] at h1; omega
theorem sg_sg3 {u d : Nat} {f : Nat → Int32} {sp : fm_S} {xs : List Int} {m : Nat} (h : rs_ok u d f sp xs m) (h1 : fm_m sp false (xs.length - 1) ≤ m) : xs.length * u ≤ m * d + u := by
  have hud := rs_ud h
  by_cases c : xs.length ≤ 1
  · have : xs.length * u ≤ 1 * u := Nat.mul_le_mul_right u c
    omega
  · rw [rs_mk h false (by omega), if_neg (by decide)] at h1
    have h2 : (xs.length - 1) * u ≤ m * d := by
      have h3 := Nat.div_mul_le_self ((xs.length - 1) * u + d - 1) d
      have h4 := Nat.mod_lt ((xs.length - 1) * u + d - 1) (show 0 < d by omega)
      have h5 := Nat.div_add_mod ((xs.length - 1) * u + d - 1) d
      have h6 : ((xs.length - 1) * u + d - 1) / d * d ≤ m * d := Nat.mul_le_mul_right d h1
      rw [Nat.mul_comm] at h5
      omega
    have h7 : xs.length * u = (xs.length - 1) * u + u := by
      rw [← Nat.succ_mul]; congr 1; omega
    omega

theorem sx_take : (⟨cn_Stage, "take", "(I)I"⟩ : MethodName).cls ≠ "java/lang/invoke/MethodHandle" ∧ (⟨cn_Stage, "take", "(I)I"⟩ : MethodName).cls ≠ "java/lang/invoke/VarHandle" ∧ (parseMethodDescriptor (⟨cn_Stage, "take", "(I)I"⟩ : MethodName).desc).map (fun d => d.parameters.length) = some 1 := by decide +kernel
set_option maxHeartbeats 4000000 in
theorem sg_run_take {p : Program} {l : Launch} {e : Env} {R : Room} {s : State} {mt : MethodId} {args : Array Value} {below : List Frame} {meth : Method} {cd : Code} {H : Heap} {locs : List Loc} {cells slots : Nat} {cc : ByteArray} {nL pc : Nat} {ls : Array Slot} {rest : List Value} {D : va_G} {cI cO : ClassId} {tE : Nat} {A : Nat → Prop} {g : va_W} (K : fq_Ctx p mt cd cc nL s args cn_Chain) (hK : fq_K D cI cO s) (hZ : fq_Z tE A s s.heap) (hS : va_S A s.heap H locs) (hc : fq_cut D A H g) {h : Nat} {sp : fm_S} {xs : List Int} {m : Nat} (hsg : sg_ok cI h sp xs m g) (x : Int32) (hm : m = fm_m sp false xs.length) (hx : fm_in x.toInt) (hlt : xs.length < 100000) (hmx : m + 1 < 300000) (hfr : 2 ≤ R.frames) (hlo : 42 ≤ R.locals) (hce : cells ≤ R.cells) (hsl : slots ≤ R.slots) (hsz : ls.size = nL) (hrest : (rest.map fun v => v.category).sum ≤ 8) (hdg : decode cc pc = .ok (.invokevirtual 65, 3)) : va_Run p l e R s mt args below meth cd H locs cells slots 0 0 (F0 mt pc ls (.int x :: .ref h :: rest)) rest (va_Qi (S := va_W) (fun r w => r = nI (fm_m sp false (xs.length + 1) - m) ∧ sg_ok cI h sp (xs ++ [x.toInt]) m w) (fq_Bw D (va_A g H.size)) (va_A g H.size) (Value.ref h :: [.int x]).toArray) (va_A g H.size) := by
  have hfm := sg_m hsg
  rcases hsg with ⟨b0, b1, b2, a1, a2, x0, x1, x2, y1, y2, rfl, hsc⟩ | ⟨fa, la, rfl, hgn⟩ | ⟨hw, hr, ha, len, tt, f, gg, rfl, hwn⟩ | ⟨u, d, hr, ha, f, rfl, hrs⟩
  · refine fq_weaki (fun r w hw => ⟨by rw [hw.1, sg_k0 hsc.1, hm, sg_k0 hsc.1, Nat.add_sub_cancel_left]; rfl, Or.inl hw.2⟩) (fq_rA (x := ⟨cn_Stage, "take", "(I)I"⟩) (C := cn_Section) K hK hZ hS hc (ct_Section_take l D cI cO tE h b0 b1 b2 a1 a2 x0 x1 x2 y1 y2 sp xs m x hsc hx _) yk_Section_take wd_635 wd_634 wd_613 wd_615 wn_614 sx_take 0 rfl rfl rfl ⟨⟨rfl, rfl⟩, ⟨Nat.le_trans (Nat.le_of_ble_eq_true rfl) hfr, Nat.le_trans (Nat.le_of_ble_eq_true rfl) hlo⟩, ⟨hce, hsl⟩⟩ hsz rfl hrest hdg)
  · refine fq_weaki (fun r w hw => ⟨by rw [hw.1, sg_k1 hgn.1, hm, sg_k1 hgn.1, Nat.add_sub_cancel_left]; rfl, Or.inr (Or.inl hw.2)⟩) (fq_rA (x := ⟨cn_Stage, "take", "(I)I"⟩) (C := cn_Gain) K hK hZ hS hc (ct_Gain_take l D cI cO tE h fa la sp xs m x hgn hx _) yk_Gain_take wd_617 wd_616 wd_613 wd_615 wn_614 sx_take 0 rfl rfl rfl ⟨⟨rfl, rfl⟩, ⟨Nat.le_trans (Nat.le_of_ble_eq_true rfl) hfr, Nat.le_trans (Nat.le_of_ble_eq_true rfl) hlo⟩, ⟨hce, hsl⟩⟩ hsz rfl hrest hdg)
  · refine fq_weaki (fun r w hw => ⟨by rw [hw.1, sg_k2 hwn, hm, sg_k2 hwn, Nat.add_sub_cancel_left]; rfl, Or.inr (Or.inr (Or.inl hw.2))⟩) (fq_rA (x := ⟨cn_Stage, "take", "(I)I"⟩) (C := cn_Window) K hK hZ hS hc (ct_Window_take l D cI cO tE h hw hr ha len tt f gg sp xs m hwn x hx (by omega) _) yk_Window_take wd_638 wd_637 wd_613 wd_615 wn_614 sx_take 0 rfl rfl rfl ⟨⟨rfl, rfl⟩, ⟨Nat.le_trans (Nat.le_of_ble_eq_true rfl) hfr, Nat.le_trans (Nat.le_of_ble_eq_true rfl) hlo⟩, ⟨hce, hsl⟩⟩ hsz rfl hrest hdg)
  · refine fq_weaki (fun r w hw => ⟨hw.1, Or.inr (Or.inr (Or.inr hw.2))⟩) (fq_rA (x := ⟨cn_Stage, "take", "(I)I"⟩) (C := cn_Resampler) K hK hZ hS hc (ct_Resampler_take l D cI cO tE h u d hr ha f sp xs m hrs x hx (by omega) _) yk_Resampler_take wd_620 wd_619 wd_613 wd_615 wn_614 sx_take 0 rfl rfl rfl ⟨⟨rfl, rfl⟩, ⟨Nat.le_trans (Nat.le_of_ble_eq_true rfl) hfr, Nat.le_trans (Nat.le_of_ble_eq_true rfl) hlo⟩, ⟨hce, hsl⟩⟩ hsz rfl hrest hdg)
theorem sx_finish : (⟨cn_Stage, "finish", "()I"⟩ : MethodName).cls ≠ "java/lang/invoke/MethodHandle" ∧ (⟨cn_Stage, "finish", "()I"⟩ : MethodName).cls ≠ "java/lang/invoke/VarHandle" ∧ (parseMethodDescriptor (⟨cn_Stage, "finish", "()I"⟩ : MethodName).desc).map (fun d => d.parameters.length) = some 0 := by decide +kernel
set_option maxHeartbeats 4000000 in
theorem sg_run_finish {p : Program} {l : Launch} {e : Env} {R : Room} {s : State} {mt : MethodId} {args : Array Value} {below : List Frame} {meth : Method} {cd : Code} {H : Heap} {locs : List Loc} {cells slots : Nat} {cc : ByteArray} {nL pc : Nat} {ls : Array Slot} {rest : List Value} {D : va_G} {cI cO : ClassId} {tE : Nat} {A : Nat → Prop} {g : va_W} (K : fq_Ctx p mt cd cc nL s args cn_Chain) (hK : fq_K D cI cO s) (hZ : fq_Z tE A s s.heap) (hS : va_S A s.heap H locs) (hc : fq_cut D A H g) {h : Nat} {sp : fm_S} {xs : List Int} {m : Nat} (hsg : sg_ok cI h sp xs m g) (hm : m = fm_m sp false xs.length) (hfr : 2 ≤ R.frames) (hlo : 41 ≤ R.locals) (hce : cells ≤ R.cells) (hsl : slots ≤ R.slots) (hsz : ls.size = nL) (hrest : (rest.map fun v => v.category).sum ≤ 8) (hdg : decode cc pc = .ok (.invokevirtual 54, 3)) : va_Run p l e R s mt args below meth cd H locs cells slots 0 0 (F0 mt pc ls (.ref h :: rest)) rest (va_Qi (S := va_W) (fun r w => r = nI (fm_m sp true xs.length - m) ∧ sg_ok cI h sp xs m w) (fq_Bw D (va_A g H.size)) (va_A g H.size) (Value.ref h :: []).toArray) (va_A g H.size) := by
  have hfm := sg_m hsg
  rcases hsg with ⟨b0, b1, b2, a1, a2, x0, x1, x2, y1, y2, rfl, hsc⟩ | ⟨fa, la, rfl, hgn⟩ | ⟨hw, hr, ha, len, tt, f, gg, rfl, hwn⟩ | ⟨u, d, hr, ha, f, rfl, hrs⟩
  · refine fq_weaki (fun r w hw => ⟨by rw [hw.1, hm, sg_k0 hsc.1, sg_k0 hsc.1, Nat.sub_self, nI_0], Or.inl hw.2⟩) (fq_rA (x := ⟨cn_Stage, "finish", "()I"⟩) (C := cn_Section) K hK hZ hS hc (ct_Section_finish l D cI cO tE h b0 b1 b2 a1 a2 x0 x1 x2 y1 y2 sp xs m hsc _) yk_Section_finish wd_701 wd_700 wd_691 wd_693 wn_692 sx_finish 0 rfl rfl rfl ⟨⟨rfl, rfl⟩, ⟨Nat.le_trans (Nat.le_of_ble_eq_true rfl) hfr, Nat.le_trans (Nat.le_of_ble_eq_true rfl) hlo⟩, ⟨hce, hsl⟩⟩ hsz rfl hrest hdg)
  · refine fq_weaki (fun r w hw => ⟨by rw [hw.1, hm, sg_k1 hgn.1, sg_k1 hgn.1, Nat.sub_self, nI_0], Or.inr (Or.inl hw.2)⟩) (fq_rA (x := ⟨cn_Stage, "finish", "()I"⟩) (C := cn_Gain) K hK hZ hS hc (ct_Gain_finish l D cI cO tE h fa la sp xs m hgn _) yk_Gain_finish wd_695 wd_694 wd_691 wd_693 wn_692 sx_finish 0 rfl rfl rfl ⟨⟨rfl, rfl⟩, ⟨Nat.le_trans (Nat.le_of_ble_eq_true rfl) hfr, Nat.le_trans (Nat.le_of_ble_eq_true rfl) hlo⟩, ⟨hce, hsl⟩⟩ hsz rfl hrest hdg)
  · refine fq_weaki (fun r w hw => ⟨by rw [hm]; exact hw.1, Or.inr (Or.inr (Or.inl hw.2))⟩) (fq_rA (x := ⟨cn_Stage, "finish", "()I"⟩) (C := cn_Window) K hK hZ hS hc (ct_Window_finish l D cI cO tE h hw hr ha len tt f gg sp xs m hwn  _) yk_Window_finish wd_704 wd_703 wd_691 wd_693 wn_692 sx_finish 0 rfl rfl rfl ⟨⟨rfl, rfl⟩, ⟨Nat.le_trans (Nat.le_of_ble_eq_true rfl) hfr, Nat.le_trans (Nat.le_of_ble_eq_true rfl) hlo⟩, ⟨hce, hsl⟩⟩ hsz rfl hrest hdg)
  · refine fq_weaki (fun r w hw => ⟨hw.1, Or.inr (Or.inr (Or.inr hw.2))⟩) (fq_rA (x := ⟨cn_Stage, "finish", "()I"⟩) (C := cn_Resampler) K hK hZ hS hc (ct_Resampler_finish l D cI cO tE h u d hr ha f sp xs m hrs  _) yk_Resampler_finish wd_698 wd_697 wd_691 wd_693 wn_692 sx_finish 0 rfl rfl rfl ⟨⟨rfl, rfl⟩, ⟨Nat.le_trans (Nat.le_of_ble_eq_true rfl) hfr, Nat.le_trans (Nat.le_of_ble_eq_true rfl) hlo⟩, ⟨hce, hsl⟩⟩ hsz rfl hrest hdg)
theorem sx_make : (⟨cn_Stage, "make", "()I"⟩ : MethodName).cls ≠ "java/lang/invoke/MethodHandle" ∧ (⟨cn_Stage, "make", "()I"⟩ : MethodName).cls ≠ "java/lang/invoke/VarHandle" ∧ (parseMethodDescriptor (⟨cn_Stage, "make", "()I"⟩ : MethodName).desc).map (fun d => d.parameters.length) = some 0 := by decide +kernel
set_option maxHeartbeats 4000000 in
theorem sg_run_make {p : Program} {l : Launch} {e : Env} {R : Room} {s : State} {mt : MethodId} {args : Array Value} {below : List Frame} {meth : Method} {cd : Code} {H : Heap} {locs : List Loc} {cells slots : Nat} {cc : ByteArray} {nL pc : Nat} {ls : Array Slot} {rest : List Value} {D : va_G} {cI cO : ClassId} {tE : Nat} {A : Nat → Prop} {g : va_W} (K : fq_Ctx p mt cd cc nL s args cn_Chain) (hK : fq_K D cI cO s) (hZ : fq_Z tE A s s.heap) (hS : va_S A s.heap H locs) (hc : fq_cut D A H g) {h : Nat} {sp : fm_S} {xs : List Int} {m : Nat} (hsg : sg_ok cI h sp xs m g) (hm : fm_m sp false (xs.length - 1) ≤ m) (hm2 : m < fm_m sp true xs.length) (hmx : m + 1 < 300000) (hfr : 3 ≤ R.frames) (hlo : 63 ≤ R.locals) (hce : cells ≤ R.cells) (hsl : slots ≤ R.slots) (hsz : ls.size = nL) (hrest : (rest.map fun v => v.category).sum ≤ 8) (hdg : decode cc pc = .ok (.invokevirtual 69, 3)) : va_Run p l e R s mt args below meth cd H locs cells slots 0 0 (F0 mt pc ls (.ref h :: rest)) rest (va_Qi (S := va_W) (fun r w => r.toInt = fm_y sp xs m ∧ sg_ok cI h sp xs (m + 1) w) (fq_Bw D (va_A g H.size)) (va_A g H.size) (Value.ref h :: []).toArray) (va_A g H.size) := by
  have hfm := sg_m hsg
  rcases hsg with ⟨b0, b1, b2, a1, a2, x0, x1, x2, y1, y2, rfl, hsc⟩ | ⟨fa, la, rfl, hgn⟩ | ⟨hw, hr, ha, len, tt, f, gg, rfl, hwn⟩ | ⟨u, d, hr, ha, f, rfl, hrs⟩
  · refine fq_weaki (fun r w hw => ⟨hw.1, Or.inl hw.2⟩) (fq_rA (x := ⟨cn_Stage, "make", "()I"⟩) (C := cn_Section) K hK hZ hS hc (ct_Section_make l D cI cO tE h b0 b1 b2 a1 a2 x0 x1 x2 y1 y2 sp xs m hsc (sg_sg0 hsc.1 hm hm2) _) yk_Section_make wd_677 wd_676 wd_645 wd_647 wn_646 sx_make 0 rfl rfl rfl ⟨⟨rfl, rfl⟩, ⟨Nat.le_trans (Nat.le_of_ble_eq_true rfl) hfr, Nat.le_trans (Nat.le_of_ble_eq_true rfl) hlo⟩, ⟨hce, hsl⟩⟩ hsz rfl hrest hdg)
  · refine fq_weaki (fun r w hw => ⟨hw.1, Or.inr (Or.inl hw.2)⟩) (fq_rA (x := ⟨cn_Stage, "make", "()I"⟩) (C := cn_Gain) K hK hZ hS hc (ct_Gain_make l D cI cO tE h fa la sp xs m hgn (sg_sg1 hgn.1 hm hm2) _) yk_Gain_make wd_649 wd_648 wd_645 wd_647 wn_646 sx_make 0 rfl rfl rfl ⟨⟨rfl, rfl⟩, ⟨Nat.le_trans (Nat.le_of_ble_eq_true rfl) hfr, Nat.le_trans (Nat.le_of_ble_eq_true rfl) hlo⟩, ⟨hce, hsl⟩⟩ hsz rfl hrest hdg)
  · refine fq_weaki (fun r w hw => ⟨hw.1, Or.inr (Or.inr (Or.inl hw.2))⟩) (fq_rA (x := ⟨cn_Stage, "make", "()I"⟩) (C := cn_Window) K hK hZ hS hc (ct_Window_make l D cI cO tE h hw hr ha len tt f gg sp xs m hwn (sg_sg2 hwn hm) hmx _) yk_Window_make wd_682 wd_681 wd_645 wd_647 wn_646 sx_make 0 rfl rfl rfl ⟨⟨rfl, rfl⟩, ⟨Nat.le_trans (Nat.le_of_ble_eq_true rfl) hfr, Nat.le_trans (Nat.le_of_ble_eq_true rfl) hlo⟩, ⟨hce, hsl⟩⟩ hsz rfl hrest hdg)
  · refine fq_weaki (fun r w hw => ⟨hw.1, Or.inr (Or.inr (Or.inr hw.2))⟩) (fq_rA (x := ⟨cn_Stage, "make", "()I"⟩) (C := cn_Resampler) K hK hZ hS hc (ct_Resampler_make l D cI cO tE h u d hr ha f sp xs m hrs (sg_sg3 hrs hm) hmx _) yk_Resampler_make wd_665 wd_664 wd_645 wd_647 wn_646 sx_make 0 rfl rfl rfl ⟨⟨rfl, rfl⟩, ⟨Nat.le_trans (Nat.le_of_ble_eq_true rfl) hfr, Nat.le_trans (Nat.le_of_ble_eq_true rfl) hlo⟩, ⟨hce, hsl⟩⟩ hsz rfl hrest hdg)
theorem sx_clear : (⟨cn_Stage, "clear", "()V"⟩ : MethodName).cls ≠ "java/lang/invoke/MethodHandle" ∧ (⟨cn_Stage, "clear", "()V"⟩ : MethodName).cls ≠ "java/lang/invoke/VarHandle" ∧ (parseMethodDescriptor (⟨cn_Stage, "clear", "()V"⟩ : MethodName).desc).map (fun d => d.parameters.length) = some 0 := by decide +kernel
set_option maxHeartbeats 4000000 in
theorem sg_run_clear {p : Program} {l : Launch} {e : Env} {R : Room} {s : State} {mt : MethodId} {args : Array Value} {below : List Frame} {meth : Method} {cd : Code} {H : Heap} {locs : List Loc} {cells slots : Nat} {cc : ByteArray} {nL pc : Nat} {ls : Array Slot} {rest : List Value} {D : va_G} {cI cO : ClassId} {tE : Nat} {A : Nat → Prop} {g : va_W} (K : fq_Ctx p mt cd cc nL s args cn_Chain) (hK : fq_K D cI cO s) (hZ : fq_Z tE A s s.heap) (hS : va_S A s.heap H locs) (hc : fq_cut D A H g) {h : Nat} {sp : fm_S} {xs : List Int} {m : Nat} (hsg : sg_ok cI h sp xs m g)  (hfr : 2 ≤ R.frames) (hlo : 40 ≤ R.locals) (hce : cells ≤ R.cells) (hsl : slots ≤ R.slots) (hsz : ls.size = nL) (hrest : (rest.map fun v => v.category).sum ≤ 8) (hdg : decode cc pc = .ok (.invokevirtual 45, 3)) : va_Run p l e R s mt args below meth cd H locs cells slots 0 0 (F0 mt pc ls (.ref h :: rest)) rest (va_Qv (S := va_W) (fun w => sg_ok cI h sp [] 0 w) (fq_Bw D (va_A g H.size)) (va_A g H.size) (Value.ref h :: []).toArray) (va_A g H.size) := by
  have hfm := sg_m hsg
  rcases hsg with ⟨b0, b1, b2, a1, a2, x0, x1, x2, y1, y2, rfl, hsc⟩ | ⟨fa, la, rfl, hgn⟩ | ⟨hw, hr, ha, len, tt, f, gg, rfl, hwn⟩ | ⟨u, d, hr, ha, f, rfl, hrs⟩
  · refine fq_weakv (fun  w hw => Or.inl hw) (fq_rA (x := ⟨cn_Stage, "clear", "()V"⟩) (C := cn_Section) K hK hZ hS hc (ct_Section_clear l D cI cO tE h b0 b1 b2 a1 a2 x0 x1 x2 y1 y2 sp xs m hsc _) yk_Section_clear wd_531 wd_530 wd_517 wd_519 wn_518 sx_clear 0 rfl rfl rfl ⟨⟨rfl, rfl⟩, ⟨Nat.le_trans (Nat.le_of_ble_eq_true rfl) hfr, Nat.le_trans (Nat.le_of_ble_eq_true rfl) hlo⟩, ⟨hce, hsl⟩⟩ hsz rfl hrest hdg)
  · refine fq_weakv (fun  w hw => Or.inr (Or.inl hw)) (fq_rA (x := ⟨cn_Stage, "clear", "()V"⟩) (C := cn_Gain) K hK hZ hS hc (ct_Gain_clear l D cI cO tE h fa la sp xs m hgn _) yk_Gain_clear wd_521 wd_520 wd_517 wd_519 wn_518 sx_clear 0 rfl rfl rfl ⟨⟨rfl, rfl⟩, ⟨Nat.le_trans (Nat.le_of_ble_eq_true rfl) hfr, Nat.le_trans (Nat.le_of_ble_eq_true rfl) hlo⟩, ⟨hce, hsl⟩⟩ hsz rfl hrest hdg)
  · refine fq_weakv (fun  w hw => Or.inr (Or.inr (Or.inl hw))) (fq_rA (x := ⟨cn_Stage, "clear", "()V"⟩) (C := cn_Window) K hK hZ hS hc (ct_Window_clear l D cI cO tE h hw hr ha len tt f gg sp xs m hwn  _) yk_Window_clear wd_534 wd_533 wd_517 wd_519 wn_518 sx_clear 0 rfl rfl rfl ⟨⟨rfl, rfl⟩, ⟨Nat.le_trans (Nat.le_of_ble_eq_true rfl) hfr, Nat.le_trans (Nat.le_of_ble_eq_true rfl) hlo⟩, ⟨hce, hsl⟩⟩ hsz rfl hrest hdg)
  · refine fq_weakv (fun  w hw => Or.inr (Or.inr (Or.inr hw))) (fq_rA (x := ⟨cn_Stage, "clear", "()V"⟩) (C := cn_Resampler) K hK hZ hS hc (ct_Resampler_clear l D cI cO tE h u d hr ha f sp xs m hrs  _) yk_Resampler_clear wd_524 wd_523 wd_517 wd_519 wn_518 sx_clear 0 rfl rfl rfl ⟨⟨rfl, rfl⟩, ⟨Nat.le_trans (Nat.le_of_ble_eq_true rfl) hfr, Nat.le_trans (Nat.le_of_ble_eq_true rfl) hlo⟩, ⟨hce, hsl⟩⟩ hsz rfl hrest hdg)
end
section
theorem wd_2 : Cond.selects cn_AL my_AL_add2 my_AL_add2 ∈ fq_TB := fq_in 2 (by decide +kernel) rfl
theorem wd_3 : Cond.selects cn_AL my_AL_grow my_AL_grow ∈ fq_TB := fq_in 3 (by decide +kernel) rfl
theorem wd_4 : Cond.selects cn_AL my_AL_grow2 my_AL_grow2 ∈ fq_TB := fq_in 4 (by decide +kernel) rfl
theorem wd_28 : Cond.initialized cn_AbC ∈ fq_TB := fq_in 28 (by decide +kernel) rfl
theorem wd_29 : Cond.initialized cn_AbL ∈ fq_TB := fq_in 29 (by decide +kernel) rfl
theorem wd_30 : Cond.initialized cn_AL ∈ fq_TB := fq_in 30 (by decide +kernel) rfl
theorem wd_46 : Cond.initialized cn_Ob ∈ fq_TB := fq_in 46 (by decide +kernel) rfl
theorem wd_47 : Cond.initialized cn_Pr ∈ fq_TB := fq_in 47 (by decide +kernel) rfl
theorem wd_65 : Cond.instanceMethod my_AL_init ∈ fq_TB := fq_in 65 (by decide +kernel) rfl
theorem wd_66 : Cond.code my_AL_init cb_AL_init 1 none ∈ fq_TB := fq_in 66 (by decide +kernel) rfl
theorem wd_67 : Cond.methodLink cn_AL 1 my_AbL_init ∈ fq_TB := fq_in 67 (by decide +kernel) rfl
theorem wd_68 : Cond.instanceMethod my_AbL_init ∈ fq_TB := fq_in 68 (by decide +kernel) rfl
theorem wd_69 : Cond.code my_AbL_init cb_AbL_init 1 none ∈ fq_TB := fq_in 69 (by decide +kernel) rfl
theorem wd_70 : Cond.methodLink cn_AbL 1 my_AbC_init ∈ fq_TB := fq_in 70 (by decide +kernel) rfl
theorem wd_71 : Cond.instanceMethod my_AbC_init ∈ fq_TB := fq_in 71 (by decide +kernel) rfl
theorem wd_72 : Cond.code my_AbC_init cb_AbC_init 1 none ∈ fq_TB := fq_in 72 (by decide +kernel) rfl
theorem wd_73 : Cond.methodLink cn_AbC 1 my_Oj_init ∈ fq_TB := fq_in 73 (by decide +kernel) rfl
theorem wd_74 : Cond.fieldLink cn_AL 39 cn_AL "DEFAULTCAPACITY_EMPTY_ELEMENTDATA" "[Ljava/lang/Object;" ∈ fq_TB := fq_in 74 (by decide +kernel) rfl
theorem wd_76 : Cond.fieldLink cn_AL 9 cn_AL "elementData" "[Ljava/lang/Object;" ∈ fq_TB := fq_in 76 (by decide +kernel) rfl
theorem wd_77 : Cond.fieldLink cn_AL 48 cn_AL "size" "I" ∈ fq_TB := fq_in 77 (by decide +kernel) rfl
theorem wd_78 : Cond.fieldLink cn_AbL 7 cn_AbL "modCount" "I" ∈ fq_TB := fq_in 78 (by decide +kernel) rfl
theorem wd_79 : Cond.fieldLink cn_AL 63 cn_AL "modCount" "I" ∈ fq_TB := fq_in 79 (by decide +kernel) rfl
theorem wd_80 : Cond.sameField cn_AL cn_AbL "modCount" "I" ∈ fq_TB := fq_in 80 (by decide +kernel) rfl
theorem wd_229 : Cond.instanceMethod my_AL_size ∈ fq_TB := fq_in 229 (by decide +kernel) rfl
theorem wd_230 : Cond.selects cn_AL my_AL_size my_AL_size ∈ fq_TB := fq_in 230 (by decide +kernel) rfl
theorem wd_231 : Cond.code my_AL_size cb_AL_size 1 (some .int) ∈ fq_TB := fq_in 231 (by decide +kernel) rfl
theorem wd_277 : Cond.instanceMethod my_AL_add ∈ fq_TB := fq_in 277 (by decide +kernel) rfl
theorem wd_278 : Cond.selects cn_AL my_AL_add my_AL_add ∈ fq_TB := fq_in 278 (by decide +kernel) rfl
theorem wd_279 : Cond.code my_AL_add cb_AL_add 2 (some .boolean) ∈ fq_TB := fq_in 279 (by decide +kernel) rfl
theorem wd_280 : Cond.methodLink cn_AL 131 my_AL_add2 ∈ fq_TB := fq_in 280 (by decide +kernel) rfl
theorem wd_282 : Cond.instanceMethod my_AL_add2 ∈ fq_TB := fq_in 282 (by decide +kernel) rfl
theorem wd_283 : Cond.code my_AL_add2 cb_AL_add2 4 none ∈ fq_TB := fq_in 283 (by decide +kernel) rfl
theorem wd_284 : Cond.methodLink cn_AL 129 my_AL_grow ∈ fq_TB := fq_in 284 (by decide +kernel) rfl
theorem wd_286 : Cond.instanceMethod my_AL_grow ∈ fq_TB := fq_in 286 (by decide +kernel) rfl
theorem wd_287 : Cond.code my_AL_grow cb_AL_grow 1 (some (.array (.object "java/lang/Object"))) ∈ fq_TB := fq_in 287 (by decide +kernel) rfl
theorem wd_288 : Cond.methodLink cn_AL 69 my_AL_grow2 ∈ fq_TB := fq_in 288 (by decide +kernel) rfl
theorem wd_290 : Cond.instanceMethod my_AL_grow2 ∈ fq_TB := fq_in 290 (by decide +kernel) rfl
theorem wd_291 : Cond.code my_AL_grow2 cb_AL_grow2 4 (some (.array (.object "java/lang/Object"))) ∈ fq_TB := fq_in 291 (by decide +kernel) rfl
theorem wd_330 : Cond.methodLink cn_AL 79 my_Ma_max ∈ fq_TB := fq_in 330 (by decide +kernel) rfl
theorem wd_331 : Cond.classLink cn_AL 7 cn_Oj ∈ fq_TB := fq_in 331 (by decide +kernel) rfl
theorem wd_467 : Cond.instanceMethod my_AL_get ∈ fq_TB := fq_in 467 (by decide +kernel) rfl
theorem wd_468 : Cond.selects cn_AL my_AL_get my_AL_get ∈ fq_TB := fq_in 468 (by decide +kernel) rfl
theorem wd_469 : Cond.code my_AL_get cb_AL_get 2 (some (.object "java/lang/Object")) ∈ fq_TB := fq_in 469 (by decide +kernel) rfl
theorem wd_470 : Cond.methodLink cn_AL 118 my_Ob_checkIndex ∈ fq_TB := fq_in 470 (by decide +kernel) rfl
theorem wd_471 : Cond.static my_Ob_checkIndex ∈ fq_TB := fq_in 471 (by decide +kernel) rfl
theorem wd_472 : Cond.code my_Ob_checkIndex cb_Ob_checkIndex 2 (some .int) ∈ fq_TB := fq_in 472 (by decide +kernel) rfl
theorem wd_473 : Cond.methodLink cn_Ob 105 my_Pr_checkIndex ∈ fq_TB := fq_in 473 (by decide +kernel) rfl
theorem wd_474 : Cond.static my_Pr_checkIndex ∈ fq_TB := fq_in 474 (by decide +kernel) rfl
theorem wd_475 : Cond.code my_Pr_checkIndex cb_Pr_checkIndex 3 (some .int) ∈ fq_TB := fq_in 475 (by decide +kernel) rfl
theorem wd_476 : Cond.methodLink cn_AL 123 my_AL_elementData ∈ fq_TB := fq_in 476 (by decide +kernel) rfl
theorem wd_477 : Cond.instanceMethod my_AL_elementData ∈ fq_TB := fq_in 477 (by decide +kernel) rfl
theorem wd_478 : Cond.selects cn_AL my_AL_elementData my_AL_elementData ∈ fq_TB := fq_in 478 (by decide +kernel) rfl
theorem wd_479 : Cond.code my_AL_elementData cb_AL_elementData 2 (some (.object "java/lang/Object")) ∈ fq_TB := fq_in 479 (by decide +kernel) rfl

section FO
variable {p : Program} {l : Launch} {e : Env} {R : Room} {s : State} {m : MethodId} {args : Array Value} {below : List Frame} {meth : Method} {c : Code} {H : Heap} {locs : List Loc} {cells slots : Nat} {Q : State → Prop}
variable {cc : ByteArray} {nL pc : Nat} {ls : Array Slot} {rest : List Value} {D : va_G} {cI cO : ClassId} {tE : Nat} {A : Nat → Prop} {ws : va_W} {own : String} {ci index : Nat} {C ref : String} {T : u_T} {N : Nat} {ty : Nat → FieldType} {a : Nat} {fs : List Value} {v : Value}
theorem fq_getS (K : fq_Ctx p m c cc nL s args own) (hK : fq_K D cI cO s) (hL : fq_L ci C T N ty) (hP : va_P D fq_cl ws H) (q0 k : Nat) (he : ws[q0]? = some (a, .inr (ci, fs))) (hk : k < N) (hlink : Cond.fieldLink own index ref (T k).2.1 (T k).2.2.1 ∈ fq_TB) (hsame : Cond.sameField ref (T k).1 (T k).2.1 (T k).2.2.1 ∈ fq_TB) (hv : fs[k]? = some v) (hdg : decode cc pc = .ok (.getfield index, 3))
    (kk : W p l e R s m args below meth c H locs cells slots Q (F0 m (pc + 3) ls (v :: rest))) : W p l e R s m args below meth c H locs cells slots Q (F0 m pc ls (.ref a :: rest)) :=
  va_get K.1 K.2.1 K.2.2.2.2 hL.2.1 K.2.2.2.1 hK.1 hP q0 he hL.1 k hk (K.2.2.2.2 _ hlink) (fun x9 h9 => u_same (K.2.2.2.2 _ hsame) x9 h9) hv hdg kk
theorem fq_putS (K : fq_Ctx p m c cc nL s args own) (hK : fq_K D cI cO s) (hL : fq_L ci C T N ty) (hP : va_P D fq_cl ws H) (hD : va_D A ws) (hS : va_S A s.heap H locs) (q0 k : Nat) (he : ws[q0]? = some (a, .inr (ci, fs))) (hk : k < N) (hlink : Cond.fieldLink own index ref (T k).2.1 (T k).2.2.1 ∈ fq_TB) (hsame : Cond.sameField ref (T k).1 (T k).2.1 (T k).2.2.1 ∈ fq_TB) (hfin : (T k).2.2.2 = false) (hn : narrow (ty k) v = v) (hfit : fits (ty k) v = true) (hl : k < fs.length) (hdg : decode cc pc = .ok (.putfield index, 3))
    (kk : ∀ (H1 : Heap) (locs1 : List Loc), va_P D fq_cl (ws.set q0 (a, .inr (ci, fs.set k v))) H1 → va_D A (ws.set q0 (a, .inr (ci, fs.set k v))) → va_S A s.heap H1 locs1 → W p l e R s m args below meth c H1 locs1 cells slots Q (F0 m (pc + 3) ls rest)) : W p l e R s m args below meth c H locs cells slots Q (F0 m pc ls (v :: .ref a :: rest)) :=
  va_put K.1 K.2.1 K.2.2.2.2 hL.2.1 ty hL.2.2.1 hL.2.2.2 K.2.2.2.1 hK.1 hP hD hS q0 he hL.1 k hk (K.2.2.2.2 _ hlink) (fun x9 h9 => u_same (K.2.2.2.2 _ hsame) x9 h9) hfin (hL.2.2.1 k hk) hn hfit hl hdg kk
theorem fq_newO (K : fq_Ctx p m c cc nL s args own) (hK : fq_K D cI cO s) (hcl : Cond.classLink own index "java/lang/Object" ∈ fq_TB) (hP : va_P D fq_cl ws H) (hD : va_D A ws) (hS : va_S A s.heap H locs) (hA : ∀ q, s.heap.size ≤ q → A q) {i : Int32} (n : Nat) (hi : i = nI n) (hn : n < 100000) (h1 : cells + 1 ≤ R.cells) (h2 : slots + n ≤ R.slots) (hdg : decode cc pc = .ok (.anewarray index, 3))
    (kk : ∀ (q : Nat) (H1 : Heap), va_P D fq_cl (ws ++ [(q, .inl (cO, n, .inr (.inr (.inr (.inr (fun _ => none))))))]) H1 → va_D A (ws ++ [(q, .inl (cO, n, .inr (.inr (.inr (.inr (fun _ => none))))))]) → va_S A s.heap H1 locs → W p l e R s m args below meth c H1 locs (cells + 1) (slots + n) Q (F0 m (pc + 3) ls (.ref q :: rest))) : W p l e R s m args below meth c H locs cells slots Q (F0 m pc ls (.int i :: rest)) := by
  subst hi
  have hn2 : n < 2 ^ 31 := by omega
  refine va_newq K.1 K.2.1 K.2.2.2.1 (K.2.2.2.2 _ hcl) hK.2.2.2.2.2 hK.1 hP hD hS hA (nI_pos hn2) (nI_clamp hn2) (by omega) h1 h2 hdg (fun q cA H1 hK1 hP1 hD1 hS1 => ?_)
  obtain ⟨_, _, _, _, _, e1⟩ := (hK1.2 2 (cA, .object "java/lang/Object") rfl).2
  obtain ⟨_, _, _, _, _, e2⟩ := (hK.1.2 1 (cO, .object "java/lang/Object") rfl).2
  have e3 : cA = cO := Option.some.inj (e1.symm.trans e2)
  subst e3
  exact kk q H1 hP1 hD1 hS1
end FO

theorem dc_AbC_init_0 : decode cb_AbC_init 0 = .ok (.aload_n 0, 1) := by decide +kernel
theorem dc_AbC_init_1 : decode cb_AbC_init 1 = .ok (.invokespecial 1, 3) := by decide +kernel
theorem dc_AbC_init_4 : decode cb_AbC_init 4 = .ok (.return_, 1) := by decide +kernel
theorem yk_AbC_init : fq_Y my_AbC_init cb_AbC_init 1 none 0 := ⟨wd_72, wd_28, by decide +kernel⟩
theorem dc_AbL_init_0 : decode cb_AbL_init 0 = .ok (.aload_n 0, 1) := by decide +kernel
theorem dc_AbL_init_1 : decode cb_AbL_init 1 = .ok (.invokespecial 1, 3) := by decide +kernel
theorem dc_AbL_init_4 : decode cb_AbL_init 4 = .ok (.aload_n 0, 1) := by decide +kernel
theorem dc_AbL_init_5 : decode cb_AbL_init 5 = .ok (.iconst 0, 1) := by decide +kernel
theorem dc_AbL_init_6 : decode cb_AbL_init 6 = .ok (.putfield 7, 3) := by decide +kernel
theorem dc_AbL_init_9 : decode cb_AbL_init 9 = .ok (.return_, 1) := by decide +kernel
theorem yk_AbL_init : fq_Y my_AbL_init cb_AbL_init 1 none 0 := ⟨wd_69, wd_29, by decide +kernel⟩
theorem dc_AL_init_0 : decode cb_AL_init 0 = .ok (.aload_n 0, 1) := by decide +kernel
theorem dc_AL_init_1 : decode cb_AL_init 1 = .ok (.invokespecial 1, 3) := by decide +kernel
theorem dc_AL_init_4 : decode cb_AL_init 4 = .ok (.aload_n 0, 1) := by decide +kernel
theorem dc_AL_init_5 : decode cb_AL_init 5 = .ok (.getstatic 39, 3) := by decide +kernel
theorem dc_AL_init_8 : decode cb_AL_init 8 = .ok (.putfield 9, 3) := by decide +kernel
theorem dc_AL_init_11 : decode cb_AL_init 11 = .ok (.return_, 1) := by decide +kernel
theorem yk_AL_init : fq_Y my_AL_init cb_AL_init 1 none 0 := ⟨wd_66, wd_30, by decide +kernel⟩
theorem dc_AL_size_0 : decode cb_AL_size 0 = .ok (.aload_n 0, 1) := by decide +kernel
theorem dc_AL_size_1 : decode cb_AL_size 1 = .ok (.getfield 48, 3) := by decide +kernel
theorem dc_AL_size_4 : decode cb_AL_size 4 = .ok (.ireturn, 1) := by decide +kernel
theorem yk_AL_size : fq_Y my_AL_size cb_AL_size 1 (some .int) 0 := ⟨wd_231, wd_30, by decide +kernel⟩
theorem dc_Pr_checkIndex_0 : decode cb_Pr_checkIndex 0 = .ok (.iload_n 0, 1) := by decide +kernel
theorem dc_Pr_checkIndex_1 : decode cb_Pr_checkIndex 1 = .ok (.ifCond .lt 8, 3) := by decide +kernel
theorem dc_Pr_checkIndex_4 : decode cb_Pr_checkIndex 4 = .ok (.iload_n 0, 1) := by decide +kernel
theorem dc_Pr_checkIndex_5 : decode cb_Pr_checkIndex 5 = .ok (.iload_n 1, 1) := by decide +kernel
theorem dc_Pr_checkIndex_6 : decode cb_Pr_checkIndex 6 = .ok (.if_icmp .lt 10, 3) := by decide +kernel
theorem dc_Pr_checkIndex_9 : decode cb_Pr_checkIndex 9 = .ok (.aload_n 2, 1) := by decide +kernel
theorem dc_Pr_checkIndex_10 : decode cb_Pr_checkIndex 10 = .ok (.iload_n 0, 1) := by decide +kernel
theorem dc_Pr_checkIndex_11 : decode cb_Pr_checkIndex 11 = .ok (.iload_n 1, 1) := by decide +kernel
theorem dc_Pr_checkIndex_12 : decode cb_Pr_checkIndex 12 = .ok (.invokestatic 95, 3) := by decide +kernel
theorem dc_Pr_checkIndex_15 : decode cb_Pr_checkIndex 15 = .ok (.athrow, 1) := by decide +kernel
theorem dc_Pr_checkIndex_16 : decode cb_Pr_checkIndex 16 = .ok (.iload_n 0, 1) := by decide +kernel
theorem dc_Pr_checkIndex_17 : decode cb_Pr_checkIndex 17 = .ok (.ireturn, 1) := by decide +kernel
theorem yk_Pr_checkIndex : fq_Y my_Pr_checkIndex cb_Pr_checkIndex 3 (some .int) 3 := ⟨wd_475, wd_47, by decide +kernel⟩
theorem dc_Ob_checkIndex_0 : decode cb_Ob_checkIndex 0 = .ok (.iload_n 0, 1) := by decide +kernel
theorem dc_Ob_checkIndex_1 : decode cb_Ob_checkIndex 1 = .ok (.iload_n 1, 1) := by decide +kernel
theorem dc_Ob_checkIndex_2 : decode cb_Ob_checkIndex 2 = .ok (.aconst_null, 1) := by decide +kernel
theorem dc_Ob_checkIndex_3 : decode cb_Ob_checkIndex 3 = .ok (.invokestatic 105, 3) := by decide +kernel
theorem dc_Ob_checkIndex_6 : decode cb_Ob_checkIndex 6 = .ok (.ireturn, 1) := by decide +kernel
theorem yk_Ob_checkIndex : fq_Y my_Ob_checkIndex cb_Ob_checkIndex 2 (some .int) 2 := ⟨wd_472, wd_46, by decide +kernel⟩
theorem dc_AL_elementData_0 : decode cb_AL_elementData 0 = .ok (.aload_n 0, 1) := by decide +kernel
theorem dc_AL_elementData_1 : decode cb_AL_elementData 1 = .ok (.getfield 9, 3) := by decide +kernel
theorem dc_AL_elementData_4 : decode cb_AL_elementData 4 = .ok (.iload_n 1, 1) := by decide +kernel
theorem dc_AL_elementData_5 : decode cb_AL_elementData 5 = .ok (.aaload, 1) := by decide +kernel
theorem dc_AL_elementData_6 : decode cb_AL_elementData 6 = .ok (.areturn, 1) := by decide +kernel
theorem yk_AL_elementData : fq_Y my_AL_elementData cb_AL_elementData 2 (some (.object "java/lang/Object")) 1 := ⟨wd_479, wd_30, by decide +kernel⟩
theorem dc_AL_get_0 : decode cb_AL_get 0 = .ok (.iload_n 1, 1) := by decide +kernel
theorem dc_AL_get_1 : decode cb_AL_get 1 = .ok (.aload_n 0, 1) := by decide +kernel
theorem dc_AL_get_2 : decode cb_AL_get 2 = .ok (.getfield 48, 3) := by decide +kernel
theorem dc_AL_get_5 : decode cb_AL_get 5 = .ok (.invokestatic 118, 3) := by decide +kernel
theorem dc_AL_get_8 : decode cb_AL_get 8 = .ok (.pop, 1) := by decide +kernel
theorem dc_AL_get_9 : decode cb_AL_get 9 = .ok (.aload_n 0, 1) := by decide +kernel
theorem dc_AL_get_10 : decode cb_AL_get 10 = .ok (.iload_n 1, 1) := by decide +kernel
theorem dc_AL_get_11 : decode cb_AL_get 11 = .ok (.invokevirtual 123, 3) := by decide +kernel
theorem dc_AL_get_14 : decode cb_AL_get 14 = .ok (.areturn, 1) := by decide +kernel
theorem yk_AL_get : fq_Y my_AL_get cb_AL_get 2 (some (.object "java/lang/Object")) 1 := ⟨wd_469, wd_30, by decide +kernel⟩
theorem dc_AL_grow2_0 : decode cb_AL_grow2 0 = .ok (.aload_n 0, 1) := by decide +kernel
theorem dc_AL_grow2_1 : decode cb_AL_grow2 1 = .ok (.getfield 9, 3) := by decide +kernel
theorem dc_AL_grow2_4 : decode cb_AL_grow2 4 = .ok (.arraylength, 1) := by decide +kernel
theorem dc_AL_grow2_5 : decode cb_AL_grow2 5 = .ok (.istore_n 2, 1) := by decide +kernel
theorem dc_AL_grow2_6 : decode cb_AL_grow2 6 = .ok (.iload_n 2, 1) := by decide +kernel
theorem dc_AL_grow2_7 : decode cb_AL_grow2 7 = .ok (.ifCond .gt 13, 3) := by decide +kernel
theorem dc_AL_grow2_10 : decode cb_AL_grow2 10 = .ok (.aload_n 0, 1) := by decide +kernel
theorem dc_AL_grow2_11 : decode cb_AL_grow2 11 = .ok (.getfield 9, 3) := by decide +kernel
theorem dc_AL_grow2_14 : decode cb_AL_grow2 14 = .ok (.getstatic 39, 3) := by decide +kernel
theorem dc_AL_grow2_17 : decode cb_AL_grow2 17 = .ok (.if_acmp .eq 28, 3) := by decide +kernel
theorem dc_AL_grow2_20 : decode cb_AL_grow2 20 = .ok (.iload_n 2, 1) := by decide +kernel
theorem dc_AL_grow2_21 : decode cb_AL_grow2 21 = .ok (.iload_n 1, 1) := by decide +kernel
theorem dc_AL_grow2_22 : decode cb_AL_grow2 22 = .ok (.iload_n 2, 1) := by decide +kernel
theorem dc_AL_grow2_23 : decode cb_AL_grow2 23 = .ok (.isub, 1) := by decide +kernel
theorem dc_AL_grow2_24 : decode cb_AL_grow2 24 = .ok (.iload_n 2, 1) := by decide +kernel
theorem dc_AL_grow2_25 : decode cb_AL_grow2 25 = .ok (.iconst 1, 1) := by decide +kernel
theorem dc_AL_grow2_26 : decode cb_AL_grow2 26 = .ok (.ishr, 1) := by decide +kernel
theorem dc_AL_grow2_27 : decode cb_AL_grow2 27 = .ok (.invokestatic 73, 3) := by decide +kernel
theorem dc_AL_grow2_30 : decode cb_AL_grow2 30 = .ok (.istore_n 3, 1) := by decide +kernel
theorem dc_AL_grow2_31 : decode cb_AL_grow2 31 = .ok (.aload_n 0, 1) := by decide +kernel
theorem dc_AL_grow2_32 : decode cb_AL_grow2 32 = .ok (.aload_n 0, 1) := by decide +kernel
theorem dc_AL_grow2_33 : decode cb_AL_grow2 33 = .ok (.getfield 9, 3) := by decide +kernel
theorem dc_AL_grow2_36 : decode cb_AL_grow2 36 = .ok (.iload_n 3, 1) := by decide +kernel
theorem dc_AL_grow2_37 : decode cb_AL_grow2 37 = .ok (.invokestatic 66, 3) := by decide +kernel
theorem dc_AL_grow2_40 : decode cb_AL_grow2 40 = .ok (.dup_x1, 1) := by decide +kernel
theorem dc_AL_grow2_41 : decode cb_AL_grow2 41 = .ok (.putfield 9, 3) := by decide +kernel
theorem dc_AL_grow2_44 : decode cb_AL_grow2 44 = .ok (.areturn, 1) := by decide +kernel
theorem dc_AL_grow2_45 : decode cb_AL_grow2 45 = .ok (.aload_n 0, 1) := by decide +kernel
theorem dc_AL_grow2_46 : decode cb_AL_grow2 46 = .ok (.bipush 10, 2) := by decide +kernel
theorem dc_AL_grow2_48 : decode cb_AL_grow2 48 = .ok (.iload_n 1, 1) := by decide +kernel
theorem dc_AL_grow2_49 : decode cb_AL_grow2 49 = .ok (.invokestatic 79, 3) := by decide +kernel
theorem dc_AL_grow2_52 : decode cb_AL_grow2 52 = .ok (.anewarray 7, 3) := by decide +kernel
theorem dc_AL_grow2_55 : decode cb_AL_grow2 55 = .ok (.dup_x1, 1) := by decide +kernel
theorem dc_AL_grow2_56 : decode cb_AL_grow2 56 = .ok (.putfield 9, 3) := by decide +kernel
theorem dc_AL_grow2_59 : decode cb_AL_grow2 59 = .ok (.areturn, 1) := by decide +kernel
theorem yk_AL_grow2 : fq_Y my_AL_grow2 cb_AL_grow2 4 (some (.array (.object "java/lang/Object"))) 1 := ⟨wd_291, wd_30, by decide +kernel⟩
theorem dc_AL_grow_0 : decode cb_AL_grow 0 = .ok (.aload_n 0, 1) := by decide +kernel
theorem dc_AL_grow_1 : decode cb_AL_grow 1 = .ok (.aload_n 0, 1) := by decide +kernel
theorem dc_AL_grow_2 : decode cb_AL_grow 2 = .ok (.getfield 48, 3) := by decide +kernel
theorem dc_AL_grow_5 : decode cb_AL_grow 5 = .ok (.iconst 1, 1) := by decide +kernel
theorem dc_AL_grow_6 : decode cb_AL_grow 6 = .ok (.iadd, 1) := by decide +kernel
theorem dc_AL_grow_7 : decode cb_AL_grow 7 = .ok (.invokevirtual 69, 3) := by decide +kernel
theorem dc_AL_grow_10 : decode cb_AL_grow 10 = .ok (.areturn, 1) := by decide +kernel
theorem yk_AL_grow : fq_Y my_AL_grow cb_AL_grow 1 (some (.array (.object "java/lang/Object"))) 0 := ⟨wd_287, wd_30, by decide +kernel⟩
theorem dc_AL_add2_0 : decode cb_AL_add2 0 = .ok (.iload_n 3, 1) := by decide +kernel
theorem dc_AL_add2_1 : decode cb_AL_add2 1 = .ok (.aload_n 2, 1) := by decide +kernel
theorem dc_AL_add2_2 : decode cb_AL_add2 2 = .ok (.arraylength, 1) := by decide +kernel
theorem dc_AL_add2_3 : decode cb_AL_add2 3 = .ok (.if_icmp .ne 8, 3) := by decide +kernel
theorem dc_AL_add2_6 : decode cb_AL_add2 6 = .ok (.aload_n 0, 1) := by decide +kernel
theorem dc_AL_add2_7 : decode cb_AL_add2 7 = .ok (.invokevirtual 129, 3) := by decide +kernel
theorem dc_AL_add2_10 : decode cb_AL_add2 10 = .ok (.astore_n 2, 1) := by decide +kernel
theorem dc_AL_add2_11 : decode cb_AL_add2 11 = .ok (.aload_n 2, 1) := by decide +kernel
theorem dc_AL_add2_12 : decode cb_AL_add2 12 = .ok (.iload_n 3, 1) := by decide +kernel
theorem dc_AL_add2_13 : decode cb_AL_add2 13 = .ok (.aload_n 1, 1) := by decide +kernel
theorem dc_AL_add2_14 : decode cb_AL_add2 14 = .ok (.aastore, 1) := by decide +kernel
theorem dc_AL_add2_15 : decode cb_AL_add2 15 = .ok (.aload_n 0, 1) := by decide +kernel
theorem dc_AL_add2_16 : decode cb_AL_add2 16 = .ok (.iload_n 3, 1) := by decide +kernel
theorem dc_AL_add2_17 : decode cb_AL_add2 17 = .ok (.iconst 1, 1) := by decide +kernel
theorem dc_AL_add2_18 : decode cb_AL_add2 18 = .ok (.iadd, 1) := by decide +kernel
theorem dc_AL_add2_19 : decode cb_AL_add2 19 = .ok (.putfield 48, 3) := by decide +kernel
theorem dc_AL_add2_22 : decode cb_AL_add2 22 = .ok (.return_, 1) := by decide +kernel
theorem yk_AL_add2 : fq_Y my_AL_add2 cb_AL_add2 4 none 3 := ⟨wd_283, wd_30, by decide +kernel⟩
theorem dc_AL_add_0 : decode cb_AL_add 0 = .ok (.aload_n 0, 1) := by decide +kernel
theorem dc_AL_add_1 : decode cb_AL_add 1 = .ok (.dup, 1) := by decide +kernel
theorem dc_AL_add_2 : decode cb_AL_add 2 = .ok (.getfield 63, 3) := by decide +kernel
theorem dc_AL_add_5 : decode cb_AL_add 5 = .ok (.iconst 1, 1) := by decide +kernel
theorem dc_AL_add_6 : decode cb_AL_add 6 = .ok (.iadd, 1) := by decide +kernel
theorem dc_AL_add_7 : decode cb_AL_add 7 = .ok (.putfield 63, 3) := by decide +kernel
theorem dc_AL_add_10 : decode cb_AL_add 10 = .ok (.aload_n 0, 1) := by decide +kernel
theorem dc_AL_add_11 : decode cb_AL_add 11 = .ok (.aload_n 1, 1) := by decide +kernel
theorem dc_AL_add_12 : decode cb_AL_add 12 = .ok (.aload_n 0, 1) := by decide +kernel
theorem dc_AL_add_13 : decode cb_AL_add 13 = .ok (.getfield 9, 3) := by decide +kernel
theorem dc_AL_add_16 : decode cb_AL_add 16 = .ok (.aload_n 0, 1) := by decide +kernel
theorem dc_AL_add_17 : decode cb_AL_add 17 = .ok (.getfield 48, 3) := by decide +kernel
theorem dc_AL_add_20 : decode cb_AL_add 20 = .ok (.invokevirtual 131, 3) := by decide +kernel
theorem dc_AL_add_23 : decode cb_AL_add 23 = .ok (.iconst 1, 1) := by decide +kernel
theorem dc_AL_add_24 : decode cb_AL_add 24 = .ok (.ireturn, 1) := by decide +kernel
theorem yk_AL_add : fq_Y my_AL_add cb_AL_add 2 (some .boolean) 1 := ⟨wd_279, wd_30, by decide +kernel⟩
set_option maxHeartbeats 4000000 in
set_option maxRecDepth 100000 in
theorem ct_AbC_init (l : Launch) (D : va_G) (cI cO : ClassId) (tE : Nat) (h : Nat) (sz : Nat) : Met l my_AbC_init (fq_w my_AbC_init cb_AbC_init 1 none) ({ frames := 1, cells := 0, slots := 0, locals := 12 }) (va_Pc ([.ref h]) (fq_Pre D cI cO tE sz ([]))) (va_Qv (S := va_W) (fun w => w = []) (fq_Bw D (va_A ([]) sz)) (va_A ([]) sz)) (0) (0) (va_A ([]) sz) := by
  refine fq_open (by decide +kernel) (Nat.le_of_ble_eq_true rfl) ?_
  intro pg ev s mt below meth cd ls K hret hlk hin hK hZ hP hD hA hS hl
  generalize va_A ([]) sz = A at hZ hD hA hS ⊢
  have K : fq_Ctx pg mt cd cb_AbC_init 1 s _ cn_AbC := K
  have hin : meth.name = "<init>" := hin
  have hl : lv_has ls 1 [(0, .ref h)] := hl
  refine lv_aload_n K.1 K.2.1 dc_AbC_init_0 rfl (lv_at hl 0 rfl) ?_
  refine W.objInit K.1 K.2.1 K.2.2.2.1 (K.2.2.2.2 _ wd_73) (K.2.2.2.2 _ wd_54) (K.2.2.2.2 _ wd_55) rfl (by rw [K.2.2.1]; exact hl.1) rfl dc_AbC_init_1 (Nat.le_of_ble_eq_true rfl) (Nat.le_of_ble_eq_true rfl) ?_
  refine W.eq (g2 := F0 mt 4 ls []) rfl ?_
  exact fq_retv K hret hlk hS hP hD rfl dc_AbC_init_4 (Nat.le_of_ble_eq_true rfl) (Nat.le_of_ble_eq_true rfl)
set_option maxHeartbeats 4000000 in
set_option maxRecDepth 100000 in
theorem ct_AbL_init (l : Launch) (D : va_G) (cI cO : ClassId) (tE : Nat) (h : Nat) (sz : Nat) : Met l my_AbL_init (fq_w my_AbL_init cb_AbL_init 1 none) ({ frames := 2, cells := 0, slots := 0, locals := 32 }) (va_Pc ([.ref h]) (fq_Pre D cI cO tE sz ([(h, .inr (11, [.null, .int 0, .int 0]))]))) (va_Qv (S := va_W) (fun w => w = [(h, .inr (11, [.null, .int 0, .int 0]))]) (fq_Bw D (va_A ([(h, .inr (11, [.null, .int 0, .int 0]))]) sz)) (va_A ([(h, .inr (11, [.null, .int 0, .int 0]))]) sz)) (0) (0) (va_A ([(h, .inr (11, [.null, .int 0, .int 0]))]) sz) := by
  refine fq_open (by decide +kernel) (Nat.le_of_ble_eq_true rfl) ?_
  intro pg ev s mt below meth cd ls K hret hlk hin hK hZ hP hD hA hS hl
  generalize va_A ([(h, .inr (11, [.null, .int 0, .int 0]))]) sz = A at hZ hD hA hS ⊢
  have K : fq_Ctx pg mt cd cb_AbL_init 1 s _ cn_AbL := K
  have hin : meth.name = "<init>" := hin
  have hl : lv_has ls 1 [(0, .ref h)] := hl
  refine lv_aload_n K.1 K.2.1 dc_AbL_init_0 rfl (lv_at hl 0 rfl) ?_
  have hc := fq_cut.of (wc := []) hP hD hS hA [] (by decide) rfl
  refine fq_cv (wr := [(h, .inr (11, [.null, .int 0, .int 0]))]) (fq_rI K hK hZ hS hc (ct_AbC_init l D cI cO tE h _) yk_AbC_init wd_71 rfl wd_70 ⟨⟨rfl, rfl⟩, ⟨Nat.le_of_ble_eq_true rfl, Nat.le_of_ble_eq_true rfl⟩, ⟨Nat.le_of_ble_eq_true rfl, Nat.le_of_ble_eq_true rfl⟩⟩ hl.1 rfl (Nat.le_of_ble_eq_true rfl) dc_AbL_init_1) hP hD hS hc [] [0] rfl rfl (by decide) (by decide) (fun  w H locs hw1 hP hD hS => ?_)
  subst hw1
  have hP : va_P D fq_cl ([(h, .inr (11, [.null, .int 0, .int 0]))]) _ := hP
  have hD : va_D A ([(h, .inr (11, [.null, .int 0, .int 0]))]) := hD
  refine lv_aload_n K.1 K.2.1 dc_AbL_init_4 rfl (lv_at hl 0 rfl) ?_
  refine lv_iconst (v := 0) K.1 K.2.1 dc_AbL_init_5 (by decide) ?_
  refine fq_put K hK cl_AL hP hD hS 0 2 rfl (by decide) wd_78 rfl rfl rfl (Nat.le_of_ble_eq_true rfl) dc_AbL_init_6 (fun H locs hP hD hS => ?_)
  have hP : va_P D fq_cl ([(h, .inr (11, [.null, .int 0, .int 0]))]) _ := hP
  have hD : va_D A ([(h, .inr (11, [.null, .int 0, .int 0]))]) := hD
  exact fq_retv K hret hlk hS hP hD rfl dc_AbL_init_9 (Nat.le_of_ble_eq_true rfl) (Nat.le_of_ble_eq_true rfl)
set_option maxHeartbeats 4000000 in
set_option maxRecDepth 100000 in
theorem ct_AL_init (l : Launch) (D : va_G) (cI cO : ClassId) (tE : Nat) (h : Nat) (sz : Nat) : Met l my_AL_init (fq_w my_AL_init cb_AL_init 1 none) ({ frames := 3, cells := 0, slots := 0, locals := 52 }) (va_Pc ([.ref h]) (fq_Pre D cI cO tE sz ([(h, .inr (11, [.null, .int 0, .int 0]))]))) (va_Qv (S := va_W) (fun w => w = [(h, .inr (11, [.ref tE, .int 0, .int 0]))]) (fq_Bw D (va_A ([(h, .inr (11, [.null, .int 0, .int 0]))]) sz)) (va_A ([(h, .inr (11, [.null, .int 0, .int 0]))]) sz)) (0) (0) (va_A ([(h, .inr (11, [.null, .int 0, .int 0]))]) sz) := by
  refine fq_open (by decide +kernel) (Nat.le_of_ble_eq_true rfl) ?_
  intro pg ev s mt below meth cd ls K hret hlk hin hK hZ hP hD hA hS hl
  generalize va_A ([(h, .inr (11, [.null, .int 0, .int 0]))]) sz = A at hZ hD hA hS ⊢
  have K : fq_Ctx pg mt cd cb_AL_init 1 s _ cn_AL := K
  have hin : meth.name = "<init>" := hin
  have hl : lv_has ls 1 [(0, .ref h)] := hl
  refine lv_aload_n K.1 K.2.1 dc_AL_init_0 rfl (lv_at hl 0 rfl) ?_
  have hc := fq_cut.of (wc := [(h, .inr (11, [.null, .int 0, .int 0]))]) hP hD hS hA [0] (by decide) rfl
  refine fq_cv (wr := []) (fq_rI K hK hZ hS hc (ct_AbL_init l D cI cO tE h _) yk_AbL_init wd_68 rfl wd_67 ⟨⟨rfl, rfl⟩, ⟨Nat.le_of_ble_eq_true rfl, Nat.le_of_ble_eq_true rfl⟩, ⟨Nat.le_of_ble_eq_true rfl, Nat.le_of_ble_eq_true rfl⟩⟩ hl.1 rfl (Nat.le_of_ble_eq_true rfl) dc_AL_init_1) hP hD hS hc [0] [] rfl rfl (by decide) (by decide) (fun  w H locs hw1 hP hD hS => ?_)
  subst hw1
  have hP : va_P D fq_cl ([(h, .inr (11, [.null, .int 0, .int 0]))]) _ := hP
  have hD : va_D A ([(h, .inr (11, [.null, .int 0, .int 0]))]) := hD
  refine lv_aload_n K.1 K.2.1 dc_AL_init_4 rfl (lv_at hl 0 rfl) ?_
  refine va_gets K.1 K.2.1 hZ.1 hS K.2.2.2.1 (K.2.2.2.2 _ wd_74) (fun _ z => z) dc_AL_init_5 ?_
  refine fq_put K hK cl_AL hP hD hS 0 0 rfl (by decide) wd_76 rfl rfl rfl (Nat.le_of_ble_eq_true rfl) dc_AL_init_8 (fun H locs hP hD hS => ?_)
  have hP : va_P D fq_cl ([(h, .inr (11, [.ref tE, .int 0, .int 0]))]) _ := hP
  have hD : va_D A ([(h, .inr (11, [.ref tE, .int 0, .int 0]))]) := hD
  exact fq_retv K hret hlk hS hP hD rfl dc_AL_init_11 (Nat.le_of_ble_eq_true rfl) (Nat.le_of_ble_eq_true rfl)
set_option maxHeartbeats 4000000 in
set_option maxRecDepth 100000 in
theorem ct_AL_size (l : Launch) (D : va_G) (cI cO : ClassId) (tE : Nat) (h e : Nat) (n mo : Int32) (sz : Nat) : Met l my_AL_size (fq_w my_AL_size cb_AL_size 1 (some .int)) ({ frames := 0, cells := 0, slots := 0, locals := 0 }) (va_Pc ([.ref h]) (fq_Pre D cI cO tE sz ([(h, .inr (11, [.ref e, .int n, .int mo]))]))) (va_Qi (S := va_W) (fun r w => w = [(h, .inr (11, [.ref e, .int n, .int mo]))] ∧ r = n) (fq_Bw D (va_A ([(h, .inr (11, [.ref e, .int n, .int mo]))]) sz)) (va_A ([(h, .inr (11, [.ref e, .int n, .int mo]))]) sz)) (0) (0) (va_A ([(h, .inr (11, [.ref e, .int n, .int mo]))]) sz) := by
  refine fq_open (by decide +kernel) (Nat.le_of_ble_eq_true rfl) ?_
  intro pg ev s mt below meth cd ls K hret hlk hin hK hZ hP hD hA hS hl
  generalize va_A ([(h, .inr (11, [.ref e, .int n, .int mo]))]) sz = A at hZ hD hA hS ⊢
  have K : fq_Ctx pg mt cd cb_AL_size 1 s _ cn_AL := K
  have hl : lv_has ls 1 [(0, .ref h)] := hl
  refine lv_aload_n K.1 K.2.1 dc_AL_size_0 rfl (lv_at hl 0 rfl) ?_
  refine fq_get K hK cl_AL hP 0 1 rfl (by decide) wd_77 rfl dc_AL_size_1 ?_
  exact fq_reti K hret hlk hS hP hD ⟨rfl, rfl⟩ dc_AL_size_4 (Nat.le_of_ble_eq_true rfl) (Nat.le_of_ble_eq_true rfl)
set_option maxHeartbeats 4000000 in
set_option maxRecDepth 100000 in
theorem ct_Pr_checkIndex (l : Launch) (D : va_G) (cI cO : ClassId) (tE : Nat) (k n : Nat) (hk : k < n) (hn : n ≤ 10) (sz : Nat) : Met l my_Pr_checkIndex (fq_w my_Pr_checkIndex cb_Pr_checkIndex 3 (some .int)) ({ frames := 0, cells := 0, slots := 0, locals := 0 }) (va_Pc ([.int (nI k), .int (nI n), .null]) (fq_Pre D cI cO tE sz ([]))) (va_Qi (S := va_W) (fun r w => w = [] ∧ r = nI k) (fq_Bw D (va_A ([]) sz)) (va_A ([]) sz)) (0) (0) (va_A ([]) sz) := by
  refine fq_open (by decide +kernel) (Nat.le_of_ble_eq_true rfl) ?_
  intro pg ev s mt below meth cd ls K hret hlk hin hK hZ hP hD hA hS hl
  generalize va_A ([]) sz = A at hZ hD hA hS ⊢
  have K : fq_Ctx pg mt cd cb_Pr_checkIndex 3 s _ cn_Pr := K
  have hl : lv_has ls 3 [(0, .int (nI k)), (1, .int (nI n)), (2, .null)] := hl
  refine lv_iload_n K.1 K.2.1 dc_Pr_checkIndex_0 rfl (lv_at hl 0 rfl) ?_
  refine lv_if_lt (tgt := 9) K.1 K.2.1 dc_Pr_checkIndex_1 rfl (fun b1 => absurd b1 (nI_pos (by omega))) (fun b1 => ?_)
  refine lv_iload_n K.1 K.2.1 dc_Pr_checkIndex_4 rfl (lv_at hl 0 rfl) ?_
  refine lv_iload_n K.1 K.2.1 dc_Pr_checkIndex_5 rfl (lv_at hl 1 rfl) ?_
  refine lv_icmp_lt (tgt := 16) K.1 K.2.1 dc_Pr_checkIndex_6 rfl (fun b6 => ?_) (fun b6 => absurd (nI_lt hk (by omega)) b6)
  refine lv_iload_n K.1 K.2.1 dc_Pr_checkIndex_16 rfl (lv_at hl 0 rfl) ?_
  exact fq_reti K hret hlk hS hP hD ⟨rfl, rfl⟩ dc_Pr_checkIndex_17 (Nat.le_of_ble_eq_true rfl) (Nat.le_of_ble_eq_true rfl)
set_option maxHeartbeats 4000000 in
set_option maxRecDepth 100000 in
theorem ct_Ob_checkIndex (l : Launch) (D : va_G) (cI cO : ClassId) (tE : Nat) (k n : Nat) (hk : k < n) (hn : n ≤ 10) (sz : Nat) : Met l my_Ob_checkIndex (fq_w my_Ob_checkIndex cb_Ob_checkIndex 2 (some .int)) ({ frames := 1, cells := 0, slots := 0, locals := 22 }) (va_Pc ([.int (nI k), .int (nI n)]) (fq_Pre D cI cO tE sz ([]))) (va_Qi (S := va_W) (fun r w => w = [] ∧ r = nI k) (fq_Bw D (va_A ([]) sz)) (va_A ([]) sz)) (0) (0) (va_A ([]) sz) := by
  refine fq_open (by decide +kernel) (Nat.le_of_ble_eq_true rfl) ?_
  intro pg ev s mt below meth cd ls K hret hlk hin hK hZ hP hD hA hS hl
  generalize va_A ([]) sz = A at hZ hD hA hS ⊢
  have K : fq_Ctx pg mt cd cb_Ob_checkIndex 2 s _ cn_Ob := K
  have hl : lv_has ls 2 [(0, .int (nI k)), (1, .int (nI n))] := hl
  refine lv_iload_n K.1 K.2.1 dc_Ob_checkIndex_0 rfl (lv_at hl 0 rfl) ?_
  refine lv_iload_n K.1 K.2.1 dc_Ob_checkIndex_1 rfl (lv_at hl 1 rfl) ?_
  refine lv_null K.1 K.2.1 dc_Ob_checkIndex_2 ?_
  have hc := fq_cut.of (wc := []) hP hD hS hA [] (by decide) rfl
  refine fq_ci (wr := []) (fq_rS K hK hZ hS hc (ct_Pr_checkIndex l D cI cO tE k n (by first | assumption | omega) (by first | assumption | omega) _) yk_Pr_checkIndex wd_474 wd_473 ⟨⟨rfl, rfl⟩, ⟨Nat.le_of_ble_eq_true rfl, Nat.le_of_ble_eq_true rfl⟩, ⟨Nat.le_of_ble_eq_true rfl, Nat.le_of_ble_eq_true rfl⟩⟩ hl.1 rfl (Nat.le_of_ble_eq_true rfl) dc_Ob_checkIndex_3) hP hD hS hc [] [] rfl rfl (by decide) (by decide) (fun r1 w H locs hw1 hP hD hS => ?_)
  obtain ⟨rfl, rfl⟩ := hw1
  have hP : va_P D fq_cl ([]) _ := hP
  have hD : va_D A ([]) := hD
  exact fq_reti K hret hlk hS hP hD ⟨rfl, rfl⟩ dc_Ob_checkIndex_6 (Nat.le_of_ble_eq_true rfl) (Nat.le_of_ble_eq_true rfl)
set_option maxHeartbeats 4000000 in
set_option maxRecDepth 100000 in
theorem ct_AL_elementData (l : Launch) (D : va_G) (cI cO : ClassId) (tE : Nat) (h e n : Nat) (mo : Int32) (f : Nat → Option Nat) (k q : Nat) (hk : k < n) (hn : n ≤ 10) (hf : f k = some q) (sz : Nat) : Met l my_AL_elementData (fq_w my_AL_elementData cb_AL_elementData 2 (some (.object "java/lang/Object"))) ({ frames := 0, cells := 0, slots := 0, locals := 0 }) (va_Pc ([.ref h, .int (nI k)]) (fq_Pre D cI cO tE sz ([(h, .inr (11, [.ref e, .int (nI n), .int mo])), (e, .inl (cO, 10, .inr (.inr (.inr (.inr f)))))]))) (va_Qq (S := va_W) (fun r w => w = [(h, .inr (11, [.ref e, .int (nI n), .int mo])), (e, .inl (cO, 10, .inr (.inr (.inr (.inr f)))))] ∧ r = some q) (fq_Bw D (va_A ([(h, .inr (11, [.ref e, .int (nI n), .int mo])), (e, .inl (cO, 10, .inr (.inr (.inr (.inr f)))))]) sz)) (va_A ([(h, .inr (11, [.ref e, .int (nI n), .int mo])), (e, .inl (cO, 10, .inr (.inr (.inr (.inr f)))))]) sz)) (0) (0) (va_A ([(h, .inr (11, [.ref e, .int (nI n), .int mo])), (e, .inl (cO, 10, .inr (.inr (.inr (.inr f)))))]) sz) := by
  refine fq_open (by decide +kernel) (Nat.le_of_ble_eq_true rfl) ?_
  intro pg ev s mt below meth cd ls K hret hlk hin hK hZ hP hD hA hS hl
  generalize va_A ([(h, .inr (11, [.ref e, .int (nI n), .int mo])), (e, .inl (cO, 10, .inr (.inr (.inr (.inr f)))))]) sz = A at hZ hD hA hS ⊢
  have K : fq_Ctx pg mt cd cb_AL_elementData 2 s _ cn_AL := K
  have hl : lv_has ls 2 [(0, .ref h), (1, .int (nI k))] := hl
  refine lv_aload_n K.1 K.2.1 dc_AL_elementData_0 rfl (lv_at hl 0 rfl) ?_
  refine fq_get K hK cl_AL hP 0 0 rfl (by decide) wd_76 rfl dc_AL_elementData_1 ?_
  refine lv_iload_n K.1 K.2.1 dc_AL_elementData_4 rfl (lv_at hl 1 rfl) ?_
  refine va_aldq K.1 K.2.1 hK.1 hP 1 1 rfl rfl (vp_in_nI (show k < 10 by omega) (by decide)) dc_AL_elementData_5 ?_
  refine fq_asv (y := .ref q) (by rw [nI_clamp (show k < 2 ^ 31 by omega), hf]; rfl) ?_
  exact fq_retq (r := some q) K hret (Or.inl ⟨_, rfl⟩) hlk hS hP hD ⟨rfl, rfl⟩ dc_AL_elementData_6 (Nat.le_of_ble_eq_true rfl) (Nat.le_of_ble_eq_true rfl)
set_option maxHeartbeats 4000000 in
set_option maxRecDepth 100000 in
theorem ct_AL_get (l : Launch) (D : va_G) (cI cO : ClassId) (tE : Nat) (h e n : Nat) (mo : Int32) (f : Nat → Option Nat) (k q : Nat) (hk : k < n) (hn : n ≤ 10) (hf : f k = some q) (sz : Nat) : Met l my_AL_get (fq_w my_AL_get cb_AL_get 2 (some (.object "java/lang/Object"))) ({ frames := 2, cells := 0, slots := 0, locals := 43 }) (va_Pc ([.ref h, .int (nI k)]) (fq_Pre D cI cO tE sz ([(h, .inr (11, [.ref e, .int (nI n), .int mo])), (e, .inl (cO, 10, .inr (.inr (.inr (.inr f)))))]))) (va_Qq (S := va_W) (fun r w => w = [(h, .inr (11, [.ref e, .int (nI n), .int mo])), (e, .inl (cO, 10, .inr (.inr (.inr (.inr f)))))] ∧ r = some q) (fq_Bw D (va_A ([(h, .inr (11, [.ref e, .int (nI n), .int mo])), (e, .inl (cO, 10, .inr (.inr (.inr (.inr f)))))]) sz)) (va_A ([(h, .inr (11, [.ref e, .int (nI n), .int mo])), (e, .inl (cO, 10, .inr (.inr (.inr (.inr f)))))]) sz)) (0) (0) (va_A ([(h, .inr (11, [.ref e, .int (nI n), .int mo])), (e, .inl (cO, 10, .inr (.inr (.inr (.inr f)))))]) sz) := by
  refine fq_open (by decide +kernel) (Nat.le_of_ble_eq_true rfl) ?_
  intro pg ev s mt below meth cd ls K hret hlk hin hK hZ hP hD hA hS hl
  generalize va_A ([(h, .inr (11, [.ref e, .int (nI n), .int mo])), (e, .inl (cO, 10, .inr (.inr (.inr (.inr f)))))]) sz = A at hZ hD hA hS ⊢
  have K : fq_Ctx pg mt cd cb_AL_get 2 s _ cn_AL := K
  have hl : lv_has ls 2 [(0, .ref h), (1, .int (nI k))] := hl
  refine lv_iload_n K.1 K.2.1 dc_AL_get_0 rfl (lv_at hl 1 rfl) ?_
  refine lv_aload_n K.1 K.2.1 dc_AL_get_1 rfl (lv_at hl 0 rfl) ?_
  refine fq_get K hK cl_AL hP 0 1 rfl (by decide) wd_77 rfl dc_AL_get_2 ?_
  have hc := fq_cut.of (wc := []) hP hD hS hA [] (by decide) rfl
  refine fq_ci (wr := [(h, .inr (11, [.ref e, .int (nI n), .int mo])), (e, .inl (cO, 10, .inr (.inr (.inr (.inr f)))))]) (fq_rS K hK hZ hS hc (ct_Ob_checkIndex l D cI cO tE k n hk hn _) yk_Ob_checkIndex wd_471 wd_470 ⟨⟨rfl, rfl⟩, ⟨Nat.le_of_ble_eq_true rfl, Nat.le_of_ble_eq_true rfl⟩, ⟨Nat.le_of_ble_eq_true rfl, Nat.le_of_ble_eq_true rfl⟩⟩ hl.1 rfl (Nat.le_of_ble_eq_true rfl) dc_AL_get_5) hP hD hS hc [] [0, 1] rfl rfl (by decide) (by decide) (fun r1 w H locs hw1 hP hD hS => ?_)
  obtain ⟨rfl, rfl⟩ := hw1
  have hP : va_P D fq_cl ([(h, .inr (11, [.ref e, .int (nI n), .int mo])), (e, .inl (cO, 10, .inr (.inr (.inr (.inr f)))))]) _ := hP
  have hD : va_D A ([(h, .inr (11, [.ref e, .int (nI n), .int mo])), (e, .inl (cO, 10, .inr (.inr (.inr (.inr f)))))]) := hD
  refine lv_pop K.1 K.2.1 dc_AL_get_8 rfl ?_
  refine lv_aload_n K.1 K.2.1 dc_AL_get_9 rfl (lv_at hl 0 rfl) ?_
  refine lv_iload_n K.1 K.2.1 dc_AL_get_10 rfl (lv_at hl 1 rfl) ?_
  have hc := fq_cut.of (wc := [(h, .inr (11, [.ref e, .int (nI n), .int mo])), (e, .inl (cO, 10, .inr (.inr (.inr (.inr f)))))]) hP hD hS hA [0, 1] (by decide) rfl
  refine fq_cq (wr := []) (fq_rV K hK hZ hS hc (ct_AL_elementData l D cI cO tE h e n mo f k q hk hn hf _) yk_AL_elementData wd_477 wd_478 wd_476 0 rfl rfl rfl ⟨⟨rfl, rfl⟩, ⟨Nat.le_of_ble_eq_true rfl, Nat.le_of_ble_eq_true rfl⟩, ⟨Nat.le_of_ble_eq_true rfl, Nat.le_of_ble_eq_true rfl⟩⟩ hl.1 rfl (Nat.le_of_ble_eq_true rfl) dc_AL_get_11) hP hD hS hc [0, 1] [] rfl rfl (by decide) (by decide) (fun r2 w H locs hw2 hP hD hS => ?_)
  obtain ⟨rfl, rfl⟩ := hw2
  have hP : va_P D fq_cl ([(h, .inr (11, [.ref e, .int (nI n), .int mo])), (e, .inl (cO, 10, .inr (.inr (.inr (.inr f)))))]) _ := hP
  have hD : va_D A ([(h, .inr (11, [.ref e, .int (nI n), .int mo])), (e, .inl (cO, 10, .inr (.inr (.inr (.inr f)))))]) := hD
  refine W.eq (g2 := F0 mt 14 ls [.ref q]) rfl ?_
  exact fq_retq (r := some q) K hret (Or.inl ⟨_, rfl⟩) hlk hS hP hD ⟨rfl, rfl⟩ dc_AL_get_14 (Nat.le_of_ble_eq_true rfl) (Nat.le_of_ble_eq_true rfl)
set_option maxHeartbeats 4000000 in
set_option maxRecDepth 100000 in
theorem ct_AL_grow2 (l : Launch) (D : va_G) (cI cO : ClassId) (tE : Nat) (h : Nat) (mo : Int32) (sz : Nat) : Met l my_AL_grow2 (fq_w my_AL_grow2 cb_AL_grow2 4 (some (.array (.object "java/lang/Object")))) ({ frames := 1, cells := 1, slots := 10, locals := 14 }) (va_Pc ([.ref h, .int (nI 1)]) (fq_Pre D cI cO tE sz ([(h, .inr (11, [.ref tE, .int (nI 0), .int mo]))]))) (va_Qq (S := va_W) (fun r w => ∃ qe : Nat, w = [(h, .inr (11, [.ref qe, .int (nI 0), .int mo])), (qe, .inl (cO, 10, .inr (.inr (.inr (.inr (fun _ => none))))))] ∧ r = some qe) (fq_Bw D (va_A ([(h, .inr (11, [.ref tE, .int (nI 0), .int mo]))]) sz)) (va_A ([(h, .inr (11, [.ref tE, .int (nI 0), .int mo]))]) sz)) (1) (10) (va_A ([(h, .inr (11, [.ref tE, .int (nI 0), .int mo]))]) sz) := by
  refine fq_open (by decide +kernel) (Nat.le_of_ble_eq_true rfl) ?_
  intro pg ev s mt below meth cd ls K hret hlk hin hK hZ hP hD hA hS hl
  generalize va_A ([(h, .inr (11, [.ref tE, .int (nI 0), .int mo]))]) sz = A at hZ hD hA hS ⊢
  have K : fq_Ctx pg mt cd cb_AL_grow2 4 s _ cn_AL := K
  have hl : lv_has ls 4 [(0, .ref h), (1, .int (nI 1))] := hl
  refine lv_aload_n K.1 K.2.1 dc_AL_grow2_0 rfl (lv_at hl 0 rfl) ?_
  refine fq_get K hK cl_AL hP 0 0 rfl (by decide) wd_76 rfl dc_AL_grow2_1 ?_
  refine va_tlen (v := nI 0) K.1 K.2.1 hZ.2 hS rfl dc_AL_grow2_4 ?_
  refine lv_istore_n K.1 K.2.1 dc_AL_grow2_5 rfl hl (by decide) rfl (fun ls hl => ?_)
  have hl : lv_has ls 4 [(2, .int (nI 0)), (0, .ref h), (1, .int (nI 1))] := hl
  refine lv_iload_n K.1 K.2.1 dc_AL_grow2_6 rfl (lv_at hl 0 rfl) ?_
  refine lv_if_gt (tgt := 20) K.1 K.2.1 dc_AL_grow2_7 rfl (fun b7 => absurd b7 (by decide)) (fun b7 => ?_)
  refine lv_aload_n K.1 K.2.1 dc_AL_grow2_10 rfl (lv_at hl 1 rfl) ?_
  refine fq_get K hK cl_AL hP 0 0 rfl (by decide) wd_76 rfl dc_AL_grow2_11 ?_
  refine va_gets K.1 K.2.1 hZ.1 hS K.2.2.2.1 (K.2.2.2.2 _ wd_74) (fun _ z => z) dc_AL_grow2_14 ?_
  refine lv_acmp_eq (rx := some tE) (ry := some tE) (tgt := 45) K.1 K.2.1 dc_AL_grow2_17 rfl (fun _ => ?_) (fun z => absurd rfl z)
  refine lv_aload_n K.1 K.2.1 dc_AL_grow2_45 rfl (lv_at hl 1 rfl) ?_
  refine lv_bipush (v := 10) K.1 K.2.1 dc_AL_grow2_46 (by decide) ?_
  refine lv_iload_n K.1 K.2.1 dc_AL_grow2_48 rfl (lv_at hl 2 rfl) ?_
  refine va_mmax K.1 K.2.1 (K.2.2.1.trans hl.1.symm) K.2.2.2.1 (K.2.2.2.2 _ wd_330) (K.2.2.2.2 _ wd_179) (K.2.2.2.2 _ wd_35) (K.2.2.2.2 _ wd_180) (Nat.le_of_ble_eq_true rfl) (Nat.le_of_ble_eq_true rfl) (Nat.le_of_ble_eq_true rfl) (Nat.le_of_ble_eq_true rfl) dc_AL_grow2_49 ?_
  refine fq_asi (y := nI 10) (by decide) ?_
  refine fq_newO K hK wd_331 hP hD hS hA 10 rfl (by decide) (Nat.le_of_ble_eq_true rfl) (Nat.le_of_ble_eq_true rfl) dc_AL_grow2_52 (fun q1 H hP hD hS => ?_)
  have hP : va_P D fq_cl ([(h, .inr (11, [.ref tE, .int (nI 0), .int mo])), (q1, .inl (cO, 10, .inr (.inr (.inr (.inr (fun _ => none))))))]) _ := hP
  have hD : va_D A ([(h, .inr (11, [.ref tE, .int (nI 0), .int mo])), (q1, .inl (cO, 10, .inr (.inr (.inr (.inr (fun _ => none))))))]) := hD
  refine lv_dup_x1 K.1 K.2.1 dc_AL_grow2_55 rfl rfl ?_
  refine fq_put K hK cl_AL hP hD hS 0 0 rfl (by decide) wd_76 rfl rfl rfl (Nat.le_of_ble_eq_true rfl) dc_AL_grow2_56 (fun H locs hP hD hS => ?_)
  have hP : va_P D fq_cl ([(h, .inr (11, [.ref q1, .int (nI 0), .int mo])), (q1, .inl (cO, 10, .inr (.inr (.inr (.inr (fun _ => none))))))]) _ := hP
  have hD : va_D A ([(h, .inr (11, [.ref q1, .int (nI 0), .int mo])), (q1, .inl (cO, 10, .inr (.inr (.inr (.inr (fun _ => none))))))]) := hD
  exact fq_retq (r := some q1) K hret (Or.inr ⟨_, rfl⟩) hlk hS hP hD ⟨_, rfl, rfl⟩ dc_AL_grow2_59 (Nat.le_of_ble_eq_true rfl) (Nat.le_of_ble_eq_true rfl)
set_option maxHeartbeats 4000000 in
set_option maxRecDepth 100000 in
theorem ct_AL_grow (l : Launch) (D : va_G) (cI cO : ClassId) (tE : Nat) (h : Nat) (mo : Int32) (sz : Nat) : Met l my_AL_grow (fq_w my_AL_grow cb_AL_grow 1 (some (.array (.object "java/lang/Object")))) ({ frames := 2, cells := 1, slots := 10, locals := 37 }) (va_Pc ([.ref h]) (fq_Pre D cI cO tE sz ([(h, .inr (11, [.ref tE, .int (nI 0), .int mo]))]))) (va_Qq (S := va_W) (fun r w => ∃ qe : Nat, w = [(h, .inr (11, [.ref qe, .int (nI 0), .int mo])), (qe, .inl (cO, 10, .inr (.inr (.inr (.inr (fun _ => none))))))] ∧ r = some qe) (fq_Bw D (va_A ([(h, .inr (11, [.ref tE, .int (nI 0), .int mo]))]) sz)) (va_A ([(h, .inr (11, [.ref tE, .int (nI 0), .int mo]))]) sz)) (1) (10) (va_A ([(h, .inr (11, [.ref tE, .int (nI 0), .int mo]))]) sz) := by
  refine fq_open (by decide +kernel) (Nat.le_of_ble_eq_true rfl) ?_
  intro pg ev s mt below meth cd ls K hret hlk hin hK hZ hP hD hA hS hl
  generalize va_A ([(h, .inr (11, [.ref tE, .int (nI 0), .int mo]))]) sz = A at hZ hD hA hS ⊢
  have K : fq_Ctx pg mt cd cb_AL_grow 1 s _ cn_AL := K
  have hl : lv_has ls 1 [(0, .ref h)] := hl
  refine lv_aload_n K.1 K.2.1 dc_AL_grow_0 rfl (lv_at hl 0 rfl) ?_
  refine lv_aload_n K.1 K.2.1 dc_AL_grow_1 rfl (lv_at hl 0 rfl) ?_
  refine fq_get K hK cl_AL hP 0 1 rfl (by decide) wd_77 rfl dc_AL_grow_2 ?_
  refine lv_iconst (v := 1) K.1 K.2.1 dc_AL_grow_5 (by decide) ?_
  refine lv_iadd K.1 K.2.1 dc_AL_grow_6 ?_
  refine fq_asi (y := nI 1) (by decide) ?_
  have hc := fq_cut.of (wc := [(h, .inr (11, [.ref tE, .int (nI 0), .int mo]))]) hP hD hS hA [0] (by decide) rfl
  refine fq_cq (wr := []) (fq_rV K hK hZ hS hc (ct_AL_grow2 l D cI cO tE h mo _) yk_AL_grow2 wd_290 wd_4 wd_288 0 rfl rfl rfl ⟨⟨rfl, rfl⟩, ⟨Nat.le_of_ble_eq_true rfl, Nat.le_of_ble_eq_true rfl⟩, ⟨Nat.le_of_ble_eq_true rfl, Nat.le_of_ble_eq_true rfl⟩⟩ hl.1 rfl (Nat.le_of_ble_eq_true rfl) dc_AL_grow_7) hP hD hS hc [0] [] rfl rfl (by decide) (by decide) (fun r1 w H locs hw1 hP hD hS => ?_)
  obtain ⟨qe1, rfl, rfl⟩ := hw1
  have hP : va_P D fq_cl ([(h, .inr (11, [.ref qe1, .int (nI 0), .int mo])), (qe1, .inl (cO, 10, .inr (.inr (.inr (.inr (fun _ => none))))))]) _ := hP
  have hD : va_D A ([(h, .inr (11, [.ref qe1, .int (nI 0), .int mo])), (qe1, .inl (cO, 10, .inr (.inr (.inr (.inr (fun _ => none))))))]) := hD
  refine W.eq (g2 := F0 mt 10 ls [.ref qe1]) rfl ?_
  exact fq_retq (r := some qe1) K hret (Or.inr ⟨_, rfl⟩) hlk hS hP hD ⟨_, rfl, rfl⟩ dc_AL_grow_10 (Nat.le_of_ble_eq_true rfl) (Nat.le_of_ble_eq_true rfl)
set_option maxHeartbeats 4000000 in
set_option maxRecDepth 100000 in
theorem ct_AL_add2A (l : Launch) (D : va_G) (cI cO : ClassId) (tE : Nat) (h : Nat) (mo : Int32) (q ci : Nat) (vs : List Value) (rc : vw_C) (hci : fq_cl[ci]? = some rc) (hcs : Cond.castable rc.1 cn_Oj ∈ lw_tbl) (sz : Nat) : Met l my_AL_add2 (fq_w my_AL_add2 cb_AL_add2 4 none) ({ frames := 3, cells := 1, slots := 10, locals := 57 }) (va_Pc ([.ref h, .ref q, .ref tE, .int (nI 0)]) (fq_Pre D cI cO tE sz ([(h, .inr (11, [.ref tE, .int (nI 0), .int mo])), (q, .inr (ci, vs))]))) (va_Qv (S := va_W) (fun w => ∃ qe : Nat, w = [(h, .inr (11, [.ref qe, .int (nI 1), .int mo])), (q, .inr (ci, vs)), (qe, .inl (cO, 10, .inr (.inr (.inr (.inr (va_up (fun _ => none) 0 (some q)))))))]) (fq_Bw D (va_A ([(h, .inr (11, [.ref tE, .int (nI 0), .int mo])), (q, .inr (ci, vs))]) sz)) (va_A ([(h, .inr (11, [.ref tE, .int (nI 0), .int mo])), (q, .inr (ci, vs))]) sz)) (1) (10) (va_A ([(h, .inr (11, [.ref tE, .int (nI 0), .int mo])), (q, .inr (ci, vs))]) sz) := by
  refine fq_open (by decide +kernel) (Nat.le_of_ble_eq_true rfl) ?_
  intro pg ev s mt below meth cd ls K hret hlk hin hK hZ hP hD hA hS hl
  generalize va_A ([(h, .inr (11, [.ref tE, .int (nI 0), .int mo])), (q, .inr (ci, vs))]) sz = A at hZ hD hA hS ⊢
  have K : fq_Ctx pg mt cd cb_AL_add2 4 s _ cn_AL := K
  have hl : lv_has ls 4 [(0, .ref h), (1, .ref q), (2, .ref tE), (3, .int (nI 0))] := hl
  refine lv_iload_n K.1 K.2.1 dc_AL_add2_0 rfl (lv_at hl 3 rfl) ?_
  refine lv_aload_n K.1 K.2.1 dc_AL_add2_1 rfl (lv_at hl 2 rfl) ?_
  refine va_tlen (v := nI 0) K.1 K.2.1 hZ.2 hS rfl dc_AL_add2_2 ?_
  refine lv_icmp_ne (tgt := 11) K.1 K.2.1 dc_AL_add2_3 rfl (fun b3 => absurd rfl b3) (fun b3 => ?_)
  refine lv_aload_n K.1 K.2.1 dc_AL_add2_6 rfl (lv_at hl 0 rfl) ?_
  have hc := fq_cut.of (wc := [(h, .inr (11, [.ref tE, .int (nI 0), .int mo]))]) hP hD hS hA [0] (by decide) rfl
  refine fq_cq (wr := [(q, .inr (ci, vs))]) (fq_rV K hK hZ hS hc (ct_AL_grow l D cI cO tE h mo _) yk_AL_grow wd_286 wd_3 wd_284 0 rfl rfl rfl ⟨⟨rfl, rfl⟩, ⟨Nat.le_of_ble_eq_true rfl, Nat.le_of_ble_eq_true rfl⟩, ⟨Nat.le_of_ble_eq_true rfl, Nat.le_of_ble_eq_true rfl⟩⟩ hl.1 rfl (Nat.le_of_ble_eq_true rfl) dc_AL_add2_7) hP hD hS hc [0] [1] rfl rfl (by decide) (by decide) (fun r1 w H locs hw1 hP hD hS => ?_)
  obtain ⟨qe1, rfl, rfl⟩ := hw1
  have hP : va_P D fq_cl ([(q, .inr (ci, vs)), (h, .inr (11, [.ref qe1, .int (nI 0), .int mo])), (qe1, .inl (cO, 10, .inr (.inr (.inr (.inr (fun _ => none))))))]) _ := hP
  have hD : va_D A ([(q, .inr (ci, vs)), (h, .inr (11, [.ref qe1, .int (nI 0), .int mo])), (qe1, .inl (cO, 10, .inr (.inr (.inr (.inr (fun _ => none))))))]) := hD
  refine W.eq (g2 := F0 mt 10 ls [.ref qe1]) rfl ?_
  refine lv_astore_n K.1 K.2.1 dc_AL_add2_10 rfl hl (by decide) rfl (fun ls hl => ?_)
  have hl : lv_has ls 4 [(2, .ref qe1), (0, .ref h), (1, .ref q), (3, .int (nI 0))] := hl
  refine lv_aload_n K.1 K.2.1 dc_AL_add2_11 rfl (lv_at hl 0 rfl) ?_
  refine lv_iload_n K.1 K.2.1 dc_AL_add2_12 rfl (lv_at hl 3 rfl) ?_
  refine lv_aload_n K.1 K.2.1 dc_AL_add2_13 rfl (lv_at hl 2 rfl) ?_
  refine va_astqO (E := "java/lang/Object") K.1 K.2.1 hK.1 hP hD hS 2 1 0 ci rfl rfl (hK.2.1 _ hcs rfl) rfl hci (vp_in_nI (show 0 < 10 by omega) (by decide)) dc_AL_add2_14 (fun H locs hP hD hS => ?_)
  rw [nI_clamp (show 0 < 2 ^ 31 by omega)] at hP hD
  have hP : va_P D fq_cl ([(q, .inr (ci, vs)), (h, .inr (11, [.ref qe1, .int (nI 0), .int mo])), (qe1, .inl (cO, 10, .inr (.inr (.inr (.inr (va_up (fun _ => none) 0 (some q)))))))]) _ := hP
  have hD : va_D A ([(q, .inr (ci, vs)), (h, .inr (11, [.ref qe1, .int (nI 0), .int mo])), (qe1, .inl (cO, 10, .inr (.inr (.inr (.inr (va_up (fun _ => none) 0 (some q)))))))]) := hD
  refine lv_aload_n K.1 K.2.1 dc_AL_add2_15 rfl (lv_at hl 1 rfl) ?_
  refine lv_iload_n K.1 K.2.1 dc_AL_add2_16 rfl (lv_at hl 3 rfl) ?_
  refine lv_iconst (v := 1) K.1 K.2.1 dc_AL_add2_17 (by decide) ?_
  refine lv_iadd K.1 K.2.1 dc_AL_add2_18 ?_
  refine fq_asi (y := nI 1) (by decide) ?_
  refine fq_put K hK cl_AL hP hD hS 1 1 rfl (by decide) wd_77 rfl rfl rfl (Nat.le_of_ble_eq_true rfl) dc_AL_add2_19 (fun H locs hP hD hS => ?_)
  have hP : va_P D fq_cl ([(q, .inr (ci, vs)), (h, .inr (11, [.ref qe1, .int (nI 1), .int mo])), (qe1, .inl (cO, 10, .inr (.inr (.inr (.inr (va_up (fun _ => none) 0 (some q)))))))]) _ := hP
  have hD : va_D A ([(q, .inr (ci, vs)), (h, .inr (11, [.ref qe1, .int (nI 1), .int mo])), (qe1, .inl (cO, 10, .inr (.inr (.inr (.inr (va_up (fun _ => none) 0 (some q)))))))]) := hD
  have hP := hP.sub (ws' := [(h, .inr (11, [.ref qe1, .int (nI 1), .int mo])), (q, .inr (ci, vs)), (qe1, .inl (cO, 10, .inr (.inr (.inr (.inr (va_up (fun _ => none) 0 (some q)))))))]) [1, 0, 2] rfl
  have hD := hD.sub (ws' := [(h, .inr (11, [.ref qe1, .int (nI 1), .int mo])), (q, .inr (ci, vs)), (qe1, .inl (cO, 10, .inr (.inr (.inr (.inr (va_up (fun _ => none) 0 (some q)))))))]) [1, 0, 2] (by decide) rfl
  exact fq_retv K hret hlk hS hP hD ⟨_, rfl⟩ dc_AL_add2_22 (Nat.le_of_ble_eq_true rfl) (Nat.le_of_ble_eq_true rfl)
set_option maxHeartbeats 4000000 in
set_option maxRecDepth 100000 in
theorem ct_AL_addA (l : Launch) (D : va_G) (cI cO : ClassId) (tE : Nat) (h : Nat) (mo : Int32) (q ci : Nat) (vs : List Value) (rc : vw_C) (hci : fq_cl[ci]? = some rc) (hcs : Cond.castable rc.1 cn_Oj ∈ lw_tbl) (sz : Nat) : Met l my_AL_add (fq_w my_AL_add cb_AL_add 2 (some .boolean)) ({ frames := 4, cells := 1, slots := 10, locals := 80 }) (va_Pc ([.ref h, .ref q]) (fq_Pre D cI cO tE sz ([(h, .inr (11, [.ref tE, .int (nI 0), .int mo])), (q, .inr (ci, vs))]))) (va_Qi (S := va_W) (fun r w => ∃ (mo2 : Int32) (qe : Nat), w = [(h, .inr (11, [.ref qe, .int (nI 1), .int mo2])), (q, .inr (ci, vs)), (qe, .inl (cO, 10, .inr (.inr (.inr (.inr (va_up (fun _ => none) 0 (some q)))))))] ∧ r = 1) (fq_Bw D (va_A ([(h, .inr (11, [.ref tE, .int (nI 0), .int mo])), (q, .inr (ci, vs))]) sz)) (va_A ([(h, .inr (11, [.ref tE, .int (nI 0), .int mo])), (q, .inr (ci, vs))]) sz)) (1) (10) (va_A ([(h, .inr (11, [.ref tE, .int (nI 0), .int mo])), (q, .inr (ci, vs))]) sz) := by
  refine fq_open (by decide +kernel) (Nat.le_of_ble_eq_true rfl) ?_
  intro pg ev s mt below meth cd ls K hret hlk hin hK hZ hP hD hA hS hl
  generalize va_A ([(h, .inr (11, [.ref tE, .int (nI 0), .int mo])), (q, .inr (ci, vs))]) sz = A at hZ hD hA hS ⊢
  have K : fq_Ctx pg mt cd cb_AL_add 2 s _ cn_AL := K
  have hl : lv_has ls 2 [(0, .ref h), (1, .ref q)] := hl
  refine lv_aload_n K.1 K.2.1 dc_AL_add_0 rfl (lv_at hl 0 rfl) ?_
  refine lv_dup K.1 K.2.1 dc_AL_add_1 rfl ?_
  refine fq_getS K hK cl_AL hP 0 2 rfl (by decide) wd_79 wd_80 rfl dc_AL_add_2 ?_
  refine lv_iconst (v := 1) K.1 K.2.1 dc_AL_add_5 (by decide) ?_
  refine lv_iadd K.1 K.2.1 dc_AL_add_6 ?_
  refine lv_topi (fun v1 e_v1 => ?_)
  refine fq_putS K hK cl_AL hP hD hS 0 2 rfl (by decide) wd_79 wd_80 rfl rfl rfl (Nat.le_of_ble_eq_true rfl) dc_AL_add_7 (fun H locs hP hD hS => ?_)
  have hP : va_P D fq_cl ([(h, .inr (11, [.ref tE, .int (nI 0), .int v1])), (q, .inr (ci, vs))]) _ := hP
  have hD : va_D A ([(h, .inr (11, [.ref tE, .int (nI 0), .int v1])), (q, .inr (ci, vs))]) := hD
  refine lv_aload_n K.1 K.2.1 dc_AL_add_10 rfl (lv_at hl 0 rfl) ?_
  refine lv_aload_n K.1 K.2.1 dc_AL_add_11 rfl (lv_at hl 1 rfl) ?_
  refine lv_aload_n K.1 K.2.1 dc_AL_add_12 rfl (lv_at hl 0 rfl) ?_
  refine fq_get K hK cl_AL hP 0 0 rfl (by decide) wd_76 rfl dc_AL_add_13 ?_
  refine lv_aload_n K.1 K.2.1 dc_AL_add_16 rfl (lv_at hl 0 rfl) ?_
  refine fq_get K hK cl_AL hP 0 1 rfl (by decide) wd_77 rfl dc_AL_add_17 ?_
  have hc := fq_cut.of (wc := [(h, .inr (11, [.ref tE, .int (nI 0), .int v1])), (q, .inr (ci, vs))]) hP hD hS hA [0, 1] (by decide) rfl
  refine fq_cv (wr := []) (fq_rV K hK hZ hS hc (ct_AL_add2A l D cI cO tE h v1 q ci vs rc hci hcs _) yk_AL_add2 wd_282 wd_2 wd_280 0 rfl rfl rfl ⟨⟨rfl, rfl⟩, ⟨Nat.le_of_ble_eq_true rfl, Nat.le_of_ble_eq_true rfl⟩, ⟨Nat.le_of_ble_eq_true rfl, Nat.le_of_ble_eq_true rfl⟩⟩ hl.1 rfl (Nat.le_of_ble_eq_true rfl) dc_AL_add_20) hP hD hS hc [0, 1] [] rfl rfl (by decide) (by decide) (fun  w H locs hw1 hP hD hS => ?_)
  obtain ⟨qe1, rfl⟩ := hw1
  have hP : va_P D fq_cl ([(h, .inr (11, [.ref qe1, .int (nI 1), .int v1])), (q, .inr (ci, vs)), (qe1, .inl (cO, 10, .inr (.inr (.inr (.inr (va_up (fun _ => none) 0 (some q)))))))]) _ := hP
  have hD : va_D A ([(h, .inr (11, [.ref qe1, .int (nI 1), .int v1])), (q, .inr (ci, vs)), (qe1, .inl (cO, 10, .inr (.inr (.inr (.inr (va_up (fun _ => none) 0 (some q)))))))]) := hD
  refine lv_iconst (v := 1) K.1 K.2.1 dc_AL_add_23 (by decide) ?_
  exact fq_retz K hret hlk hS hP hD (by first | exact Or.inl rfl | exact Or.inr rfl) ⟨_, _, rfl, rfl⟩ dc_AL_add_24 (Nat.le_of_ble_eq_true rfl) (Nat.le_of_ble_eq_true rfl)
set_option maxHeartbeats 4000000 in
set_option maxRecDepth 100000 in
theorem ct_AL_add2B (l : Launch) (D : va_G) (cI cO : ClassId) (tE : Nat) (h e n : Nat) (mo : Int32) (f : Nat → Option Nat) (q ci : Nat) (vs : List Value) (rc : vw_C) (hci : fq_cl[ci]? = some rc) (hcs : Cond.castable rc.1 cn_Oj ∈ lw_tbl) (hn : n < 10) (sz : Nat) : Met l my_AL_add2 (fq_w my_AL_add2 cb_AL_add2 4 none) ({ frames := 0, cells := 0, slots := 0, locals := 0 }) (va_Pc ([.ref h, .ref q, .ref e, .int (nI n)]) (fq_Pre D cI cO tE sz ([(h, .inr (11, [.ref e, .int (nI n), .int mo])), (q, .inr (ci, vs)), (e, .inl (cO, 10, .inr (.inr (.inr (.inr f)))))]))) (va_Qv (S := va_W) (fun w => w = [(h, .inr (11, [.ref e, .int (nI (n + 1)), .int mo])), (q, .inr (ci, vs)), (e, .inl (cO, 10, .inr (.inr (.inr (.inr (va_up f n (some q)))))))]) (fq_Bw D (va_A ([(h, .inr (11, [.ref e, .int (nI n), .int mo])), (q, .inr (ci, vs)), (e, .inl (cO, 10, .inr (.inr (.inr (.inr f)))))]) sz)) (va_A ([(h, .inr (11, [.ref e, .int (nI n), .int mo])), (q, .inr (ci, vs)), (e, .inl (cO, 10, .inr (.inr (.inr (.inr f)))))]) sz)) (0) (0) (va_A ([(h, .inr (11, [.ref e, .int (nI n), .int mo])), (q, .inr (ci, vs)), (e, .inl (cO, 10, .inr (.inr (.inr (.inr f)))))]) sz) := by
  refine fq_open (by decide +kernel) (Nat.le_of_ble_eq_true rfl) ?_
  intro pg ev s mt below meth cd ls K hret hlk hin hK hZ hP hD hA hS hl
  generalize va_A ([(h, .inr (11, [.ref e, .int (nI n), .int mo])), (q, .inr (ci, vs)), (e, .inl (cO, 10, .inr (.inr (.inr (.inr f)))))]) sz = A at hZ hD hA hS ⊢
  have K : fq_Ctx pg mt cd cb_AL_add2 4 s _ cn_AL := K
  have hl : lv_has ls 4 [(0, .ref h), (1, .ref q), (2, .ref e), (3, .int (nI n))] := hl
  refine lv_iload_n K.1 K.2.1 dc_AL_add2_0 rfl (lv_at hl 3 rfl) ?_
  refine lv_aload_n K.1 K.2.1 dc_AL_add2_1 rfl (lv_at hl 2 rfl) ?_
  refine va_alen (v := nI 10) K.1 K.2.1 hK.1 hP 2 1 rfl rfl rfl dc_AL_add2_2 ?_
  refine lv_icmp_ne (tgt := 11) K.1 K.2.1 dc_AL_add2_3 rfl (fun b3 => ?_) (fun b3 => absurd ((nI_eq (by omega) (by decide)).mp b3) (by omega))
  refine lv_aload_n K.1 K.2.1 dc_AL_add2_11 rfl (lv_at hl 2 rfl) ?_
  refine lv_iload_n K.1 K.2.1 dc_AL_add2_12 rfl (lv_at hl 3 rfl) ?_
  refine lv_aload_n K.1 K.2.1 dc_AL_add2_13 rfl (lv_at hl 1 rfl) ?_
  refine va_astqO (E := "java/lang/Object") K.1 K.2.1 hK.1 hP hD hS 2 1 1 ci rfl rfl (hK.2.1 _ hcs rfl) rfl hci (vp_in_nI (show n < 10 by omega) (by decide)) dc_AL_add2_14 (fun H locs hP hD hS => ?_)
  rw [nI_clamp (show n < 2 ^ 31 by omega)] at hP hD
  have hP : va_P D fq_cl ([(h, .inr (11, [.ref e, .int (nI n), .int mo])), (q, .inr (ci, vs)), (e, .inl (cO, 10, .inr (.inr (.inr (.inr (va_up f n (some q)))))))]) _ := hP
  have hD : va_D A ([(h, .inr (11, [.ref e, .int (nI n), .int mo])), (q, .inr (ci, vs)), (e, .inl (cO, 10, .inr (.inr (.inr (.inr (va_up f n (some q)))))))]) := hD
  refine lv_aload_n K.1 K.2.1 dc_AL_add2_15 rfl (lv_at hl 0 rfl) ?_
  refine lv_iload_n K.1 K.2.1 dc_AL_add2_16 rfl (lv_at hl 3 rfl) ?_
  refine lv_iconst (v := 1) K.1 K.2.1 dc_AL_add2_17 (by decide) ?_
  refine lv_iadd K.1 K.2.1 dc_AL_add2_18 ?_
  refine fq_asi (y := nI (n + 1)) (nI_1 n) ?_
  refine fq_put K hK cl_AL hP hD hS 0 1 rfl (by decide) wd_77 rfl rfl rfl (Nat.le_of_ble_eq_true rfl) dc_AL_add2_19 (fun H locs hP hD hS => ?_)
  have hP : va_P D fq_cl ([(h, .inr (11, [.ref e, .int (nI (n + 1)), .int mo])), (q, .inr (ci, vs)), (e, .inl (cO, 10, .inr (.inr (.inr (.inr (va_up f n (some q)))))))]) _ := hP
  have hD : va_D A ([(h, .inr (11, [.ref e, .int (nI (n + 1)), .int mo])), (q, .inr (ci, vs)), (e, .inl (cO, 10, .inr (.inr (.inr (.inr (va_up f n (some q)))))))]) := hD
  exact fq_retv K hret hlk hS hP hD rfl dc_AL_add2_22 (Nat.le_of_ble_eq_true rfl) (Nat.le_of_ble_eq_true rfl)
set_option maxHeartbeats 4000000 in
set_option maxRecDepth 100000 in
theorem ct_AL_addB (l : Launch) (D : va_G) (cI cO : ClassId) (tE : Nat) (h e n : Nat) (mo : Int32) (f : Nat → Option Nat) (q ci : Nat) (vs : List Value) (rc : vw_C) (hci : fq_cl[ci]? = some rc) (hcs : Cond.castable rc.1 cn_Oj ∈ lw_tbl) (hn : n < 10) (sz : Nat) : Met l my_AL_add (fq_w my_AL_add cb_AL_add 2 (some .boolean)) ({ frames := 1, cells := 0, slots := 0, locals := 23 }) (va_Pc ([.ref h, .ref q]) (fq_Pre D cI cO tE sz ([(h, .inr (11, [.ref e, .int (nI n), .int mo])), (q, .inr (ci, vs)), (e, .inl (cO, 10, .inr (.inr (.inr (.inr f)))))]))) (va_Qi (S := va_W) (fun r w => ∃ mo2 : Int32, w = [(h, .inr (11, [.ref e, .int (nI (n + 1)), .int mo2])), (q, .inr (ci, vs)), (e, .inl (cO, 10, .inr (.inr (.inr (.inr (va_up f n (some q)))))))] ∧ r = 1) (fq_Bw D (va_A ([(h, .inr (11, [.ref e, .int (nI n), .int mo])), (q, .inr (ci, vs)), (e, .inl (cO, 10, .inr (.inr (.inr (.inr f)))))]) sz)) (va_A ([(h, .inr (11, [.ref e, .int (nI n), .int mo])), (q, .inr (ci, vs)), (e, .inl (cO, 10, .inr (.inr (.inr (.inr f)))))]) sz)) (0) (0) (va_A ([(h, .inr (11, [.ref e, .int (nI n), .int mo])), (q, .inr (ci, vs)), (e, .inl (cO, 10, .inr (.inr (.inr (.inr f)))))]) sz) := by
  refine fq_open (by decide +kernel) (Nat.le_of_ble_eq_true rfl) ?_
  intro pg ev s mt below meth cd ls K hret hlk hin hK hZ hP hD hA hS hl
  generalize va_A ([(h, .inr (11, [.ref e, .int (nI n), .int mo])), (q, .inr (ci, vs)), (e, .inl (cO, 10, .inr (.inr (.inr (.inr f)))))]) sz = A at hZ hD hA hS ⊢
  have K : fq_Ctx pg mt cd cb_AL_add 2 s _ cn_AL := K
  have hl : lv_has ls 2 [(0, .ref h), (1, .ref q)] := hl
  refine lv_aload_n K.1 K.2.1 dc_AL_add_0 rfl (lv_at hl 0 rfl) ?_
  refine lv_dup K.1 K.2.1 dc_AL_add_1 rfl ?_
  refine fq_getS K hK cl_AL hP 0 2 rfl (by decide) wd_79 wd_80 rfl dc_AL_add_2 ?_
  refine lv_iconst (v := 1) K.1 K.2.1 dc_AL_add_5 (by decide) ?_
  refine lv_iadd K.1 K.2.1 dc_AL_add_6 ?_
  refine lv_topi (fun v1 e_v1 => ?_)
  refine fq_putS K hK cl_AL hP hD hS 0 2 rfl (by decide) wd_79 wd_80 rfl rfl rfl (Nat.le_of_ble_eq_true rfl) dc_AL_add_7 (fun H locs hP hD hS => ?_)
  have hP : va_P D fq_cl ([(h, .inr (11, [.ref e, .int (nI n), .int v1])), (q, .inr (ci, vs)), (e, .inl (cO, 10, .inr (.inr (.inr (.inr f)))))]) _ := hP
  have hD : va_D A ([(h, .inr (11, [.ref e, .int (nI n), .int v1])), (q, .inr (ci, vs)), (e, .inl (cO, 10, .inr (.inr (.inr (.inr f)))))]) := hD
  refine lv_aload_n K.1 K.2.1 dc_AL_add_10 rfl (lv_at hl 0 rfl) ?_
  refine lv_aload_n K.1 K.2.1 dc_AL_add_11 rfl (lv_at hl 1 rfl) ?_
  refine lv_aload_n K.1 K.2.1 dc_AL_add_12 rfl (lv_at hl 0 rfl) ?_
  refine fq_get K hK cl_AL hP 0 0 rfl (by decide) wd_76 rfl dc_AL_add_13 ?_
  refine lv_aload_n K.1 K.2.1 dc_AL_add_16 rfl (lv_at hl 0 rfl) ?_
  refine fq_get K hK cl_AL hP 0 1 rfl (by decide) wd_77 rfl dc_AL_add_17 ?_
  have hc := fq_cut.of (wc := [(h, .inr (11, [.ref e, .int (nI n), .int v1])), (q, .inr (ci, vs)), (e, .inl (cO, 10, .inr (.inr (.inr (.inr f)))))]) hP hD hS hA [0, 1, 2] (by decide) rfl
  refine fq_cv (wr := []) (fq_rV K hK hZ hS hc (ct_AL_add2B l D cI cO tE h e n v1 f q ci vs rc hci hcs hn _) yk_AL_add2 wd_282 wd_2 wd_280 0 rfl rfl rfl ⟨⟨rfl, rfl⟩, ⟨Nat.le_of_ble_eq_true rfl, Nat.le_of_ble_eq_true rfl⟩, ⟨Nat.le_of_ble_eq_true rfl, Nat.le_of_ble_eq_true rfl⟩⟩ hl.1 rfl (Nat.le_of_ble_eq_true rfl) dc_AL_add_20) hP hD hS hc [0, 1, 2] [] rfl rfl (by decide) (by decide) (fun  w H locs hw1 hP hD hS => ?_)
  subst hw1
  have hP : va_P D fq_cl ([(h, .inr (11, [.ref e, .int (nI (n + 1)), .int v1])), (q, .inr (ci, vs)), (e, .inl (cO, 10, .inr (.inr (.inr (.inr (va_up f n (some q)))))))]) _ := hP
  have hD : va_D A ([(h, .inr (11, [.ref e, .int (nI (n + 1)), .int v1])), (q, .inr (ci, vs)), (e, .inl (cO, 10, .inr (.inr (.inr (.inr (va_up f n (some q)))))))]) := hD
  refine lv_iconst (v := 1) K.1 K.2.1 dc_AL_add_23 (by decide) ?_
  exact fq_retz K hret hlk hS hP hD (by first | exact Or.inl rfl | exact Or.inr rfl) ⟨_, rfl, rfl⟩ dc_AL_add_24 (Nat.le_of_ble_eq_true rfl) (Nat.le_of_ble_eq_true rfl)
end
section
theorem wd_10 : Cond.selects cn_Chain my_Chain_makeSamples my_Chain_makeSamples ∈ fq_TB := fq_in 10 (by decide +kernel) rfl
theorem wd_27 : Cond.initialized cn_Chain ∈ fq_TB := fq_in 27 (by decide +kernel) rfl
theorem wd_106 : Cond.fieldLink cn_Chain 23 cn_Chain "passing" "LFilterPipe$Row;" ∈ fq_TB := fq_in 106 (by decide +kernel) rfl
theorem wd_225 : Cond.instanceMethod my_Chain_length ∈ fq_TB := fq_in 225 (by decide +kernel) rfl
theorem wd_226 : Cond.selects cn_Chain my_Chain_length my_Chain_length ∈ fq_TB := fq_in 226 (by decide +kernel) rfl
theorem wd_227 : Cond.code my_Chain_length cb_Chain_length 1 (some .int) ∈ fq_TB := fq_in 227 (by decide +kernel) rfl
theorem wd_415 : Cond.instanceMethod my_Chain_hasPlaceForResampler ∈ fq_TB := fq_in 415 (by decide +kernel) rfl
theorem wd_416 : Cond.selects cn_Chain my_Chain_hasPlaceForResampler my_Chain_hasPlaceForResampler ∈ fq_TB := fq_in 416 (by decide +kernel) rfl
theorem wd_417 : Cond.code my_Chain_hasPlaceForResampler cb_Chain_hasPlaceForResampler 1 (some .boolean) ∈ fq_TB := fq_in 417 (by decide +kernel) rfl
theorem wd_606 : Cond.methodLink cn_Chain 48 my_Row_add ∈ fq_TB := fq_in 606 (by decide +kernel) rfl
theorem wd_643 : Cond.instanceMethod my_Chain_makeSamples ∈ fq_TB := fq_in 643 (by decide +kernel) rfl
theorem wd_644 : Cond.code my_Chain_makeSamples cb_Chain_makeSamples 4 none ∈ fq_TB := fq_in 644 (by decide +kernel) rfl

theorem mk_step {cI : ClassId} {hs due j i : Nat} {ff f2 : Nat → Int32} {L LL : List Int32} {sp : fm_S} {xs : List Int} {m : Nat} {gg g2 : va_W} {r : Int32} (h : j ≤ due ∧ rw_ok 366 ff i LL ∧ LL.length = L.length + j ∧ LL.map Int32.toInt = L.map Int32.toInt ++ (List.range j).map (fun z => fm_y sp xs (m + z)) ∧ sg_ok cI hs sp xs (m + j) gg)
    (hj : j < due) (hw : r.toInt = fm_y sp xs (m + j) ∧ sg_ok cI hs sp xs (m + j + 1) g2) (hr : rw_ok 366 f2 i (rw_put 366 LL r)) (hc : L.length + due ≤ 366) :
    j + 1 ≤ due ∧ rw_ok 366 f2 i (rw_put 366 LL r) ∧ (rw_put 366 LL r).length = L.length + (j + 1) ∧ (rw_put 366 LL r).map Int32.toInt = L.map Int32.toInt ++ (List.range (j + 1)).map (fun z => fm_y sp xs (m + z)) ∧ sg_ok cI hs sp xs (m + (j + 1)) g2 := by
  obtain ⟨h1, h2, h3, h4, h5⟩ := h
  refine ⟨hj, hr, ?_, ?_, hw.2⟩
  · rw [rw_put_lt (by omega)]; simp; omega
  · rw [rw_put_lt (by omega), List.map_append, h4, List.range_succ, List.map_append, List.append_assoc]
    simp [hw.1]

theorem dc_Chain_makeSamples_0 : decode cb_Chain_makeSamples 0 = .ok (.iconst 0, 1) := by decide +kernel
theorem dc_Chain_makeSamples_1 : decode cb_Chain_makeSamples 1 = .ok (.istore_n 3, 1) := by decide +kernel
theorem dc_Chain_makeSamples_2 : decode cb_Chain_makeSamples 2 = .ok (.iload_n 3, 1) := by decide +kernel
theorem dc_Chain_makeSamples_3 : decode cb_Chain_makeSamples 3 = .ok (.iload_n 2, 1) := by decide +kernel
theorem dc_Chain_makeSamples_4 : decode cb_Chain_makeSamples 4 = .ok (.if_icmp .ge 20, 3) := by decide +kernel
theorem dc_Chain_makeSamples_7 : decode cb_Chain_makeSamples 7 = .ok (.aload_n 0, 1) := by decide +kernel
theorem dc_Chain_makeSamples_8 : decode cb_Chain_makeSamples 8 = .ok (.getfield 23, 3) := by decide +kernel
theorem dc_Chain_makeSamples_11 : decode cb_Chain_makeSamples 11 = .ok (.aload_n 1, 1) := by decide +kernel
theorem dc_Chain_makeSamples_12 : decode cb_Chain_makeSamples 12 = .ok (.invokevirtual 69, 3) := by decide +kernel
theorem dc_Chain_makeSamples_15 : decode cb_Chain_makeSamples 15 = .ok (.invokevirtual 48, 3) := by decide +kernel
theorem dc_Chain_makeSamples_18 : decode cb_Chain_makeSamples 18 = .ok (.iinc 3 1, 3) := by decide +kernel
theorem dc_Chain_makeSamples_21 : decode cb_Chain_makeSamples 21 = .ok (.goto (-19), 3) := by decide +kernel
theorem dc_Chain_makeSamples_24 : decode cb_Chain_makeSamples 24 = .ok (.return_, 1) := by decide +kernel
theorem yk_Chain_makeSamples : fq_Y my_Chain_makeSamples cb_Chain_makeSamples 4 none 2 := ⟨wd_644, wd_27, by decide +kernel⟩
theorem dc_Chain_length_0 : decode cb_Chain_length 0 = .ok (.aload_n 0, 1) := by decide +kernel
theorem dc_Chain_length_1 : decode cb_Chain_length 1 = .ok (.getfield 12, 3) := by decide +kernel
theorem dc_Chain_length_4 : decode cb_Chain_length 4 = .ok (.invokevirtual 27, 3) := by decide +kernel
theorem dc_Chain_length_7 : decode cb_Chain_length 7 = .ok (.ireturn, 1) := by decide +kernel
theorem yk_Chain_length : fq_Y my_Chain_length cb_Chain_length 1 (some .int) 0 := ⟨wd_227, wd_27, by decide +kernel⟩
theorem dc_Chain_hasPlaceForResampler_0 : decode cb_Chain_hasPlaceForResampler 0 = .ok (.aload_n 0, 1) := by decide +kernel
theorem dc_Chain_hasPlaceForResampler_1 : decode cb_Chain_hasPlaceForResampler 1 = .ok (.getfield 37, 3) := by decide +kernel
theorem dc_Chain_hasPlaceForResampler_4 : decode cb_Chain_hasPlaceForResampler 4 = .ok (.iconst 2, 1) := by decide +kernel
theorem dc_Chain_hasPlaceForResampler_5 : decode cb_Chain_hasPlaceForResampler 5 = .ok (.if_icmp .ge 7, 3) := by decide +kernel
theorem dc_Chain_hasPlaceForResampler_8 : decode cb_Chain_hasPlaceForResampler 8 = .ok (.iconst 1, 1) := by decide +kernel
theorem dc_Chain_hasPlaceForResampler_9 : decode cb_Chain_hasPlaceForResampler 9 = .ok (.goto 4, 3) := by decide +kernel
theorem dc_Chain_hasPlaceForResampler_12 : decode cb_Chain_hasPlaceForResampler 12 = .ok (.iconst 0, 1) := by decide +kernel
theorem dc_Chain_hasPlaceForResampler_13 : decode cb_Chain_hasPlaceForResampler 13 = .ok (.ireturn, 1) := by decide +kernel
theorem yk_Chain_hasPlaceForResampler : fq_Y my_Chain_hasPlaceForResampler cb_Chain_hasPlaceForResampler 1 (some .boolean) 0 := ⟨wd_417, wd_27, by decide +kernel⟩
set_option maxHeartbeats 4000000 in
set_option maxRecDepth 100000 in
theorem ct_Chain_makeSamples (l : Launch) (D : va_G) (cI cO : ClassId) (tE : Nat) (h hL hR aR : Nat) (rs : Int32) (f : Nat → Int32) (i : Nat) (L : List Int32) (hs : Nat) (due : Nat) (sp : fm_S) (xs : List Int) (m : Nat) (g : va_W) (hrow : rw_ok 366 f i L) (hsg : sg_ok cI hs sp xs m g) (hcap : L.length + due ≤ 366) (hm1 : fm_m sp false (xs.length - 1) ≤ m) (hm2 : m + due ≤ fm_m sp true xs.length) (hm3 : m + due < 299000) (sz : Nat) : Met l my_Chain_makeSamples (fq_w my_Chain_makeSamples cb_Chain_makeSamples 4 none) ({ frames := 3, cells := 0, slots := 0, locals := 63 }) (va_Pc ([.ref h, .ref hs, .int (nI due)]) (fq_Pre D cI cO tE sz ([(h, .inr (6, [.ref hL, .ref hR, .int rs])), (hR, .inr (0, [.ref aR, .int (nI i), .int (nI L.length)])), (aR, .inl (cI, 366, .inl f))] ++ g))) (va_Qv (S := va_W) (fun w => ∃ (f2 : Nat → Int32) (L2 : List Int32) (g2 : va_W), w = [(h, .inr (6, [.ref hL, .ref hR, .int rs])), (hR, .inr (0, [.ref aR, .int (nI i), .int (nI L2.length)])), (aR, .inl (cI, 366, .inl f2))] ++ g2 ∧ rw_ok 366 f2 i L2 ∧ L2.map Int32.toInt = L.map Int32.toInt ++ (List.range due).map (fun z => fm_y sp xs (m + z)) ∧ sg_ok cI hs sp xs (m + due) g2) (fq_Bw D (va_A ([(h, .inr (6, [.ref hL, .ref hR, .int rs])), (hR, .inr (0, [.ref aR, .int (nI i), .int (nI L.length)])), (aR, .inl (cI, 366, .inl f))] ++ g) sz)) (va_A ([(h, .inr (6, [.ref hL, .ref hR, .int rs])), (hR, .inr (0, [.ref aR, .int (nI i), .int (nI L.length)])), (aR, .inl (cI, 366, .inl f))] ++ g) sz)) (0) (0) (va_A ([(h, .inr (6, [.ref hL, .ref hR, .int rs])), (hR, .inr (0, [.ref aR, .int (nI i), .int (nI L.length)])), (aR, .inl (cI, 366, .inl f))] ++ g) sz) := by
  refine fq_open (by decide +kernel) (Nat.le_of_ble_eq_true rfl) ?_
  intro pg ev s mt below meth cd ls K hret hlk hin hK hZ hP hD hA hS hl
  generalize va_A ([(h, .inr (6, [.ref hL, .ref hR, .int rs])), (hR, .inr (0, [.ref aR, .int (nI i), .int (nI L.length)])), (aR, .inl (cI, 366, .inl f))] ++ g) sz = A at hZ hD hA hS ⊢
  have K : fq_Ctx pg mt cd cb_Chain_makeSamples 4 s _ cn_Chain := K
  have hl : lv_has ls 4 [(0, .ref h), (1, .ref hs), (2, .int (nI due))] := hl
  refine lv_iconst (v := 0) K.1 K.2.1 dc_Chain_makeSamples_0 (by decide) ?_
  refine lv_istore_n K.1 K.2.1 dc_Chain_makeSamples_1 rfl hl (by decide) rfl (fun ls hl => ?_)
  have hl : lv_has ls 4 [(3, .int 0), (0, .ref h), (1, .ref hs), (2, .int (nI due))] := hl
  refine fq_lp (σ := Nat × (Nat → Int32) × List Int32 × va_W) (fun x => due - x.1) (fun x H locs ls => (x.1 ≤ due ∧ rw_ok 366 x.2.1 i x.2.2.1 ∧ x.2.2.1.length = L.length + x.1 ∧ x.2.2.1.map Int32.toInt = L.map Int32.toInt ++ (List.range x.1).map (fun z => fm_y sp xs (m + z)) ∧ sg_ok cI hs sp xs (m + x.1) x.2.2.2) ∧ lv_has ls 4 [(0, .ref h), (1, .ref hs), (2, .int (nI due)), (3, .int (nI x.1))] ∧ va_P D fq_cl ([(h, .inr (6, [.ref hL, .ref hR, .int rs])), (hR, .inr (0, [.ref aR, .int (nI i), .int (nI x.2.2.1.length)])), (aR, .inl (cI, 366, .inl x.2.1))] ++ x.2.2.2) H ∧ va_D A ([(h, .inr (6, [.ref hL, .ref hR, .int rs])), (hR, .inr (0, [.ref aR, .int (nI i), .int (nI x.2.2.1.length)])), (aR, .inl (cI, 366, .inl x.2.1))] ++ x.2.2.2) ∧ va_S A s.heap H locs) ?_ (0, f, L, g) _ _ _ ⟨⟨Nat.zero_le _, hrow, rfl, by simp, hsg⟩, lv_sub hl [1, 2, 3, 0] rfl, hP, hD, hS⟩
  rintro ⟨j, ff, LL, gg⟩ H locs ls ⟨hI2, hl, hP, hD, hS⟩ ih2
  have hI2 : j ≤ due ∧ rw_ok 366 ff i LL ∧ LL.length = L.length + j ∧ LL.map Int32.toInt = L.map Int32.toInt ++ (List.range j).map (fun z => fm_y sp xs (m + z)) ∧ sg_ok cI hs sp xs (m + j) gg := hI2
  have hl : lv_has ls 4 [(0, .ref h), (1, .ref hs), (2, .int (nI due)), (3, .int (nI j))] := hl
  have hP : va_P D fq_cl ([(h, .inr (6, [.ref hL, .ref hR, .int rs])), (hR, .inr (0, [.ref aR, .int (nI i), .int (nI LL.length)])), (aR, .inl (cI, 366, .inl ff))] ++ gg) _ := hP
  have hD : va_D A ([(h, .inr (6, [.ref hL, .ref hR, .int rs])), (hR, .inr (0, [.ref aR, .int (nI i), .int (nI LL.length)])), (aR, .inl (cI, 366, .inl ff))] ++ gg) := hD
  refine lv_iload_n K.1 K.2.1 dc_Chain_makeSamples_2 rfl (lv_at hl 3 rfl) ?_
  refine lv_iload_n K.1 K.2.1 dc_Chain_makeSamples_3 rfl (lv_at hl 2 rfl) ?_
  refine lv_icmp_ge (tgt := 24) K.1 K.2.1 dc_Chain_makeSamples_4 rfl (fun b4 => ?_) (fun b4 => ?_)
  · skip
    have hj : j = due := by rw [nI_leI (by omega) (by omega)] at b4; omega
    exact fq_retv K hret hlk hS hP hD ⟨_, _, _, rfl, hI2.2.1, by rw [← hj]; exact hI2.2.2.2.1, by rw [← hj]; exact hI2.2.2.2.2⟩ dc_Chain_makeSamples_24 (Nat.le_of_ble_eq_true rfl) (Nat.le_of_ble_eq_true rfl)
  · skip
    have hj : j < due := by rw [nI_leI (by omega) (by omega)] at b4; omega
    refine lv_aload_n K.1 K.2.1 dc_Chain_makeSamples_7 rfl (lv_at hl 0 rfl) ?_
    refine fq_get K hK cl_Chain hP 0 1 rfl (by decide) wd_106 rfl dc_Chain_makeSamples_8 ?_
    refine lv_aload_n K.1 K.2.1 dc_Chain_makeSamples_11 rfl (lv_at hl 1 rfl) ?_
    have hcg := fq_cutR (wc := gg) (wr := [(h, .inr (6, [.ref hL, .ref hR, .int rs])), (hR, .inr (0, [.ref aR, .int (nI i), .int (nI LL.length)])), (aR, .inl (cI, 366, .inl ff))]) List.perm_append_comm hP hD hS hA
    refine fq_ciR (wr := [(h, .inr (6, [.ref hL, .ref hR, .int rs])), (hR, .inr (0, [.ref aR, .int (nI i), .int (nI LL.length)])), (aR, .inl (cI, 366, .inl ff))]) (sg_run_make K hK hZ hS hcg hI2.2.2.2.2 (by omega) (by omega) (by omega) (Nat.le_of_ble_eq_true rfl) (Nat.le_of_ble_eq_true rfl) (Nat.le_of_ble_eq_true rfl) (Nat.le_of_ble_eq_true rfl) hl.1 (Nat.le_of_ble_eq_true rfl) dc_Chain_makeSamples_12) hP hD hS hcg List.perm_append_comm (fun r1 g1 H locs hw1 hP hD hS => ?_)
    have hP := fq_permP List.perm_append_comm hP
    have hD := fq_permD List.perm_append_comm hD
    have hP : va_P D fq_cl ([(h, .inr (6, [.ref hL, .ref hR, .int rs])), (hR, .inr (0, [.ref aR, .int (nI i), .int (nI LL.length)])), (aR, .inl (cI, 366, .inl ff))] ++ g1) _ := hP
    have hD : va_D A ([(h, .inr (6, [.ref hL, .ref hR, .int rs])), (hR, .inr (0, [.ref aR, .int (nI i), .int (nI LL.length)])), (aR, .inl (cI, 366, .inl ff))] ++ g1) := hD
    have hc := fq_cutT (X := [(h, .inr (6, [.ref hL, .ref hR, .int rs])), (hR, .inr (0, [.ref aR, .int (nI i), .int (nI LL.length)])), (aR, .inl (cI, 366, .inl ff))]) (T := g1) (cx := [(hR, .inr (0, [.ref aR, .int (nI i), .int (nI LL.length)])), (aR, .inl (cI, 366, .inl ff))]) hP hD hS hA [1, 2] (by decide) rfl
    refine fq_cvT (wr := [(h, .inr (6, [.ref hL, .ref hR, .int rs]))]) (fq_rV K hK hZ hS hc (ct_Row_add l D cI cO tE hR aR 366 ff i LL r1 hI2.2.1 _) yk_Row_add wd_554 wd_555 wd_606 0 rfl rfl rfl ⟨⟨rfl, rfl⟩, ⟨Nat.le_of_ble_eq_true rfl, Nat.le_of_ble_eq_true rfl⟩, ⟨Nat.le_of_ble_eq_true rfl, Nat.le_of_ble_eq_true rfl⟩⟩ hl.1 rfl (Nat.le_of_ble_eq_true rfl) dc_Chain_makeSamples_15) hP hD hS hc [1, 2] [0] rfl rfl (by decide) (by decide) (fun  w H locs hw2 hP hD hS => ?_)
    obtain ⟨g2, rfl, hrow1⟩ := hw2
    have hP : va_P D fq_cl ([(h, .inr (6, [.ref hL, .ref hR, .int rs])), (hR, .inr (0, [.ref aR, .int (nI i), .int (nI (rw_put 366 LL r1).length)])), (aR, .inl (cI, 366, .inl g2))] ++ g1) _ := hP
    have hD : va_D A ([(h, .inr (6, [.ref hL, .ref hR, .int rs])), (hR, .inr (0, [.ref aR, .int (nI i), .int (nI (rw_put 366 LL r1).length)])), (aR, .inl (cI, 366, .inl g2))] ++ g1) := hD
    refine lv_iinc (v := nI (j + 1)) K.1 K.2.1 dc_Chain_makeSamples_18 hl (k := 3) rfl (nI_1 j) (by decide) rfl (fun ls hl => ?_)
    have hl : lv_has ls 4 [(3, .int (nI (j + 1))), (0, .ref h), (1, .ref hs), (2, .int (nI due))] := hl
    refine lv_goto (tgt := 2) K.1 K.2.1 dc_Chain_makeSamples_21 rfl ?_
    exact ih2 (j + 1, g2, rw_put 366 LL r1, g1) _ _ _ (by show due - (j + 1) < due - j; omega) ⟨mk_step hI2 hj hw1 hrow1 hcap, lv_sub hl [1, 2, 3, 0] rfl, hP, hD, hS⟩
end
section
theorem wd_8 : Cond.selects cn_Chain my_Chain_passThrough my_Chain_passThrough ∈ fq_TB := fq_in 8 (by decide +kernel) rfl
theorem wd_105 : Cond.fieldLink cn_Chain 12 cn_Chain "stages" "Ljava/util/ArrayList;" ∈ fq_TB := fq_in 105 (by decide +kernel) rfl
theorem wd_228 : Cond.methodLink cn_Chain 27 my_AL_size ∈ fq_TB := fq_in 228 (by decide +kernel) rfl
theorem wd_466 : Cond.methodLink cn_Chain 31 my_AL_get ∈ fq_TB := fq_in 466 (by decide +kernel) rfl
theorem wd_480 : Cond.classLink cn_Chain 35 cn_Stage ∈ fq_TB := fq_in 480 (by decide +kernel) rfl
theorem wd_609 : Cond.instanceMethod my_Chain_passThrough ∈ fq_TB := fq_in 609 (by decide +kernel) rfl
theorem wd_610 : Cond.code my_Chain_passThrough cb_Chain_passThrough 7 none ∈ fq_TB := fq_in 610 (by decide +kernel) rfl
theorem wd_611 : Cond.methodLink cn_Chain 61 my_Row_size ∈ fq_TB := fq_in 611 (by decide +kernel) rfl
theorem wd_612 : Cond.methodLink cn_Chain 62 my_Row_takeOldest ∈ fq_TB := fq_in 612 (by decide +kernel) rfl
theorem wd_641 : Cond.methodLink cn_Chain 57 my_Chain_makeSamples ∈ fq_TB := fq_in 641 (by decide +kernel) rfl
theorem wn_1001 : Cond.castable cn_Gain cn_Stage ∈ lw_tbl := List.mem_of_getElem? (i := 1001) (by decide +kernel)
theorem wn_1002 : Cond.castable cn_Resampler cn_Stage ∈ lw_tbl := List.mem_of_getElem? (i := 1002) (by decide +kernel)
theorem wn_1003 : Cond.castable cn_Section cn_Stage ∈ lw_tbl := List.mem_of_getElem? (i := 1003) (by decide +kernel)
theorem wn_1004 : Cond.castable cn_Window cn_Stage ∈ lw_tbl := List.mem_of_getElem? (i := 1004) (by decide +kernel)

section FQT
variable {p : Program} {l : Launch} {e : Env} {R : Room} {s : State} {m : MethodId} {args : Array Value} {below : List Frame} {meth : Method} {c : Code} {H : Heap} {locs : List Loc} {cells slots : Nat} {Q : State → Prop}
variable {cc : ByteArray} {nL pc : Nat} {ls : Array Slot} {rest st0 : List Value} {D : va_G} {A : Nat → Prop} {wr X cx T : va_W} {mc ms : Nat}
theorem fq_cqT {post : Option Nat → va_W → Prop} {a : Array Value} (hr : va_Run p l e R s m args below meth c H locs cells slots mc ms (F0 m pc ls st0) rest (va_Qq (S := va_W) post (fq_Bw D (va_A cx H.size)) (va_A cx H.size) a) (va_A cx H.size))
    (hP : va_P D fq_cl (X ++ T) H) (hD : va_D A (X ++ T)) (hS : va_S A s.heap H locs) (hc : fq_cut D A H cx) (isC isR : List Nat) (hC : isC.map (fun i => X[i]?) = cx.map some) (hR : isR.map (fun i => X[i]?) = wr.map some) (hn : va_nd isR = true) (hdis : ∀ i ∈ isR, i ∉ isC)
    (kk : ∀ (r : Option Nat) (w : va_W) (H1 : Heap) (locs1 : List Loc), post r w → va_P D fq_cl ((wr ++ w) ++ T) H1 → va_D A ((wr ++ w) ++ T) → va_S A s.heap H1 locs1 → W p l e R s m args below meth c H1 locs1 (cells + mc) (slots + ms) Q (F0 m (pc + 3) ls (va_rf r :: rest))) : W p l e R s m args below meth c H locs cells slots Q (F0 m pc ls st0) := by
  refine va_callq hr hS (fun q _ h => hc.2.2 q h) hc.2.2 (fun r u t H1 locs1 ht hvm hp hB hz hk hS1 => ?_)
  obtain ⟨hP1, hD1⟩ := hB
  rw [ht] at hP1
  obtain ⟨hP2, hD2⟩ := va_joinQ hP hD isC isR hC hR hn hdis hk hc.2.2 hP1 hD1
  exact kk r u H1 locs1 hp hP2 hD2 hS1
theorem fq_cl_T {post : Int64 → va_W → Prop} {a : Array Value} (hr : va_Run p l e R s m args below meth c H locs cells slots mc ms (F0 m pc ls st0) rest (va_Ql (S := va_W) post (fq_Bw D (va_A cx H.size)) (va_A cx H.size) a) (va_A cx H.size))
    (hP : va_P D fq_cl (X ++ T) H) (hD : va_D A (X ++ T)) (hS : va_S A s.heap H locs) (hc : fq_cut D A H cx) (isC isR : List Nat) (hC : isC.map (fun i => X[i]?) = cx.map some) (hR : isR.map (fun i => X[i]?) = wr.map some) (hn : va_nd isR = true) (hdis : ∀ i ∈ isR, i ∉ isC)
    (kk : ∀ (r : Int64) (w : va_W) (H1 : Heap) (locs1 : List Loc), post r w → va_P D fq_cl ((wr ++ w) ++ T) H1 → va_D A ((wr ++ w) ++ T) → va_S A s.heap H1 locs1 → W p l e R s m args below meth c H1 locs1 (cells + mc) (slots + ms) Q (F0 m (pc + 3) ls (.long r :: rest))) : W p l e R s m args below meth c H locs cells slots Q (F0 m pc ls st0) := by
  refine va_calll hr hS (fun q _ h => hc.2.2 q h) hc.2.2 (fun r u t H1 locs1 ht hvm hp hB hz hk hS1 => ?_)
  obtain ⟨hP1, hD1⟩ := hB
  rw [ht] at hP1
  obtain ⟨hP2, hD2⟩ := va_joinQ hP hD isC isR hC hR hn hdis hk hc.2.2 hP1 hD1
  exact kk r u H1 locs1 hp hP2 hD2 hS1
end FQT
/-- a stage of the chain: its address, what it is, what came to it, how many it has made -/
abbrev ch_T : Type := Nat × fm_S × List Int × Nat
def ch_ok (cI : ClassId) (Ls : List va_W) (sts : List ch_T) : Prop := Ls.length = sts.length ∧ ∀ (k : Nat) (s : ch_T) (g : va_W), sts[k]? = some s → Ls[k]? = some g → sg_ok cI s.1 s.2.1 s.2.2.1 s.2.2.2 g
def al_W (tE : Nat) (cO : ClassId) (hL : Nat) (sts : List ch_T) (wl : va_W) : Prop :=
  (sts = [] ∧ ∃ mo : Int32, wl = [(hL, .inr (11, [.ref tE, .int (nI 0), .int mo]))])
  ∨ ∃ (e : Nat) (mo : Int32) (f : Nat → Option Nat), wl = [(hL, .inr (11, [.ref e, .int (nI sts.length), .int mo])), (e, .inl (cO, 10, .inr (.inr (.inr (.inr f)))))] ∧ sts.length ≤ 5 ∧ ∀ (k : Nat) (s : ch_T), sts[k]? = some s → f k = some s.1
def ch_one (sts : List ch_T) (k : Nat) (q : List Int) : List ch_T × List Int := match sts[k]? with
  | some s => (sts.set k (s.1, s.2.1, s.2.2.1 ++ q, fm_m s.2.1 false (s.2.2.1.length + q.length)), fm_d s.2.1 false s.2.2.1 q)
  | none => (sts, q)
def ch_it (sts : List ch_T) (k : Nat) (q : List Int) : Nat → List ch_T × List Int
  | 0 => (sts, q)
  | n + 1 => ch_one (ch_it sts k q n).1 (k + n) (ch_it sts k q n).2
def ch_un (sts : List ch_T) (fr : Nat) : Prop := ∀ (k : Nat) (s : ch_T), fr ≤ k → sts[k]? = some s → s.2.2.2 = fm_m s.2.1 false s.2.2.1.length
def ch_fit (sts : List ch_T) (fr : Nat) (q : List Int) : Prop := ∀ n, n ≤ sts.length - fr → (ch_it sts fr q n).2.length ≤ 366 ∧ (∀ v ∈ (ch_it sts fr q n).2, fm_in v) ∧ ∀ s ∈ (ch_it sts fr q n).1, s.2.2.1.length < 50000
theorem ch_get {cI : ClassId} {Ls : List va_W} {sts : List ch_T} {k : Nat} {s : ch_T} (h : ch_ok cI Ls sts) (hk : sts[k]? = some s) : ∃ g, Ls[k]? = some g ∧ sg_ok cI s.1 s.2.1 s.2.2.1 s.2.2.2 g := by
  have hl : k < Ls.length := by rw [h.1]; exact (List.getElem?_eq_some_iff.mp hk).1
  exact ⟨Ls[k], List.getElem?_eq_getElem hl, h.2 k s _ hk (List.getElem?_eq_getElem hl)⟩
theorem ch_set {Lg : List va_W} {a : Nat} {g g2 : va_W} (h : Lg[a]? = some g) : (Lg.set a g2)[a]? = some g2 := List.getElem?_set_self (List.getElem?_eq_some_iff.mp h).1
theorem ch_upd {cI : ClassId} {Ls : List va_W} {sts : List ch_T} {k : Nat} {s : ch_T} {g : va_W} (h : ch_ok cI Ls sts) (hs : sg_ok cI s.1 s.2.1 s.2.2.1 s.2.2.2 g) : ch_ok cI (Ls.set k g) (sts.set k s) := by
  refine ⟨by simp [h.1], fun j t u h1 h2 => ?_⟩
  by_cases e : j = k
  · subst e
    have l1 : j < sts.length := by have := (List.getElem?_eq_some_iff.mp h1).1; simpa using this
    rw [List.getElem?_set_self l1] at h1
    rw [List.getElem?_set_self (by rw [h.1]; exact l1)] at h2
    cases h1; cases h2
    exact hs
  · rw [List.getElem?_set_ne (Ne.symm e)] at h1 h2
    exact h.2 j t u h1 h2
theorem fq_gx {X Y : va_W} {L : List va_W} {i : Nat} {g : va_W} (h : L[i]? = some g) : ((X ++ Y) ++ L.flatten).Perm ((X ++ g) ++ (Y ++ (L.eraseIdx i).flatten)) := by
  rw [List.append_assoc, List.append_assoc]
  exact (((fq_fl h).append_left Y).trans (List.perm_append_comm_assoc Y g _)).append_left X
theorem fq_gy {X Y : va_W} {L : List va_W} {i : Nat} {g g' : va_W} (h : L[i]? = some g) : ((X ++ g') ++ (Y ++ (L.eraseIdx i).flatten)).Perm ((X ++ Y) ++ (L.set i g').flatten) := by
  rw [List.append_assoc, List.append_assoc]
  exact ((((fq_fs h).append_left Y).trans (List.perm_append_comm_assoc Y g' _)).append_left X).symm
theorem ch_it_ge {sts : List ch_T} {k : Nat} {q : List Int} : ∀ {n j : Nat}, k + n ≤ j → (ch_it sts k q n).1[j]? = sts[j]?
  | 0, j, _ => rfl
  | n + 1, j, h => by
    have ih := ch_it_ge (sts := sts) (k := k) (q := q) (n := n) (j := j) (by omega)
    show (ch_one (ch_it sts k q n).1 (k + n) (ch_it sts k q n).2).1[j]? = sts[j]?
    unfold ch_one
    split
    · rw [List.getElem?_set_ne (by omega)]; exact ih
    · exact ih
theorem ch_it_len {sts : List ch_T} {k : Nat} {q : List Int} : ∀ {n : Nat}, (ch_it sts k q n).1.length = sts.length
  | 0 => rfl
  | n + 1 => by
    have ih := ch_it_len (sts := sts) (k := k) (q := q) (n := n)
    show (ch_one (ch_it sts k q n).1 (k + n) (ch_it sts k q n).2).1.length = sts.length
    unfold ch_one
    split
    · rw [List.length_set]; exact ih
    · exact ih
theorem fm_d_length {sp : fm_S} {fl : Bool} {xs zs : List Int} : (fm_d sp fl xs zs).length = fm_m sp fl (xs.length + zs.length) - fm_m sp false xs.length := by
  unfold fm_d; rw [List.length_drop, fm_o_length, List.length_append]
theorem fm_d_nil {sp : fm_S} {xs : List Int} : fm_d sp false xs [] = [] := by
  apply List.eq_nil_of_length_eq_zero
  rw [fm_d_length, List.length_nil, Nat.add_zero, Nat.sub_self]
/-- one more came: what is made then stands behind what was made -/
theorem fm_d_snoc {sp : fm_S} (hok : fm_ok sp) {xs ys : List Int} {x : Int} : fm_d sp false xs (ys ++ [x]) = fm_d sp false xs ys ++ (List.range (fm_m sp false (xs.length + ys.length + 1) - fm_m sp false (xs.length + ys.length))).map (fun z => fm_y sp (xs ++ ys ++ [x]) (fm_m sp false (xs.length + ys.length) + z)) := by
  have h1 := fm_o_app hok false (xs ++ ys) [x]
  have hle : fm_m sp false xs.length ≤ fm_m sp false (xs.length + ys.length) := fm_m_le hok false (by omega)
  unfold fm_d
  rw [← List.append_assoc, h1, List.drop_append_of_le_length (by rw [fm_o_length, List.length_append]; exact hle)]
  congr 1
  apply List.ext_getElem
  · rw [List.length_drop, fm_o_length, List.length_map, List.length_range]
    simp [Nat.add_assoc]
  · intro k k1 k2
    rw [List.getElem_drop]
    simp only [fm_o, List.getElem_map, List.getElem_range, List.length_append]
theorem fm_m_bd {sp : fm_S} (hok : fm_ok sp) {fl : Bool} {n : Nat} : fm_m sp fl n ≤ 4 * n + 10 := by
  obtain ⟨h3, -, -, hw, hr⟩ := hok
  unfold fm_m
  by_cases h0 : n = 0 ∨ sp.1 < 2
  · rw [if_pos h0]; omega
  rw [if_neg h0]
  by_cases k2 : sp.1 = 2
  · obtain ⟨-, l1, l8⟩ := hw k2
    rw [if_pos k2]
    split <;> omega
  · obtain ⟨⟨u1, u4⟩, d1, d4⟩ := hr (by omega)
    have hnu : n * sp.2.1.toNat ≤ n * 4 := Nat.mul_le_mul_left _ (by omega)
    have hmx : (fm_max sp.2.1 sp.2.2.1).toNat ≤ 4 := by unfold fm_max; split <;> omega
    rw [if_neg k2]
    split
    · have := Nat.div_le_self (n * sp.2.1.toNat + 2 * (fm_max sp.2.1 sp.2.2.1).toNat - 3) sp.2.2.1.toNat
      omega
    · have := Nat.div_le_self (n * sp.2.1.toNat + sp.2.2.1.toNat - 1) sp.2.2.1.toNat
      omega
theorem fm_m_res {sp : fm_S} (k3 : sp.1 = 3) (hok : fm_ok sp) {n : Nat} : fm_m sp false n = (n * sp.2.1.toNat + sp.2.2.1.toNat - 1) / sp.2.2.1.toNat := by
  obtain ⟨⟨u1, u4⟩, d1, d4⟩ := hok.2.2.2.2 k3
  unfold fm_m
  by_cases h0 : n = 0
  · subst h0
    rw [if_pos (Or.inl rfl), Nat.zero_mul, Nat.zero_add, Nat.div_eq_of_lt (by omega)]
  · rw [if_neg (by omega), if_neg (by omega), if_neg (by decide)]
theorem fm_m_small {sp : fm_S} (k3 : ¬ sp.1 = 3) (hok : fm_ok sp) {n : Nat} : fm_m sp false n = n := by
  have := hok.1
  unfold fm_m
  by_cases h0 : n = 0 ∨ sp.1 < 2
  · rw [if_pos h0]
  · rw [if_neg h0, if_pos (by omega), if_neg (by decide)]
/-- while a stage takes c and makes, never more lie in the row than before or behind it -/
theorem ch_cap {sp : fm_S} (hok : fm_ok sp) {n c j : Nat} (hj : j ≤ c) : (c - j) + (fm_m sp false (n + j) - fm_m sp false n) ≤ c ∨ (c - j) + (fm_m sp false (n + j) - fm_m sp false n) ≤ fm_m sp false (n + c) - fm_m sp false n := by
  by_cases k3 : sp.1 = 3
  · rw [fm_m_res k3 hok, fm_m_res k3 hok, fm_m_res k3 hok]
    obtain ⟨⟨u1, u4⟩, d1, d4⟩ := hok.2.2.2.2 k3
    generalize hu : sp.2.1.toNat = u
    generalize hd : sp.2.2.1.toNat = d
    have hd0 : 0 < d := by omega
    by_cases hc : d ≤ u
    · right
      have h1 : (n + c) * u = (n + j) * u + (c - j) * u := by rw [← Nat.add_mul]; congr 1; omega
      have h2 : (c - j) * d ≤ (c - j) * u := Nat.mul_le_mul_left _ hc
      have h3 : ((n + j) * u + d - 1 + (c - j) * d) / d ≤ ((n + c) * u + d - 1) / d := Nat.div_le_div_right (by omega)
      rw [Nat.add_mul_div_right _ _ hd0] at h3
      have h4 : (n * u + d - 1) / d ≤ ((n + j) * u + d - 1) / d := Nat.div_le_div_right (by have : n * u ≤ (n + j) * u := Nat.mul_le_mul_right _ (by omega); omega)
      omega
    · left
      have h1 : (n + j) * u = n * u + j * u := Nat.add_mul _ _ _
      have h2 : j * u ≤ j * d := Nat.mul_le_mul_left _ (by omega)
      have h3 : ((n + j) * u + d - 1) / d ≤ (n * u + d - 1 + j * d) / d := Nat.div_le_div_right (by omega)
      rw [Nat.add_mul_div_right _ _ hd0] at h3
      omega
  · rw [fm_m_small k3 hok, fm_m_small k3 hok]; left; omega
section PS
variable {cI : ClassId} {fr a : Nat} {sts stt : List ch_T} {ff f2 f3 : Nat → Int32} {ii i2 i3 j : Nat} {L LL L2 L3 : List Int32} {Lc Lg : List va_W} {hS0 : Nat} {sp : fm_S} {xs : List Int} {m0 : Nat} {g1 g3 : va_W}
def ps_I (cI : ClassId) (fr a : Nat) (sts stt : List ch_T) (ff : Nat → Int32) (ii : Nat) (L LL : List Int32) (Lc : List va_W) : Prop := fr ≤ a ∧ a ≤ sts.length ∧ rw_ok 366 ff ii LL ∧ (stt, LL.map Int32.toInt) = ch_it sts fr (L.map Int32.toInt) (a - fr) ∧ ch_ok cI Lc stt
def ps_J (cI : ClassId) (a : Nat) (stt : List ch_T) (LL : List Int32) (hS0 : Nat) (sp : fm_S) (xs : List Int) (j : Nat) (f2 : Nat → Int32) (i2 : Nat) (L2 : List Int32) (Lg : List va_W) : Prop := j ≤ LL.length ∧ rw_ok 366 f2 i2 L2 ∧ L2.map Int32.toInt = (LL.map Int32.toInt).drop j ++ fm_d sp false xs ((LL.map Int32.toInt).take j) ∧ ch_ok cI Lg (stt.set a (hS0, sp, xs ++ (LL.map Int32.toInt).take j, fm_m sp false (xs.length + j)))
theorem ps_some {a : Nat} {sts : List ch_T} (h : a < sts.length) : ∃ s, sts[a]? = some s := ⟨sts[a], List.getElem?_eq_getElem h⟩
theorem ps_cur (h : ps_I cI fr a sts stt ff ii L LL Lc) (hs : sts[a]? = some (hS0, sp, xs, m0)) : stt[a]? = some (hS0, sp, xs, m0) := by
  have e := congrArg Prod.fst h.2.2.2.1
  have e : stt = _ := e
  rw [e, ch_it_ge (by have := h.1; omega), hs]
theorem ps_fit (h : ps_I cI fr a sts stt ff ii L LL Lc) (hf : ch_fit sts fr (L.map Int32.toInt)) : LL.length ≤ 366 ∧ (∀ v ∈ LL.map Int32.toInt, fm_in v) ∧ ∀ s ∈ stt, s.2.2.1.length < 50000 := by
  have k := hf (a - fr) (by have := h.2.1; omega)
  rw [← h.2.2.2.1] at k
  simpa using k
theorem ps_nx (h : ps_I cI fr a sts stt ff ii L LL Lc) (hs : sts[a]? = some (hS0, sp, xs, m0)) : ch_it sts fr (L.map Int32.toInt) (a + 1 - fr) = (stt.set a (hS0, sp, xs ++ LL.map Int32.toInt, fm_m sp false (xs.length + LL.length)), fm_d sp false xs (LL.map Int32.toInt)) := by
  have h1 := h.1
  rw [show a + 1 - fr = (a - fr) + 1 by omega]
  show ch_one (ch_it sts fr (L.map Int32.toInt) (a - fr)).1 (fr + (a - fr)) (ch_it sts fr (L.map Int32.toInt) (a - fr)).2 = _
  rw [← h.2.2.2.1, show fr + (a - fr) = a by omega]
  unfold ch_one
  simp only [ps_cur h hs]
  rw [List.length_map]
theorem ps_set (h : ps_I cI fr a sts stt ff ii L LL Lc) (ha : a < sts.length) (hs : sts[a]? = some (hS0, sp, xs, m0)) (ys : List Int) (n : Nat) : (stt.set a (hS0, sp, ys, n))[a]? = some (hS0, sp, ys, n) := List.getElem?_set_self (List.getElem?_eq_some_iff.mp (ps_cur h hs)).1
theorem ps_init (h : ps_I cI fr a sts stt ff ii L LL Lc) (ha : a < sts.length) (hs : sts[a]? = some (hS0, sp, xs, m0)) (hu : ch_un sts fr) : ps_J cI a stt LL hS0 sp xs 0 ff ii LL Lc := by
  have e := hu a _ h.1 hs
  have e : m0 = fm_m sp false xs.length := e
  have hc := ps_cur h hs
  refine ⟨Nat.zero_le _, h.2.2.1, ?_, ?_⟩
  · rw [List.take_zero, fm_d_nil, List.append_nil, List.drop_zero]
  · rw [List.take_zero, List.append_nil, Nat.add_zero, ← e]
    have e2 : stt.set a (hS0, sp, xs, m0) = stt := by
      apply List.ext_getElem?
      intro k
      by_cases c : k = a
      · subst c
        rw [List.getElem?_set_self (List.getElem?_eq_some_iff.mp hc).1, hc]
      · rw [List.getElem?_set_ne (Ne.symm c)]
    rw [e2]
    exact h.2.2.2.2
theorem ps_hd (hJ : ps_J cI a stt LL hS0 sp xs j f2 i2 L2 Lg) (hj : j < LL.length) : (LL.map Int32.toInt).take j ++ [(L2.headD 0).toInt] = (LL.map Int32.toInt).take (j + 1) ∧ (L2.headD 0).toInt ∈ LL.map Int32.toInt ∧ L2.tail.map Int32.toInt = (LL.map Int32.toInt).drop (j + 1) ++ fm_d sp false xs ((LL.map Int32.toInt).take j) := by
  have hq : j < (LL.map Int32.toInt).length := by rw [List.length_map]; exact hj
  have e := hJ.2.2.1
  rw [List.drop_eq_getElem_cons hq, List.cons_append] at e
  cases L2 with
  | nil => simp at e
  | cons x L2 =>
    rw [List.map_cons] at e
    have e1 := (List.cons.inj e).1
    have e2 := (List.cons.inj e).2
    refine ⟨?_, ?_, e2⟩
    · show _ ++ [x.toInt] = _
      rw [e1, List.take_succ_eq_append_getElem hq]
    · show x.toInt ∈ _
      rw [e1]
      exact List.getElem_mem hq
theorem ps_cond (h : ps_I cI fr a sts stt ff ii L LL Lc) (ha : a < sts.length) (hs : sts[a]? = some (hS0, sp, xs, m0)) (hu : ch_un sts fr) (hf : ch_fit sts fr (L.map Int32.toInt)) (hJ : ps_J cI a stt LL hS0 sp xs j f2 i2 L2 Lg) (hj : j < LL.length) :
    (LL.map Int32.toInt).take j ++ [(L2.headD 0).toInt] = (LL.map Int32.toInt).take (j + 1) ∧ fm_in (L2.headD 0).toInt ∧ (xs ++ (LL.map Int32.toInt).take j).length = xs.length + j ∧ (xs ++ (LL.map Int32.toInt).take j).length < 100000 ∧ fm_m sp false (xs.length + j) + 1 < 300000
    ∧ L2.tail.length + (fm_m sp false ((xs ++ (LL.map Int32.toInt).take j).length + 1) - fm_m sp false (xs.length + j)) ≤ 366
    ∧ fm_m sp false ((xs ++ (LL.map Int32.toInt).take j ++ [(L2.headD 0).toInt]).length - 1) ≤ fm_m sp false (xs.length + j)
    ∧ fm_m sp false (xs.length + j) + (fm_m sp false ((xs ++ (LL.map Int32.toInt).take j).length + 1) - fm_m sp false (xs.length + j)) ≤ fm_m sp true (xs ++ (LL.map Int32.toInt).take j ++ [(L2.headD 0).toInt]).length
    ∧ fm_m sp false (xs.length + j) + (fm_m sp false ((xs ++ (LL.map Int32.toInt).take j).length + 1) - fm_m sp false (xs.length + j)) < 299000 := by
  obtain ⟨e1, e2, e3⟩ := ps_hd hJ hj
  obtain ⟨k1, k2, k3⟩ := ps_fit h hf
  have hc := ps_cur h hs
  have hx : xs.length < 50000 := k3 _ (List.mem_of_getElem? hc)
  obtain ⟨g, hg, hsg⟩ := ch_get h.2.2.2.2 hc
  have hok : fm_ok sp := (sg_facts hsg).1
  have hlen : (xs ++ (LL.map Int32.toInt).take j).length = xs.length + j := by simp; omega
  have hlen2 : (xs ++ (LL.map Int32.toInt).take j ++ [(L2.headD 0).toInt]).length = xs.length + j + 1 := by rw [List.length_append, hlen]; rfl
  have b1 := fm_m_bd hok (fl := false) (n := xs.length + j)
  have b2 := fm_m_bd hok (fl := false) (n := xs.length + j + 1)
  have b3 := fm_m_le hok false (show xs.length + j ≤ xs.length + j + 1 by omega)
  have b4 := fm_m_le hok true (Nat.le_refl (xs.length + j + 1))
  have hfn := (hf (a + 1 - fr) (by have := h.1; omega)).1
  rw [ps_nx h hs, fm_d_length, List.length_map] at hfn
  have hfn : fm_m sp false (xs.length + LL.length) - fm_m sp false xs.length ≤ 366 := hfn
  have ht : L2.tail.length = (LL.length - (j + 1)) + (fm_m sp false (xs.length + j) - fm_m sp false xs.length) := by
    have := congrArg List.length e3
    rw [List.length_map, List.length_append, List.length_drop, List.length_map, fm_d_length, List.length_take, List.length_map, Nat.min_eq_left (by omega)] at this
    exact this
  have b5 := fm_m_le hok false (show xs.length ≤ xs.length + j by omega)
  have hcp := ch_cap hok (n := xs.length) (c := LL.length) (j := j + 1) (by omega)
  rw [hlen, hlen2]
  refine ⟨e1, k2 _ e2, rfl, by omega, by omega, ?_, Nat.le_refl _, by omega, by omega⟩
  rw [ht]
  rw [← Nat.add_assoc] at hcp
  omega
theorem ps_step (h : ps_I cI fr a sts stt ff ii L LL Lc) (ha : a < sts.length) (hs : sts[a]? = some (hS0, sp, xs, m0)) (hu : ch_un sts fr) (hJ : ps_J cI a stt LL hS0 sp xs j f2 i2 L2 Lg) (hj : j < LL.length) (hxj : (LL.map Int32.toInt).take j ++ [(L2.headD 0).toInt] = (LL.map Int32.toInt).take (j + 1)) (hlen : (xs ++ (LL.map Int32.toInt).take j).length = xs.length + j)
    (hr : rw_ok 366 f3 i3 L3) (hL3 : L3.map Int32.toInt = L2.tail.map Int32.toInt ++ (List.range (fm_m sp false ((xs ++ (LL.map Int32.toInt).take j).length + 1) - fm_m sp false (xs.length + j))).map (fun z => fm_y sp (xs ++ (LL.map Int32.toInt).take j ++ [(L2.headD 0).toInt]) (fm_m sp false (xs.length + j) + z)))
    (hsg : sg_ok cI hS0 sp (xs ++ (LL.map Int32.toInt).take j ++ [(L2.headD 0).toInt]) (fm_m sp false (xs.length + j) + (fm_m sp false ((xs ++ (LL.map Int32.toInt).take j).length + 1) - fm_m sp false (xs.length + j))) g3) (hg1 : Lg[a]? = some g1) :
    ps_J cI a stt LL hS0 sp xs (j + 1) f3 i3 L3 (Lg.set a g3) := by
  obtain ⟨e1, e2, e3⟩ := ps_hd hJ hj
  have hok : fm_ok sp := (sg_facts hsg).1
  have b3 := fm_m_le hok false (show xs.length + j ≤ xs.length + j + 1 by omega)
  have hlq : ((LL.map Int32.toInt).take j).length = j := by simp; omega
  refine ⟨hj, hr, ?_, ?_⟩
  · have hsn := fm_d_snoc hok (xs := xs) (ys := (LL.map Int32.toInt).take j) (x := (L2.headD 0).toInt)
    rw [hlq, hxj] at hsn
    rw [hL3, e3, hlen, List.append_assoc, hsn]
  · have hu2 := ch_upd (k := a) (s := (hS0, sp, xs ++ (LL.map Int32.toInt).take (j + 1), fm_m sp false (xs.length + (j + 1)))) hJ.2.2.2 (g := g3) (by
      show sg_ok cI hS0 sp (xs ++ (LL.map Int32.toInt).take (j + 1)) (fm_m sp false (xs.length + (j + 1))) g3
      rw [hlen, Nat.add_sub_cancel' b3] at hsg
      rw [← hxj, ← List.append_assoc, ← Nat.add_assoc]
      exact hsg)
    rw [List.set_set] at hu2
    exact hu2
theorem ps_next (h : ps_I cI fr a sts stt ff ii L LL Lc) (ha : a < sts.length) (hs : sts[a]? = some (hS0, sp, xs, m0)) (hJ : ps_J cI a stt LL hS0 sp xs j f2 i2 L2 Lg) (hj : j = LL.length) : ps_I cI fr (a + 1) sts (stt.set a (hS0, sp, xs ++ LL.map Int32.toInt, fm_m sp false (xs.length + LL.length))) f2 i2 L L2 Lg := by
  subst hj
  have h1 := h.1
  have et : (LL.map Int32.toInt).take LL.length = LL.map Int32.toInt := List.take_of_length_le (by simp)
  have ed : (LL.map Int32.toInt).drop LL.length = [] := List.drop_of_length_le (by simp)
  have e := hJ.2.2.1
  have c := hJ.2.2.2
  rw [et] at e c
  rw [ed, List.nil_append] at e
  refine ⟨by omega, ha, hJ.2.1, ?_, c⟩
  rw [ps_nx h hs, e]
theorem ps_cap (h : ps_I cI fr a sts stt ff ii L LL Lc) (ha : a = sts.length) {Lo : List Int32} {nO : Nat} (hc : Lo.length + (ch_it sts fr (L.map Int32.toInt) (sts.length - fr)).2.length ≤ nO) : Lo.length + LL.length ≤ nO := by
  subst ha
  rw [← h.2.2.2.1] at hc
  simpa using hc
theorem ps_cap0 (hn : sts = []) (hfr : fr ≤ sts.length) {Lo : List Int32} {nO : Nat} (hc : Lo.length + (ch_it sts fr (L.map Int32.toInt) (sts.length - fr)).2.length ≤ nO) : Lo.length + L.length ≤ nO := by
  subst hn
  simpa [ch_it] using hc
def ps_O (ff : Nat → Int32) (LL : List Int32) (nO io : Nat) (Lo : List Int32) (j i3 : Nat) (L4 : List Int32) (fo2 : Nat → Int32) (Lo2 : List Int32) : Prop := j ≤ LL.length ∧ rw_ok 366 ff i3 L4 ∧ L4 = LL.drop j ∧ rw_ok nO fo2 io Lo2 ∧ Lo2 = Lo ++ LL.take j
theorem ps_out {nO io i4 : Nat} {Lo L4 Lo2 : List Int32} {fo2 fo3 : Nat → Int32} (h : ps_O ff LL nO io Lo j i3 L4 fo2 Lo2) (hj : j < LL.length) (h1 : rw_ok 366 ff i4 L4.tail) (h2 : rw_ok nO fo3 io (rw_put nO Lo2 (L4.headD 0))) (hc : Lo.length + LL.length ≤ nO) : ps_O ff LL nO io Lo (j + 1) i4 L4.tail fo3 (rw_put nO Lo2 (L4.headD 0)) := by
  obtain ⟨a1, a2, a3, a4, a5⟩ := h
  have hl : Lo2.length = Lo.length + j := by rw [a5, List.length_append, List.length_take, Nat.min_eq_left a1]
  refine ⟨hj, h1, ?_, h2, ?_⟩
  · rw [a3, List.tail_drop]
  · rw [rw_put_lt (by omega), a5, a3, List.take_succ_eq_append_getElem hj, List.append_assoc]
    congr 2
    rw [List.drop_eq_getElem_cons hj]
    rfl
theorem ps_end {h hL hR aR : Nat} {rs : Int32} {nO io hO aO : Nat} {Lo L4 Lo2 : List Int32} {fo2 : Nat → Int32} {wl : va_W} (hI : ps_I cI fr a sts stt ff ii L LL Lc) (ha : a = sts.length) (hO2 : ps_O ff LL nO io Lo j i3 L4 fo2 Lo2) (hj : j = LL.length) :
    ∃ (f2 : Nat → Int32) (i2 : Nat) (fo3 : Nat → Int32) (Lo3 : List Int32) (Ls2 : List va_W), ([(h, .inr (6, [.ref hL, .ref hR, .int rs])), (hR, .inr (0, [.ref aR, .int (nI i3), .int (nI L4.length)])), (aR, .inl (cI, 366, .inl ff)), (hO, .inr (0, [.ref aO, .int (nI io), .int (nI Lo2.length)])), (aO, .inl (cI, nO, .inl fo2))] ++ (wl :: Lc).flatten : va_W) = [(h, .inr (6, [.ref hL, .ref hR, .int rs])), (hR, .inr (0, [.ref aR, .int (nI i2), .int (nI ([] : List Int32).length)])), (aR, .inl (cI, 366, .inl f2)), (hO, .inr (0, [.ref aO, .int (nI io), .int (nI Lo3.length)])), (aO, .inl (cI, nO, .inl fo3))] ++ (wl :: Ls2).flatten ∧ rw_ok 366 f2 i2 [] ∧ rw_ok nO fo3 io Lo3 ∧ Lo3.map Int32.toInt = Lo.map Int32.toInt ++ (ch_it sts fr (L.map Int32.toInt) (sts.length - fr)).2 ∧ ch_ok cI Ls2 (ch_it sts fr (L.map Int32.toInt) (sts.length - fr)).1 := by
  subst hj
  subst ha
  obtain ⟨a1, a2, a3, a4, a5⟩ := hO2
  rw [List.drop_length] at a3
  subst a3
  rw [List.take_length] at a5
  refine ⟨ff, i3, fo2, Lo2, Lc, rfl, a2, a4, ?_, ?_⟩
  · rw [← hI.2.2.2.1, a5, List.map_append]
  · rw [← hI.2.2.2.1]; exact hI.2.2.2.2
theorem ps_end0 {h hL hR aR : Nat} {rs : Int32} {nO io hO aO : Nat} {Lo L4 Lo2 : List Int32} {fo2 : Nat → Int32} {wl : va_W} (hn : sts = []) (hfr : fr ≤ sts.length) (hch : ch_ok cI Lc sts) (hO2 : ps_O ff L nO io Lo j i3 L4 fo2 Lo2) (hj : j = L.length) :
    ∃ (f2 : Nat → Int32) (i2 : Nat) (fo3 : Nat → Int32) (Lo3 : List Int32) (Ls2 : List va_W), ([(h, .inr (6, [.ref hL, .ref hR, .int rs])), (hR, .inr (0, [.ref aR, .int (nI i3), .int (nI L4.length)])), (aR, .inl (cI, 366, .inl ff)), (hO, .inr (0, [.ref aO, .int (nI io), .int (nI Lo2.length)])), (aO, .inl (cI, nO, .inl fo2))] ++ (wl :: Lc).flatten : va_W) = [(h, .inr (6, [.ref hL, .ref hR, .int rs])), (hR, .inr (0, [.ref aR, .int (nI i2), .int (nI ([] : List Int32).length)])), (aR, .inl (cI, 366, .inl f2)), (hO, .inr (0, [.ref aO, .int (nI io), .int (nI Lo3.length)])), (aO, .inl (cI, nO, .inl fo3))] ++ (wl :: Ls2).flatten ∧ rw_ok 366 f2 i2 [] ∧ rw_ok nO fo3 io Lo3 ∧ Lo3.map Int32.toInt = Lo.map Int32.toInt ++ (ch_it sts fr (L.map Int32.toInt) (sts.length - fr)).2 ∧ ch_ok cI Ls2 (ch_it sts fr (L.map Int32.toInt) (sts.length - fr)).1 := by
  subst hj
  obtain ⟨a1, a2, a3, a4, a5⟩ := hO2
  rw [List.drop_length] at a3
  subst a3
  rw [List.take_length] at a5
  subst hn
  have e : ([] : List ch_T).length - fr = 0 := by simp
  refine ⟨ff, i3, fo2, Lo2, Lc, rfl, a2, a4, ?_, ?_⟩
  · rw [e, a5, List.map_append]; rfl
  · rw [e]; exact hch
end PS
/-- every stage is one -/
theorem sg_cast {p : Program} {l : Launch} {e : Env} {R : Room} {s : State} {mt : MethodId} {args : Array Value} {below : List Frame} {meth : Method} {cd : Code} {H : Heap} {locs : List Loc} {cells slots : Nat} {Q : State → Prop} {cc : ByteArray} {nL pc : Nat} {ls : Array Slot} {rest : List Value} {D : va_G} {cI cO : ClassId} {g : va_W} {own : String} {index : Nat} (K : fq_Ctx p mt cd cc nL s args own) (hK : fq_K D cI cO s) {h : Nat} {sp : fm_S} {xs : List Int} {m : Nat} (hsg : sg_ok cI h sp xs m g) (hP : va_P D fq_cl g H) (hlink : (Cond.classLink own index cn_Stage).before args s = true) (hdg : decode cc pc = .ok (.checkcast index, 3))
    (k : W p l e R s mt args below meth cd H locs cells slots Q (F0 mt (pc + 3) ls (.ref h :: rest))) : W p l e R s mt args below meth cd H locs cells slots Q (F0 mt pc ls (.ref h :: rest)) := by
  rcases hsg with ⟨_, _, _, _, _, _, _, _, _, _, rfl, -⟩ | ⟨_, _, rfl, -⟩ | ⟨_, _, _, _, _, _, _, rfl, -⟩ | ⟨_, _, _, _, _, rfl, -⟩
  · exact va_castY K.1 K.2.1 K.2.2.2.1 hlink (hK.2.1 _ wn_1003 rfl) (va_recv (q0 := 0) hK.1 hP rfl rfl) hdg k
  · exact va_castY K.1 K.2.1 K.2.2.2.1 hlink (hK.2.1 _ wn_1001 rfl) (va_recv (q0 := 0) hK.1 hP rfl rfl) hdg k
  · exact va_castY K.1 K.2.1 K.2.2.2.1 hlink (hK.2.1 _ wn_1004 rfl) (va_recv (q0 := 0) hK.1 hP rfl rfl) hdg k
  · exact va_castY K.1 K.2.1 K.2.2.2.1 hlink (hK.2.1 _ wn_1002 rfl) (va_recv (q0 := 0) hK.1 hP rfl rfl) hdg k

theorem dc_Chain_passThrough_0 : decode cb_Chain_passThrough 0 = .ok (.iload_n 1, 1) := by decide +kernel
theorem dc_Chain_passThrough_1 : decode cb_Chain_passThrough 1 = .ok (.istore_n 3, 1) := by decide +kernel
theorem dc_Chain_passThrough_2 : decode cb_Chain_passThrough 2 = .ok (.iload_n 3, 1) := by decide +kernel
theorem dc_Chain_passThrough_3 : decode cb_Chain_passThrough 3 = .ok (.aload_n 0, 1) := by decide +kernel
theorem dc_Chain_passThrough_4 : decode cb_Chain_passThrough 4 = .ok (.getfield 12, 3) := by decide +kernel
theorem dc_Chain_passThrough_7 : decode cb_Chain_passThrough 7 = .ok (.invokevirtual 27, 3) := by decide +kernel
theorem dc_Chain_passThrough_10 : decode cb_Chain_passThrough 10 = .ok (.if_icmp .ge 65, 3) := by decide +kernel
theorem dc_Chain_passThrough_13 : decode cb_Chain_passThrough 13 = .ok (.aload_n 0, 1) := by decide +kernel
theorem dc_Chain_passThrough_14 : decode cb_Chain_passThrough 14 = .ok (.getfield 12, 3) := by decide +kernel
theorem dc_Chain_passThrough_17 : decode cb_Chain_passThrough 17 = .ok (.iload_n 3, 1) := by decide +kernel
theorem dc_Chain_passThrough_18 : decode cb_Chain_passThrough 18 = .ok (.invokevirtual 31, 3) := by decide +kernel
theorem dc_Chain_passThrough_21 : decode cb_Chain_passThrough 21 = .ok (.checkcast 35, 3) := by decide +kernel
theorem dc_Chain_passThrough_24 : decode cb_Chain_passThrough 24 = .ok (.astore 4, 2) := by decide +kernel
theorem dc_Chain_passThrough_26 : decode cb_Chain_passThrough 26 = .ok (.aload_n 0, 1) := by decide +kernel
theorem dc_Chain_passThrough_27 : decode cb_Chain_passThrough 27 = .ok (.getfield 23, 3) := by decide +kernel
theorem dc_Chain_passThrough_30 : decode cb_Chain_passThrough 30 = .ok (.invokevirtual 61, 3) := by decide +kernel
theorem dc_Chain_passThrough_33 : decode cb_Chain_passThrough 33 = .ok (.istore 5, 2) := by decide +kernel
theorem dc_Chain_passThrough_35 : decode cb_Chain_passThrough 35 = .ok (.iconst 0, 1) := by decide +kernel
theorem dc_Chain_passThrough_36 : decode cb_Chain_passThrough 36 = .ok (.istore 6, 2) := by decide +kernel
theorem dc_Chain_passThrough_38 : decode cb_Chain_passThrough 38 = .ok (.iload 6, 2) := by decide +kernel
theorem dc_Chain_passThrough_40 : decode cb_Chain_passThrough 40 = .ok (.iload 5, 2) := by decide +kernel
theorem dc_Chain_passThrough_42 : decode cb_Chain_passThrough 42 = .ok (.if_icmp .ge 27, 3) := by decide +kernel
theorem dc_Chain_passThrough_45 : decode cb_Chain_passThrough 45 = .ok (.aload_n 0, 1) := by decide +kernel
theorem dc_Chain_passThrough_46 : decode cb_Chain_passThrough 46 = .ok (.aload 4, 2) := by decide +kernel
theorem dc_Chain_passThrough_48 : decode cb_Chain_passThrough 48 = .ok (.aload 4, 2) := by decide +kernel
theorem dc_Chain_passThrough_50 : decode cb_Chain_passThrough 50 = .ok (.aload_n 0, 1) := by decide +kernel
theorem dc_Chain_passThrough_51 : decode cb_Chain_passThrough 51 = .ok (.getfield 23, 3) := by decide +kernel
theorem dc_Chain_passThrough_54 : decode cb_Chain_passThrough 54 = .ok (.invokevirtual 62, 3) := by decide +kernel
theorem dc_Chain_passThrough_57 : decode cb_Chain_passThrough 57 = .ok (.invokevirtual 65, 3) := by decide +kernel
theorem dc_Chain_passThrough_60 : decode cb_Chain_passThrough 60 = .ok (.invokevirtual 57, 3) := by decide +kernel
theorem dc_Chain_passThrough_63 : decode cb_Chain_passThrough 63 = .ok (.iinc 6 1, 3) := by decide +kernel
theorem dc_Chain_passThrough_66 : decode cb_Chain_passThrough 66 = .ok (.goto (-28), 3) := by decide +kernel
theorem dc_Chain_passThrough_69 : decode cb_Chain_passThrough 69 = .ok (.iinc 3 1, 3) := by decide +kernel
theorem dc_Chain_passThrough_72 : decode cb_Chain_passThrough 72 = .ok (.goto (-70), 3) := by decide +kernel
theorem dc_Chain_passThrough_75 : decode cb_Chain_passThrough 75 = .ok (.aload_n 0, 1) := by decide +kernel
theorem dc_Chain_passThrough_76 : decode cb_Chain_passThrough 76 = .ok (.getfield 23, 3) := by decide +kernel
theorem dc_Chain_passThrough_79 : decode cb_Chain_passThrough 79 = .ok (.invokevirtual 61, 3) := by decide +kernel
theorem dc_Chain_passThrough_82 : decode cb_Chain_passThrough 82 = .ok (.istore_n 3, 1) := by decide +kernel
theorem dc_Chain_passThrough_83 : decode cb_Chain_passThrough 83 = .ok (.iconst 0, 1) := by decide +kernel
theorem dc_Chain_passThrough_84 : decode cb_Chain_passThrough 84 = .ok (.istore 4, 2) := by decide +kernel
theorem dc_Chain_passThrough_86 : decode cb_Chain_passThrough 86 = .ok (.iload 4, 2) := by decide +kernel
theorem dc_Chain_passThrough_88 : decode cb_Chain_passThrough 88 = .ok (.iload_n 3, 1) := by decide +kernel
theorem dc_Chain_passThrough_89 : decode cb_Chain_passThrough 89 = .ok (.if_icmp .ge 20, 3) := by decide +kernel
theorem dc_Chain_passThrough_92 : decode cb_Chain_passThrough 92 = .ok (.aload_n 2, 1) := by decide +kernel
theorem dc_Chain_passThrough_93 : decode cb_Chain_passThrough 93 = .ok (.aload_n 0, 1) := by decide +kernel
theorem dc_Chain_passThrough_94 : decode cb_Chain_passThrough 94 = .ok (.getfield 23, 3) := by decide +kernel
theorem dc_Chain_passThrough_97 : decode cb_Chain_passThrough 97 = .ok (.invokevirtual 62, 3) := by decide +kernel
theorem dc_Chain_passThrough_100 : decode cb_Chain_passThrough 100 = .ok (.invokevirtual 48, 3) := by decide +kernel
theorem dc_Chain_passThrough_103 : decode cb_Chain_passThrough 103 = .ok (.iinc 4 1, 3) := by decide +kernel
theorem dc_Chain_passThrough_106 : decode cb_Chain_passThrough 106 = .ok (.goto (-20), 3) := by decide +kernel
theorem dc_Chain_passThrough_109 : decode cb_Chain_passThrough 109 = .ok (.return_, 1) := by decide +kernel
theorem yk_Chain_passThrough : fq_Y my_Chain_passThrough cb_Chain_passThrough 7 none 2 := ⟨wd_610, wd_27, by decide +kernel⟩
set_option maxHeartbeats 4000000 in
set_option maxRecDepth 100000 in
theorem ct_Chain_passThrough (l : Launch) (D : va_G) (cI cO : ClassId) (tE : Nat) (h hL hR aR : Nat) (rs : Int32) (f : Nat → Int32) (i : Nat) (L : List Int32) (hO aO nO : Nat) (fo : Nat → Int32) (io : Nat) (Lo : List Int32) (fr : Nat) (sts : List ch_T) (wl : va_W) (Ls : List va_W) (hrow : rw_ok 366 f i L) (hrowO : rw_ok nO fo io Lo) (hal : al_W tE cO hL sts wl) (hch : ch_ok cI Ls sts) (hfr : fr ≤ sts.length) (hun : ch_un sts fr) (hfit : ch_fit sts fr (L.map Int32.toInt)) (hcapO : Lo.length + (ch_it sts fr (L.map Int32.toInt) (sts.length - fr)).2.length ≤ nO) (sz : Nat) : Met l my_Chain_passThrough (fq_w my_Chain_passThrough cb_Chain_passThrough 7 none) ({ frames := 4, cells := 0, slots := 0, locals := 86 }) (va_Pc ([.ref h, .int (nI fr), .ref hO]) (fq_Pre D cI cO tE sz ([(h, .inr (6, [.ref hL, .ref hR, .int rs])), (hR, .inr (0, [.ref aR, .int (nI i), .int (nI L.length)])), (aR, .inl (cI, 366, .inl f)), (hO, .inr (0, [.ref aO, .int (nI io), .int (nI Lo.length)])), (aO, .inl (cI, nO, .inl fo))] ++ (wl :: Ls).flatten))) (va_Qv (S := va_W) (fun w => ∃ (f2 : Nat → Int32) (i2 : Nat) (fo2 : Nat → Int32) (Lo2 : List Int32) (Ls2 : List va_W), w = [(h, .inr (6, [.ref hL, .ref hR, .int rs])), (hR, .inr (0, [.ref aR, .int (nI i2), .int (nI ([] : List Int32).length)])), (aR, .inl (cI, 366, .inl f2)), (hO, .inr (0, [.ref aO, .int (nI io), .int (nI Lo2.length)])), (aO, .inl (cI, nO, .inl fo2))] ++ (wl :: Ls2).flatten ∧ rw_ok 366 f2 i2 [] ∧ rw_ok nO fo2 io Lo2 ∧ Lo2.map Int32.toInt = Lo.map Int32.toInt ++ (ch_it sts fr (L.map Int32.toInt) (sts.length - fr)).2 ∧ ch_ok cI Ls2 (ch_it sts fr (L.map Int32.toInt) (sts.length - fr)).1) (fq_Bw D (va_A ([(h, .inr (6, [.ref hL, .ref hR, .int rs])), (hR, .inr (0, [.ref aR, .int (nI i), .int (nI L.length)])), (aR, .inl (cI, 366, .inl f)), (hO, .inr (0, [.ref aO, .int (nI io), .int (nI Lo.length)])), (aO, .inl (cI, nO, .inl fo))] ++ (wl :: Ls).flatten) sz)) (va_A ([(h, .inr (6, [.ref hL, .ref hR, .int rs])), (hR, .inr (0, [.ref aR, .int (nI i), .int (nI L.length)])), (aR, .inl (cI, 366, .inl f)), (hO, .inr (0, [.ref aO, .int (nI io), .int (nI Lo.length)])), (aO, .inl (cI, nO, .inl fo))] ++ (wl :: Ls).flatten) sz)) (0) (0) (va_A ([(h, .inr (6, [.ref hL, .ref hR, .int rs])), (hR, .inr (0, [.ref aR, .int (nI i), .int (nI L.length)])), (aR, .inl (cI, 366, .inl f)), (hO, .inr (0, [.ref aO, .int (nI io), .int (nI Lo.length)])), (aO, .inl (cI, nO, .inl fo))] ++ (wl :: Ls).flatten) sz) := by
  refine fq_open (by decide +kernel) (Nat.le_of_ble_eq_true rfl) ?_
  intro pg ev s mt below meth cd ls K hret hlk hin hK hZ hP hD hA hS hl
  generalize va_A ([(h, .inr (6, [.ref hL, .ref hR, .int rs])), (hR, .inr (0, [.ref aR, .int (nI i), .int (nI L.length)])), (aR, .inl (cI, 366, .inl f)), (hO, .inr (0, [.ref aO, .int (nI io), .int (nI Lo.length)])), (aO, .inl (cI, nO, .inl fo))] ++ (wl :: Ls).flatten) sz = A at hZ hD hA hS ⊢
  have K : fq_Ctx pg mt cd cb_Chain_passThrough 7 s _ cn_Chain := K
  have hl : lv_has ls 7 [(0, .ref h), (1, .int (nI fr)), (2, .ref hO)] := hl
  have hLl := hrow.2.2.2.1
  rcases hal with ⟨hnil, mo, rfl⟩ | ⟨eE, mo, fE, rfl, hle, hfE⟩
  · skip
    have hf0 : fr = 0 := by rw [hnil] at hfr; exact Nat.le_zero.mp hfr
    have hP : va_P D fq_cl ([(h, .inr (6, [.ref hL, .ref hR, .int rs])), (hR, .inr (0, [.ref aR, .int (nI i), .int (nI L.length)])), (aR, .inl (cI, 366, .inl f)), (hO, .inr (0, [.ref aO, .int (nI io), .int (nI Lo.length)])), (aO, .inl (cI, nO, .inl fo)), (hL, .inr (11, [.ref tE, .int (nI 0), .int mo]))] ++ Ls.flatten) _ := hP
    have hD : va_D A ([(h, .inr (6, [.ref hL, .ref hR, .int rs])), (hR, .inr (0, [.ref aR, .int (nI i), .int (nI L.length)])), (aR, .inl (cI, 366, .inl f)), (hO, .inr (0, [.ref aO, .int (nI io), .int (nI Lo.length)])), (aO, .inl (cI, nO, .inl fo)), (hL, .inr (11, [.ref tE, .int (nI 0), .int mo]))] ++ Ls.flatten) := hD
    refine lv_iload_n K.1 K.2.1 dc_Chain_passThrough_0 rfl (lv_at hl 1 rfl) ?_
    refine lv_istore_n K.1 K.2.1 dc_Chain_passThrough_1 rfl hl (by decide) rfl (fun ls hl => ?_)
    have hl : lv_has ls 7 [(3, .int (nI fr)), (0, .ref h), (1, .int (nI fr)), (2, .ref hO)] := hl
    refine lv_iload_n K.1 K.2.1 dc_Chain_passThrough_2 rfl (lv_at hl 0 rfl) ?_
    refine lv_aload_n K.1 K.2.1 dc_Chain_passThrough_3 rfl (lv_at hl 1 rfl) ?_
    refine fq_get K hK cl_Chain hP 0 0 rfl (by decide) wd_105 rfl dc_Chain_passThrough_4 ?_
    have hc := fq_cutT (X := [(h, .inr (6, [.ref hL, .ref hR, .int rs])), (hR, .inr (0, [.ref aR, .int (nI i), .int (nI L.length)])), (aR, .inl (cI, 366, .inl f)), (hO, .inr (0, [.ref aO, .int (nI io), .int (nI Lo.length)])), (aO, .inl (cI, nO, .inl fo)), (hL, .inr (11, [.ref tE, .int (nI 0), .int mo]))]) (T := Ls.flatten) (cx := [(hL, .inr (11, [.ref tE, .int (nI 0), .int mo]))]) hP hD hS hA [5] (by decide) rfl
    refine fq_ciT (wr := [(h, .inr (6, [.ref hL, .ref hR, .int rs])), (hR, .inr (0, [.ref aR, .int (nI i), .int (nI L.length)])), (aR, .inl (cI, 366, .inl f)), (hO, .inr (0, [.ref aO, .int (nI io), .int (nI Lo.length)])), (aO, .inl (cI, nO, .inl fo))]) (fq_rV K hK hZ hS hc (ct_AL_size l D cI cO tE hL tE (nI 0) mo _) yk_AL_size wd_229 wd_230 wd_228 0 rfl rfl rfl ⟨⟨rfl, rfl⟩, ⟨Nat.le_of_ble_eq_true rfl, Nat.le_of_ble_eq_true rfl⟩, ⟨Nat.le_of_ble_eq_true rfl, Nat.le_of_ble_eq_true rfl⟩⟩ hl.1 rfl (Nat.le_of_ble_eq_true rfl) dc_Chain_passThrough_7) hP hD hS hc [5] [0, 1, 2, 3, 4] rfl rfl (by decide) (by decide) (fun r1 w H locs hw1 hP hD hS => ?_)
    obtain ⟨rfl, rfl⟩ := hw1
    have hP : va_P D fq_cl ([(h, .inr (6, [.ref hL, .ref hR, .int rs])), (hR, .inr (0, [.ref aR, .int (nI i), .int (nI L.length)])), (aR, .inl (cI, 366, .inl f)), (hO, .inr (0, [.ref aO, .int (nI io), .int (nI Lo.length)])), (aO, .inl (cI, nO, .inl fo)), (hL, .inr (11, [.ref tE, .int (nI 0), .int mo]))] ++ Ls.flatten) _ := hP
    have hD : va_D A ([(h, .inr (6, [.ref hL, .ref hR, .int rs])), (hR, .inr (0, [.ref aR, .int (nI i), .int (nI L.length)])), (aR, .inl (cI, 366, .inl f)), (hO, .inr (0, [.ref aO, .int (nI io), .int (nI Lo.length)])), (aO, .inl (cI, nO, .inl fo)), (hL, .inr (11, [.ref tE, .int (nI 0), .int mo]))] ++ Ls.flatten) := hD
    refine lv_icmp_ge (tgt := 75) K.1 K.2.1 dc_Chain_passThrough_10 rfl (fun b10 => ?_) (fun b10 => absurd (nI_leI (by omega) (by omega) |>.mpr (Nat.zero_le _)) b10)
    refine lv_aload_n K.1 K.2.1 dc_Chain_passThrough_75 rfl (lv_at hl 1 rfl) ?_
    refine fq_get K hK cl_Chain hP 0 1 rfl (by decide) wd_106 rfl dc_Chain_passThrough_76 ?_
    have hc := fq_cutT (X := [(h, .inr (6, [.ref hL, .ref hR, .int rs])), (hR, .inr (0, [.ref aR, .int (nI i), .int (nI L.length)])), (aR, .inl (cI, 366, .inl f)), (hO, .inr (0, [.ref aO, .int (nI io), .int (nI Lo.length)])), (aO, .inl (cI, nO, .inl fo)), (hL, .inr (11, [.ref tE, .int (nI 0), .int mo]))]) (T := Ls.flatten) (cx := [(hR, .inr (0, [.ref aR, .int (nI i), .int (nI L.length)])), (aR, .inl (cI, 366, .inl f))]) hP hD hS hA [1, 2] (by decide) rfl
    refine fq_ciT (wr := [(h, .inr (6, [.ref hL, .ref hR, .int rs])), (hO, .inr (0, [.ref aO, .int (nI io), .int (nI Lo.length)])), (aO, .inl (cI, nO, .inl fo)), (hL, .inr (11, [.ref tE, .int (nI 0), .int mo]))]) (fq_rV K hK hZ hS hc (ct_Row_size l D cI cO tE hR aR 366 f i L hrow _) yk_Row_size wd_574 wd_575 wd_611 0 rfl rfl rfl ⟨⟨rfl, rfl⟩, ⟨Nat.le_of_ble_eq_true rfl, Nat.le_of_ble_eq_true rfl⟩, ⟨Nat.le_of_ble_eq_true rfl, Nat.le_of_ble_eq_true rfl⟩⟩ hl.1 rfl (Nat.le_of_ble_eq_true rfl) dc_Chain_passThrough_79) hP hD hS hc [1, 2] [0, 3, 4, 5] rfl rfl (by decide) (by decide) (fun r2 w H locs hw2 hP hD hS => ?_)
    obtain ⟨rfl, rfl⟩ := hw2
    have hP : va_P D fq_cl ([(h, .inr (6, [.ref hL, .ref hR, .int rs])), (hO, .inr (0, [.ref aO, .int (nI io), .int (nI Lo.length)])), (aO, .inl (cI, nO, .inl fo)), (hL, .inr (11, [.ref tE, .int (nI 0), .int mo])), (hR, .inr (0, [.ref aR, .int (nI i), .int (nI L.length)])), (aR, .inl (cI, 366, .inl f))] ++ Ls.flatten) _ := hP
    have hD : va_D A ([(h, .inr (6, [.ref hL, .ref hR, .int rs])), (hO, .inr (0, [.ref aO, .int (nI io), .int (nI Lo.length)])), (aO, .inl (cI, nO, .inl fo)), (hL, .inr (11, [.ref tE, .int (nI 0), .int mo])), (hR, .inr (0, [.ref aR, .int (nI i), .int (nI L.length)])), (aR, .inl (cI, 366, .inl f))] ++ Ls.flatten) := hD
    refine lv_istore_n K.1 K.2.1 dc_Chain_passThrough_82 rfl hl (by decide) rfl (fun ls hl => ?_)
    have hl : lv_has ls 7 [(3, .int (nI L.length)), (0, .ref h), (1, .int (nI fr)), (2, .ref hO)] := hl
    refine lv_iconst (v := 0) K.1 K.2.1 dc_Chain_passThrough_83 (by decide) ?_
    refine lv_istore K.1 K.2.1 dc_Chain_passThrough_84 hl (by decide) rfl (fun ls hl => ?_)
    have hl : lv_has ls 7 [(4, .int 0), (3, .int (nI L.length)), (0, .ref h), (1, .int (nI fr)), (2, .ref hO)] := hl
    have hP := va_P.part (X := [(h, .inr (6, [.ref hL, .ref hR, .int rs])), (hO, .inr (0, [.ref aO, .int (nI io), .int (nI Lo.length)])), (aO, .inl (cI, nO, .inl fo)), (hL, .inr (11, [.ref tE, .int (nI 0), .int mo])), (hR, .inr (0, [.ref aR, .int (nI i), .int (nI L.length)])), (aR, .inl (cI, 366, .inl f))]) (cx := [(h, .inr (6, [.ref hL, .ref hR, .int rs])), (hR, .inr (0, [.ref aR, .int (nI i), .int (nI L.length)])), (aR, .inl (cI, 366, .inl f)), (hO, .inr (0, [.ref aO, .int (nI io), .int (nI Lo.length)])), (aO, .inl (cI, nO, .inl fo)), (hL, .inr (11, [.ref tE, .int (nI 0), .int mo]))]) hP [0, 4, 5, 1, 2, 3] rfl
    have hD := va_D.part (X := [(h, .inr (6, [.ref hL, .ref hR, .int rs])), (hO, .inr (0, [.ref aO, .int (nI io), .int (nI Lo.length)])), (aO, .inl (cI, nO, .inl fo)), (hL, .inr (11, [.ref tE, .int (nI 0), .int mo])), (hR, .inr (0, [.ref aR, .int (nI i), .int (nI L.length)])), (aR, .inl (cI, 366, .inl f))]) (cx := [(h, .inr (6, [.ref hL, .ref hR, .int rs])), (hR, .inr (0, [.ref aR, .int (nI i), .int (nI L.length)])), (aR, .inl (cI, 366, .inl f)), (hO, .inr (0, [.ref aO, .int (nI io), .int (nI Lo.length)])), (aO, .inl (cI, nO, .inl fo)), (hL, .inr (11, [.ref tE, .int (nI 0), .int mo]))]) hD [0, 4, 5, 1, 2, 3] (by decide) rfl
    refine fq_lp (σ := Nat × Nat × List Int32 × (Nat → Int32) × List Int32) (fun x => L.length - x.1) (fun x H locs ls => (x.1 ≤ L.length ∧ rw_ok 366 f x.2.1 x.2.2.1 ∧ x.2.2.1 = L.drop x.1 ∧ rw_ok nO x.2.2.2.1 io x.2.2.2.2 ∧ x.2.2.2.2 = Lo ++ L.take x.1) ∧ lv_has ls 7 [(0, .ref h), (2, .ref hO), (3, .int (nI L.length)), (4, .int (nI x.1))] ∧ va_P D fq_cl ([(h, .inr (6, [.ref hL, .ref hR, .int rs])), (hR, .inr (0, [.ref aR, .int (nI x.2.1), .int (nI x.2.2.1.length)])), (aR, .inl (cI, 366, .inl f)), (hO, .inr (0, [.ref aO, .int (nI io), .int (nI x.2.2.2.2.length)])), (aO, .inl (cI, nO, .inl x.2.2.2.1)), (hL, .inr (11, [.ref tE, .int (nI 0), .int mo]))] ++ Ls.flatten) H ∧ va_D A ([(h, .inr (6, [.ref hL, .ref hR, .int rs])), (hR, .inr (0, [.ref aR, .int (nI x.2.1), .int (nI x.2.2.1.length)])), (aR, .inl (cI, 366, .inl f)), (hO, .inr (0, [.ref aO, .int (nI io), .int (nI x.2.2.2.2.length)])), (aO, .inl (cI, nO, .inl x.2.2.2.1)), (hL, .inr (11, [.ref tE, .int (nI 0), .int mo]))] ++ Ls.flatten) ∧ va_S A s.heap H locs) ?_ (0, i, L, fo, Lo) _ _ _ ⟨⟨Nat.zero_le _, hrow, rfl, hrowO, (List.append_nil _).symm⟩, lv_sub hl [2, 4, 1, 0] rfl, hP, hD, hS⟩
    rintro ⟨j, i3, L4, fo2, Lo2⟩ H locs ls ⟨hI86, hl, hP, hD, hS⟩ ih86
    have hI86 : j ≤ L.length ∧ rw_ok 366 f i3 L4 ∧ L4 = L.drop j ∧ rw_ok nO fo2 io Lo2 ∧ Lo2 = Lo ++ L.take j := hI86
    have hl : lv_has ls 7 [(0, .ref h), (2, .ref hO), (3, .int (nI L.length)), (4, .int (nI j))] := hl
    have hP : va_P D fq_cl ([(h, .inr (6, [.ref hL, .ref hR, .int rs])), (hR, .inr (0, [.ref aR, .int (nI i3), .int (nI L4.length)])), (aR, .inl (cI, 366, .inl f)), (hO, .inr (0, [.ref aO, .int (nI io), .int (nI Lo2.length)])), (aO, .inl (cI, nO, .inl fo2)), (hL, .inr (11, [.ref tE, .int (nI 0), .int mo]))] ++ Ls.flatten) _ := hP
    have hD : va_D A ([(h, .inr (6, [.ref hL, .ref hR, .int rs])), (hR, .inr (0, [.ref aR, .int (nI i3), .int (nI L4.length)])), (aR, .inl (cI, 366, .inl f)), (hO, .inr (0, [.ref aO, .int (nI io), .int (nI Lo2.length)])), (aO, .inl (cI, nO, .inl fo2)), (hL, .inr (11, [.ref tE, .int (nI 0), .int mo]))] ++ Ls.flatten) := hD
    refine lv_iload K.1 K.2.1 dc_Chain_passThrough_86 (lv_at hl 3 rfl) ?_
    refine lv_iload_n K.1 K.2.1 dc_Chain_passThrough_88 rfl (lv_at hl 2 rfl) ?_
    refine lv_icmp_ge (tgt := 109) K.1 K.2.1 dc_Chain_passThrough_89 rfl (fun b89 => ?_) (fun b89 => ?_)
    · skip
      have hj : j = L.length := by rw [nI_leI (by omega) (by omega)] at b89; omega
      have hP : va_P D fq_cl ([(h, .inr (6, [.ref hL, .ref hR, .int rs])), (hR, .inr (0, [.ref aR, .int (nI i3), .int (nI L4.length)])), (aR, .inl (cI, 366, .inl f)), (hO, .inr (0, [.ref aO, .int (nI io), .int (nI Lo2.length)])), (aO, .inl (cI, nO, .inl fo2))] ++ ([(hL, .inr (11, [.ref tE, .int (nI 0), .int mo]))] :: Ls).flatten) _ := hP
      have hD : va_D A ([(h, .inr (6, [.ref hL, .ref hR, .int rs])), (hR, .inr (0, [.ref aR, .int (nI i3), .int (nI L4.length)])), (aR, .inl (cI, 366, .inl f)), (hO, .inr (0, [.ref aO, .int (nI io), .int (nI Lo2.length)])), (aO, .inl (cI, nO, .inl fo2))] ++ ([(hL, .inr (11, [.ref tE, .int (nI 0), .int mo]))] :: Ls).flatten) := hD
      exact fq_retv K hret hlk hS hP hD (ps_end0 hnil hfr hch hI86 hj) dc_Chain_passThrough_109 (Nat.le_of_ble_eq_true rfl) (Nat.le_of_ble_eq_true rfl)
    · skip
      have hj : j < L.length := by rw [nI_leI (by omega) (by omega)] at b89; omega
      refine lv_aload_n K.1 K.2.1 dc_Chain_passThrough_92 rfl (lv_at hl 1 rfl) ?_
      refine lv_aload_n K.1 K.2.1 dc_Chain_passThrough_93 rfl (lv_at hl 0 rfl) ?_
      refine fq_get K hK cl_Chain hP 0 1 rfl (by decide) wd_106 rfl dc_Chain_passThrough_94 ?_
      have hc := fq_cutT (X := [(h, .inr (6, [.ref hL, .ref hR, .int rs])), (hR, .inr (0, [.ref aR, .int (nI i3), .int (nI L4.length)])), (aR, .inl (cI, 366, .inl f)), (hO, .inr (0, [.ref aO, .int (nI io), .int (nI Lo2.length)])), (aO, .inl (cI, nO, .inl fo2)), (hL, .inr (11, [.ref tE, .int (nI 0), .int mo]))]) (T := Ls.flatten) (cx := [(hR, .inr (0, [.ref aR, .int (nI i3), .int (nI L4.length)])), (aR, .inl (cI, 366, .inl f))]) hP hD hS hA [1, 2] (by decide) rfl
      refine fq_ciT (wr := [(h, .inr (6, [.ref hL, .ref hR, .int rs])), (hO, .inr (0, [.ref aO, .int (nI io), .int (nI Lo2.length)])), (aO, .inl (cI, nO, .inl fo2)), (hL, .inr (11, [.ref tE, .int (nI 0), .int mo]))]) (fq_rV K hK hZ hS hc (ct_Row_takeOldest l D cI cO tE hR aR 366 f i3 L4 hI86.2.1 _) yk_Row_takeOldest wd_583 wd_584 wd_612 0 rfl rfl rfl ⟨⟨rfl, rfl⟩, ⟨Nat.le_of_ble_eq_true rfl, Nat.le_of_ble_eq_true rfl⟩, ⟨Nat.le_of_ble_eq_true rfl, Nat.le_of_ble_eq_true rfl⟩⟩ hl.1 rfl (Nat.le_of_ble_eq_true rfl) dc_Chain_passThrough_97) hP hD hS hc [1, 2] [0, 3, 4, 5] rfl rfl (by decide) (by decide) (fun r3 w H locs hw3 hP hD hS => ?_)
      obtain ⟨j1, rfl, rfl, hrow1⟩ := hw3
      have hP : va_P D fq_cl ([(h, .inr (6, [.ref hL, .ref hR, .int rs])), (hO, .inr (0, [.ref aO, .int (nI io), .int (nI Lo2.length)])), (aO, .inl (cI, nO, .inl fo2)), (hL, .inr (11, [.ref tE, .int (nI 0), .int mo])), (hR, .inr (0, [.ref aR, .int (nI j1), .int (nI L4.tail.length)])), (aR, .inl (cI, 366, .inl f))] ++ Ls.flatten) _ := hP
      have hD : va_D A ([(h, .inr (6, [.ref hL, .ref hR, .int rs])), (hO, .inr (0, [.ref aO, .int (nI io), .int (nI Lo2.length)])), (aO, .inl (cI, nO, .inl fo2)), (hL, .inr (11, [.ref tE, .int (nI 0), .int mo])), (hR, .inr (0, [.ref aR, .int (nI j1), .int (nI L4.tail.length)])), (aR, .inl (cI, 366, .inl f))] ++ Ls.flatten) := hD
      have hc := fq_cutT (X := [(h, .inr (6, [.ref hL, .ref hR, .int rs])), (hO, .inr (0, [.ref aO, .int (nI io), .int (nI Lo2.length)])), (aO, .inl (cI, nO, .inl fo2)), (hL, .inr (11, [.ref tE, .int (nI 0), .int mo])), (hR, .inr (0, [.ref aR, .int (nI j1), .int (nI L4.tail.length)])), (aR, .inl (cI, 366, .inl f))]) (T := Ls.flatten) (cx := [(hO, .inr (0, [.ref aO, .int (nI io), .int (nI Lo2.length)])), (aO, .inl (cI, nO, .inl fo2))]) hP hD hS hA [1, 2] (by decide) rfl
      refine fq_cvT (wr := [(h, .inr (6, [.ref hL, .ref hR, .int rs])), (hL, .inr (11, [.ref tE, .int (nI 0), .int mo])), (hR, .inr (0, [.ref aR, .int (nI j1), .int (nI L4.tail.length)])), (aR, .inl (cI, 366, .inl f))]) (fq_rV K hK hZ hS hc (ct_Row_add l D cI cO tE hO aO nO fo2 io Lo2 (L4.headD 0) hI86.2.2.2.1 _) yk_Row_add wd_554 wd_555 wd_606 0 rfl rfl rfl ⟨⟨rfl, rfl⟩, ⟨Nat.le_of_ble_eq_true rfl, Nat.le_of_ble_eq_true rfl⟩, ⟨Nat.le_of_ble_eq_true rfl, Nat.le_of_ble_eq_true rfl⟩⟩ hl.1 rfl (Nat.le_of_ble_eq_true rfl) dc_Chain_passThrough_100) hP hD hS hc [1, 2] [0, 3, 4, 5] rfl rfl (by decide) (by decide) (fun  w H locs hw4 hP hD hS => ?_)
      obtain ⟨g1, rfl, hrow2⟩ := hw4
      have hP : va_P D fq_cl ([(h, .inr (6, [.ref hL, .ref hR, .int rs])), (hL, .inr (11, [.ref tE, .int (nI 0), .int mo])), (hR, .inr (0, [.ref aR, .int (nI j1), .int (nI L4.tail.length)])), (aR, .inl (cI, 366, .inl f)), (hO, .inr (0, [.ref aO, .int (nI io), .int (nI (rw_put nO Lo2 (L4.headD 0)).length)])), (aO, .inl (cI, nO, .inl g1))] ++ Ls.flatten) _ := hP
      have hD : va_D A ([(h, .inr (6, [.ref hL, .ref hR, .int rs])), (hL, .inr (11, [.ref tE, .int (nI 0), .int mo])), (hR, .inr (0, [.ref aR, .int (nI j1), .int (nI L4.tail.length)])), (aR, .inl (cI, 366, .inl f)), (hO, .inr (0, [.ref aO, .int (nI io), .int (nI (rw_put nO Lo2 (L4.headD 0)).length)])), (aO, .inl (cI, nO, .inl g1))] ++ Ls.flatten) := hD
      refine lv_iinc (v := nI (j + 1)) K.1 K.2.1 dc_Chain_passThrough_103 hl (k := 3) rfl (nI_1 j) (by decide) rfl (fun ls hl => ?_)
      have hl : lv_has ls 7 [(4, .int (nI (j + 1))), (0, .ref h), (2, .ref hO), (3, .int (nI L.length))] := hl
      refine lv_goto (tgt := 86) K.1 K.2.1 dc_Chain_passThrough_106 rfl ?_
      have hP := va_P.part (X := [(h, .inr (6, [.ref hL, .ref hR, .int rs])), (hL, .inr (11, [.ref tE, .int (nI 0), .int mo])), (hR, .inr (0, [.ref aR, .int (nI j1), .int (nI L4.tail.length)])), (aR, .inl (cI, 366, .inl f)), (hO, .inr (0, [.ref aO, .int (nI io), .int (nI (rw_put nO Lo2 (L4.headD 0)).length)])), (aO, .inl (cI, nO, .inl g1))]) (cx := [(h, .inr (6, [.ref hL, .ref hR, .int rs])), (hR, .inr (0, [.ref aR, .int (nI j1), .int (nI L4.tail.length)])), (aR, .inl (cI, 366, .inl f)), (hO, .inr (0, [.ref aO, .int (nI io), .int (nI (rw_put nO Lo2 (L4.headD 0)).length)])), (aO, .inl (cI, nO, .inl g1)), (hL, .inr (11, [.ref tE, .int (nI 0), .int mo]))]) hP [0, 2, 3, 4, 5, 1] rfl
      have hD := va_D.part (X := [(h, .inr (6, [.ref hL, .ref hR, .int rs])), (hL, .inr (11, [.ref tE, .int (nI 0), .int mo])), (hR, .inr (0, [.ref aR, .int (nI j1), .int (nI L4.tail.length)])), (aR, .inl (cI, 366, .inl f)), (hO, .inr (0, [.ref aO, .int (nI io), .int (nI (rw_put nO Lo2 (L4.headD 0)).length)])), (aO, .inl (cI, nO, .inl g1))]) (cx := [(h, .inr (6, [.ref hL, .ref hR, .int rs])), (hR, .inr (0, [.ref aR, .int (nI j1), .int (nI L4.tail.length)])), (aR, .inl (cI, 366, .inl f)), (hO, .inr (0, [.ref aO, .int (nI io), .int (nI (rw_put nO Lo2 (L4.headD 0)).length)])), (aO, .inl (cI, nO, .inl g1)), (hL, .inr (11, [.ref tE, .int (nI 0), .int mo]))]) hD [0, 2, 3, 4, 5, 1] (by decide) rfl
      exact ih86 (j + 1, j1, L4.tail, g1, rw_put nO Lo2 (L4.headD 0)) _ _ _ (by show L.length - (j + 1) < L.length - j; omega) ⟨ps_out hI86 hj hrow1 hrow2 (ps_cap0 hnil hfr hcapO), lv_sub hl [1, 2, 3, 0] rfl, hP, hD, hS⟩
  · skip
    have hfl : fr ≤ 5 := by omega
    have hP : va_P D fq_cl ([(h, .inr (6, [.ref hL, .ref hR, .int rs])), (hR, .inr (0, [.ref aR, .int (nI i), .int (nI L.length)])), (aR, .inl (cI, 366, .inl f)), (hO, .inr (0, [.ref aO, .int (nI io), .int (nI Lo.length)])), (aO, .inl (cI, nO, .inl fo)), (hL, .inr (11, [.ref eE, .int (nI sts.length), .int mo])), (eE, .inl (cO, 10, .inr (.inr (.inr (.inr fE)))))] ++ Ls.flatten) _ := hP
    have hD : va_D A ([(h, .inr (6, [.ref hL, .ref hR, .int rs])), (hR, .inr (0, [.ref aR, .int (nI i), .int (nI L.length)])), (aR, .inl (cI, 366, .inl f)), (hO, .inr (0, [.ref aO, .int (nI io), .int (nI Lo.length)])), (aO, .inl (cI, nO, .inl fo)), (hL, .inr (11, [.ref eE, .int (nI sts.length), .int mo])), (eE, .inl (cO, 10, .inr (.inr (.inr (.inr fE)))))] ++ Ls.flatten) := hD
    refine lv_iload_n K.1 K.2.1 dc_Chain_passThrough_0 rfl (lv_at hl 1 rfl) ?_
    refine lv_istore_n K.1 K.2.1 dc_Chain_passThrough_1 rfl hl (by decide) rfl (fun ls hl => ?_)
    have hl : lv_has ls 7 [(3, .int (nI fr)), (0, .ref h), (1, .int (nI fr)), (2, .ref hO)] := hl
    refine fq_lp (σ := Nat × (Nat → Int32) × Nat × List Int32 × List va_W × List ch_T) (fun x => sts.length - x.1) (fun x H locs ls => (fr ≤ x.1 ∧ x.1 ≤ sts.length ∧ rw_ok 366 x.2.1 x.2.2.1 x.2.2.2.1 ∧ (x.2.2.2.2.2, x.2.2.2.1.map Int32.toInt) = ch_it sts fr (L.map Int32.toInt) (x.1 - fr) ∧ ch_ok cI x.2.2.2.2.1 x.2.2.2.2.2) ∧ lv_has ls 7 [(0, .ref h), (1, .int (nI fr)), (2, .ref hO), (3, .int (nI x.1))] ∧ va_P D fq_cl ([(h, .inr (6, [.ref hL, .ref hR, .int rs])), (hR, .inr (0, [.ref aR, .int (nI x.2.2.1), .int (nI x.2.2.2.1.length)])), (aR, .inl (cI, 366, .inl x.2.1)), (hO, .inr (0, [.ref aO, .int (nI io), .int (nI Lo.length)])), (aO, .inl (cI, nO, .inl fo)), (hL, .inr (11, [.ref eE, .int (nI sts.length), .int mo])), (eE, .inl (cO, 10, .inr (.inr (.inr (.inr fE)))))] ++ x.2.2.2.2.1.flatten) H ∧ va_D A ([(h, .inr (6, [.ref hL, .ref hR, .int rs])), (hR, .inr (0, [.ref aR, .int (nI x.2.2.1), .int (nI x.2.2.2.1.length)])), (aR, .inl (cI, 366, .inl x.2.1)), (hO, .inr (0, [.ref aO, .int (nI io), .int (nI Lo.length)])), (aO, .inl (cI, nO, .inl fo)), (hL, .inr (11, [.ref eE, .int (nI sts.length), .int mo])), (eE, .inl (cO, 10, .inr (.inr (.inr (.inr fE)))))] ++ x.2.2.2.2.1.flatten) ∧ va_S A s.heap H locs) ?_ (fr, f, i, L, Ls, sts) _ _ _ ⟨⟨Nat.le_refl _, hfr, hrow, by rw [Nat.sub_self]; rfl, hch⟩, lv_sub hl [1, 2, 3, 0] rfl, hP, hD, hS⟩
    rintro ⟨a, ff, ii, LL, Lc, stt⟩ H locs ls ⟨hI2, hl, hP, hD, hS⟩ ih2
    have hI2 : fr ≤ a ∧ a ≤ sts.length ∧ rw_ok 366 ff ii LL ∧ (stt, LL.map Int32.toInt) = ch_it sts fr (L.map Int32.toInt) (a - fr) ∧ ch_ok cI Lc stt := hI2
    have hl : lv_has ls 7 [(0, .ref h), (1, .int (nI fr)), (2, .ref hO), (3, .int (nI a))] := hl
    have hP : va_P D fq_cl ([(h, .inr (6, [.ref hL, .ref hR, .int rs])), (hR, .inr (0, [.ref aR, .int (nI ii), .int (nI LL.length)])), (aR, .inl (cI, 366, .inl ff)), (hO, .inr (0, [.ref aO, .int (nI io), .int (nI Lo.length)])), (aO, .inl (cI, nO, .inl fo)), (hL, .inr (11, [.ref eE, .int (nI sts.length), .int mo])), (eE, .inl (cO, 10, .inr (.inr (.inr (.inr fE)))))] ++ Lc.flatten) _ := hP
    have hD : va_D A ([(h, .inr (6, [.ref hL, .ref hR, .int rs])), (hR, .inr (0, [.ref aR, .int (nI ii), .int (nI LL.length)])), (aR, .inl (cI, 366, .inl ff)), (hO, .inr (0, [.ref aO, .int (nI io), .int (nI Lo.length)])), (aO, .inl (cI, nO, .inl fo)), (hL, .inr (11, [.ref eE, .int (nI sts.length), .int mo])), (eE, .inl (cO, 10, .inr (.inr (.inr (.inr fE)))))] ++ Lc.flatten) := hD
    refine lv_iload_n K.1 K.2.1 dc_Chain_passThrough_2 rfl (lv_at hl 3 rfl) ?_
    refine lv_aload_n K.1 K.2.1 dc_Chain_passThrough_3 rfl (lv_at hl 0 rfl) ?_
    refine fq_get K hK cl_Chain hP 0 0 rfl (by decide) wd_105 rfl dc_Chain_passThrough_4 ?_
    have hc := fq_cutT (X := [(h, .inr (6, [.ref hL, .ref hR, .int rs])), (hR, .inr (0, [.ref aR, .int (nI ii), .int (nI LL.length)])), (aR, .inl (cI, 366, .inl ff)), (hO, .inr (0, [.ref aO, .int (nI io), .int (nI Lo.length)])), (aO, .inl (cI, nO, .inl fo)), (hL, .inr (11, [.ref eE, .int (nI sts.length), .int mo])), (eE, .inl (cO, 10, .inr (.inr (.inr (.inr fE)))))]) (T := Lc.flatten) (cx := [(hL, .inr (11, [.ref eE, .int (nI sts.length), .int mo]))]) hP hD hS hA [5] (by decide) rfl
    refine fq_ciT (wr := [(h, .inr (6, [.ref hL, .ref hR, .int rs])), (hR, .inr (0, [.ref aR, .int (nI ii), .int (nI LL.length)])), (aR, .inl (cI, 366, .inl ff)), (hO, .inr (0, [.ref aO, .int (nI io), .int (nI Lo.length)])), (aO, .inl (cI, nO, .inl fo)), (eE, .inl (cO, 10, .inr (.inr (.inr (.inr fE)))))]) (fq_rV K hK hZ hS hc (ct_AL_size l D cI cO tE hL eE (nI sts.length) mo _) yk_AL_size wd_229 wd_230 wd_228 0 rfl rfl rfl ⟨⟨rfl, rfl⟩, ⟨Nat.le_of_ble_eq_true rfl, Nat.le_of_ble_eq_true rfl⟩, ⟨Nat.le_of_ble_eq_true rfl, Nat.le_of_ble_eq_true rfl⟩⟩ hl.1 rfl (Nat.le_of_ble_eq_true rfl) dc_Chain_passThrough_7) hP hD hS hc [5] [0, 1, 2, 3, 4, 6] rfl rfl (by decide) (by decide) (fun r4 w H locs hw5 hP hD hS => ?_)
    obtain ⟨rfl, rfl⟩ := hw5
    have hP : va_P D fq_cl ([(h, .inr (6, [.ref hL, .ref hR, .int rs])), (hR, .inr (0, [.ref aR, .int (nI ii), .int (nI LL.length)])), (aR, .inl (cI, 366, .inl ff)), (hO, .inr (0, [.ref aO, .int (nI io), .int (nI Lo.length)])), (aO, .inl (cI, nO, .inl fo)), (eE, .inl (cO, 10, .inr (.inr (.inr (.inr fE))))), (hL, .inr (11, [.ref eE, .int (nI sts.length), .int mo]))] ++ Lc.flatten) _ := hP
    have hD : va_D A ([(h, .inr (6, [.ref hL, .ref hR, .int rs])), (hR, .inr (0, [.ref aR, .int (nI ii), .int (nI LL.length)])), (aR, .inl (cI, 366, .inl ff)), (hO, .inr (0, [.ref aO, .int (nI io), .int (nI Lo.length)])), (aO, .inl (cI, nO, .inl fo)), (eE, .inl (cO, 10, .inr (.inr (.inr (.inr fE))))), (hL, .inr (11, [.ref eE, .int (nI sts.length), .int mo]))] ++ Lc.flatten) := hD
    refine lv_icmp_ge (tgt := 75) K.1 K.2.1 dc_Chain_passThrough_10 rfl (fun b10 => ?_) (fun b10 => ?_)
    · skip
      have ha : a = sts.length := by rw [nI_leI (by omega) (by omega)] at b10; omega
      have hLL := (ps_fit hI2 hfit).1
      refine lv_aload_n K.1 K.2.1 dc_Chain_passThrough_75 rfl (lv_at hl 0 rfl) ?_
      refine fq_get K hK cl_Chain hP 0 1 rfl (by decide) wd_106 rfl dc_Chain_passThrough_76 ?_
      have hc := fq_cutT (X := [(h, .inr (6, [.ref hL, .ref hR, .int rs])), (hR, .inr (0, [.ref aR, .int (nI ii), .int (nI LL.length)])), (aR, .inl (cI, 366, .inl ff)), (hO, .inr (0, [.ref aO, .int (nI io), .int (nI Lo.length)])), (aO, .inl (cI, nO, .inl fo)), (eE, .inl (cO, 10, .inr (.inr (.inr (.inr fE))))), (hL, .inr (11, [.ref eE, .int (nI sts.length), .int mo]))]) (T := Lc.flatten) (cx := [(hR, .inr (0, [.ref aR, .int (nI ii), .int (nI LL.length)])), (aR, .inl (cI, 366, .inl ff))]) hP hD hS hA [1, 2] (by decide) rfl
      refine fq_ciT (wr := [(h, .inr (6, [.ref hL, .ref hR, .int rs])), (hO, .inr (0, [.ref aO, .int (nI io), .int (nI Lo.length)])), (aO, .inl (cI, nO, .inl fo)), (eE, .inl (cO, 10, .inr (.inr (.inr (.inr fE))))), (hL, .inr (11, [.ref eE, .int (nI sts.length), .int mo]))]) (fq_rV K hK hZ hS hc (ct_Row_size l D cI cO tE hR aR 366 ff ii LL hI2.2.2.1 _) yk_Row_size wd_574 wd_575 wd_611 0 rfl rfl rfl ⟨⟨rfl, rfl⟩, ⟨Nat.le_of_ble_eq_true rfl, Nat.le_of_ble_eq_true rfl⟩, ⟨Nat.le_of_ble_eq_true rfl, Nat.le_of_ble_eq_true rfl⟩⟩ hl.1 rfl (Nat.le_of_ble_eq_true rfl) dc_Chain_passThrough_79) hP hD hS hc [1, 2] [0, 3, 4, 5, 6] rfl rfl (by decide) (by decide) (fun r5 w H locs hw6 hP hD hS => ?_)
      obtain ⟨rfl, rfl⟩ := hw6
      have hP : va_P D fq_cl ([(h, .inr (6, [.ref hL, .ref hR, .int rs])), (hO, .inr (0, [.ref aO, .int (nI io), .int (nI Lo.length)])), (aO, .inl (cI, nO, .inl fo)), (eE, .inl (cO, 10, .inr (.inr (.inr (.inr fE))))), (hL, .inr (11, [.ref eE, .int (nI sts.length), .int mo])), (hR, .inr (0, [.ref aR, .int (nI ii), .int (nI LL.length)])), (aR, .inl (cI, 366, .inl ff))] ++ Lc.flatten) _ := hP
      have hD : va_D A ([(h, .inr (6, [.ref hL, .ref hR, .int rs])), (hO, .inr (0, [.ref aO, .int (nI io), .int (nI Lo.length)])), (aO, .inl (cI, nO, .inl fo)), (eE, .inl (cO, 10, .inr (.inr (.inr (.inr fE))))), (hL, .inr (11, [.ref eE, .int (nI sts.length), .int mo])), (hR, .inr (0, [.ref aR, .int (nI ii), .int (nI LL.length)])), (aR, .inl (cI, 366, .inl ff))] ++ Lc.flatten) := hD
      refine lv_istore_n K.1 K.2.1 dc_Chain_passThrough_82 rfl hl (by decide) rfl (fun ls hl => ?_)
      have hl : lv_has ls 7 [(3, .int (nI LL.length)), (0, .ref h), (1, .int (nI fr)), (2, .ref hO)] := hl
      refine lv_iconst (v := 0) K.1 K.2.1 dc_Chain_passThrough_83 (by decide) ?_
      refine lv_istore K.1 K.2.1 dc_Chain_passThrough_84 hl (by decide) rfl (fun ls hl => ?_)
      have hl : lv_has ls 7 [(4, .int 0), (3, .int (nI LL.length)), (0, .ref h), (1, .int (nI fr)), (2, .ref hO)] := hl
      have hP := va_P.part (X := [(h, .inr (6, [.ref hL, .ref hR, .int rs])), (hO, .inr (0, [.ref aO, .int (nI io), .int (nI Lo.length)])), (aO, .inl (cI, nO, .inl fo)), (eE, .inl (cO, 10, .inr (.inr (.inr (.inr fE))))), (hL, .inr (11, [.ref eE, .int (nI sts.length), .int mo])), (hR, .inr (0, [.ref aR, .int (nI ii), .int (nI LL.length)])), (aR, .inl (cI, 366, .inl ff))]) (cx := [(h, .inr (6, [.ref hL, .ref hR, .int rs])), (hR, .inr (0, [.ref aR, .int (nI ii), .int (nI LL.length)])), (aR, .inl (cI, 366, .inl ff)), (hO, .inr (0, [.ref aO, .int (nI io), .int (nI Lo.length)])), (aO, .inl (cI, nO, .inl fo)), (hL, .inr (11, [.ref eE, .int (nI sts.length), .int mo])), (eE, .inl (cO, 10, .inr (.inr (.inr (.inr fE)))))]) hP [0, 5, 6, 1, 2, 4, 3] rfl
      have hD := va_D.part (X := [(h, .inr (6, [.ref hL, .ref hR, .int rs])), (hO, .inr (0, [.ref aO, .int (nI io), .int (nI Lo.length)])), (aO, .inl (cI, nO, .inl fo)), (eE, .inl (cO, 10, .inr (.inr (.inr (.inr fE))))), (hL, .inr (11, [.ref eE, .int (nI sts.length), .int mo])), (hR, .inr (0, [.ref aR, .int (nI ii), .int (nI LL.length)])), (aR, .inl (cI, 366, .inl ff))]) (cx := [(h, .inr (6, [.ref hL, .ref hR, .int rs])), (hR, .inr (0, [.ref aR, .int (nI ii), .int (nI LL.length)])), (aR, .inl (cI, 366, .inl ff)), (hO, .inr (0, [.ref aO, .int (nI io), .int (nI Lo.length)])), (aO, .inl (cI, nO, .inl fo)), (hL, .inr (11, [.ref eE, .int (nI sts.length), .int mo])), (eE, .inl (cO, 10, .inr (.inr (.inr (.inr fE)))))]) hD [0, 5, 6, 1, 2, 4, 3] (by decide) rfl
      refine fq_lp (σ := Nat × Nat × List Int32 × (Nat → Int32) × List Int32) (fun x => LL.length - x.1) (fun x H locs ls => (x.1 ≤ LL.length ∧ rw_ok 366 ff x.2.1 x.2.2.1 ∧ x.2.2.1 = LL.drop x.1 ∧ rw_ok nO x.2.2.2.1 io x.2.2.2.2 ∧ x.2.2.2.2 = Lo ++ LL.take x.1) ∧ lv_has ls 7 [(0, .ref h), (2, .ref hO), (3, .int (nI LL.length)), (4, .int (nI x.1))] ∧ va_P D fq_cl ([(h, .inr (6, [.ref hL, .ref hR, .int rs])), (hR, .inr (0, [.ref aR, .int (nI x.2.1), .int (nI x.2.2.1.length)])), (aR, .inl (cI, 366, .inl ff)), (hO, .inr (0, [.ref aO, .int (nI io), .int (nI x.2.2.2.2.length)])), (aO, .inl (cI, nO, .inl x.2.2.2.1)), (hL, .inr (11, [.ref eE, .int (nI sts.length), .int mo])), (eE, .inl (cO, 10, .inr (.inr (.inr (.inr fE)))))] ++ Lc.flatten) H ∧ va_D A ([(h, .inr (6, [.ref hL, .ref hR, .int rs])), (hR, .inr (0, [.ref aR, .int (nI x.2.1), .int (nI x.2.2.1.length)])), (aR, .inl (cI, 366, .inl ff)), (hO, .inr (0, [.ref aO, .int (nI io), .int (nI x.2.2.2.2.length)])), (aO, .inl (cI, nO, .inl x.2.2.2.1)), (hL, .inr (11, [.ref eE, .int (nI sts.length), .int mo])), (eE, .inl (cO, 10, .inr (.inr (.inr (.inr fE)))))] ++ Lc.flatten) ∧ va_S A s.heap H locs) ?_ (0, ii, LL, fo, Lo) _ _ _ ⟨⟨Nat.zero_le _, hI2.2.2.1, rfl, hrowO, (List.append_nil _).symm⟩, lv_sub hl [2, 4, 1, 0] rfl, hP, hD, hS⟩
      rintro ⟨j, i3, L4, fo2, Lo2⟩ H locs ls ⟨hI86, hl, hP, hD, hS⟩ ih86
      have hI86 : j ≤ LL.length ∧ rw_ok 366 ff i3 L4 ∧ L4 = LL.drop j ∧ rw_ok nO fo2 io Lo2 ∧ Lo2 = Lo ++ LL.take j := hI86
      have hl : lv_has ls 7 [(0, .ref h), (2, .ref hO), (3, .int (nI LL.length)), (4, .int (nI j))] := hl
      have hP : va_P D fq_cl ([(h, .inr (6, [.ref hL, .ref hR, .int rs])), (hR, .inr (0, [.ref aR, .int (nI i3), .int (nI L4.length)])), (aR, .inl (cI, 366, .inl ff)), (hO, .inr (0, [.ref aO, .int (nI io), .int (nI Lo2.length)])), (aO, .inl (cI, nO, .inl fo2)), (hL, .inr (11, [.ref eE, .int (nI sts.length), .int mo])), (eE, .inl (cO, 10, .inr (.inr (.inr (.inr fE)))))] ++ Lc.flatten) _ := hP
      have hD : va_D A ([(h, .inr (6, [.ref hL, .ref hR, .int rs])), (hR, .inr (0, [.ref aR, .int (nI i3), .int (nI L4.length)])), (aR, .inl (cI, 366, .inl ff)), (hO, .inr (0, [.ref aO, .int (nI io), .int (nI Lo2.length)])), (aO, .inl (cI, nO, .inl fo2)), (hL, .inr (11, [.ref eE, .int (nI sts.length), .int mo])), (eE, .inl (cO, 10, .inr (.inr (.inr (.inr fE)))))] ++ Lc.flatten) := hD
      refine lv_iload K.1 K.2.1 dc_Chain_passThrough_86 (lv_at hl 3 rfl) ?_
      refine lv_iload_n K.1 K.2.1 dc_Chain_passThrough_88 rfl (lv_at hl 2 rfl) ?_
      refine lv_icmp_ge (tgt := 109) K.1 K.2.1 dc_Chain_passThrough_89 rfl (fun b89 => ?_) (fun b89 => ?_)
      · skip
        have hj : j = LL.length := by rw [nI_leI (by omega) (by omega)] at b89; omega
        have hP : va_P D fq_cl ([(h, .inr (6, [.ref hL, .ref hR, .int rs])), (hR, .inr (0, [.ref aR, .int (nI i3), .int (nI L4.length)])), (aR, .inl (cI, 366, .inl ff)), (hO, .inr (0, [.ref aO, .int (nI io), .int (nI Lo2.length)])), (aO, .inl (cI, nO, .inl fo2))] ++ ([(hL, .inr (11, [.ref eE, .int (nI sts.length), .int mo])), (eE, .inl (cO, 10, .inr (.inr (.inr (.inr fE)))))] :: Lc).flatten) _ := hP
        have hD : va_D A ([(h, .inr (6, [.ref hL, .ref hR, .int rs])), (hR, .inr (0, [.ref aR, .int (nI i3), .int (nI L4.length)])), (aR, .inl (cI, 366, .inl ff)), (hO, .inr (0, [.ref aO, .int (nI io), .int (nI Lo2.length)])), (aO, .inl (cI, nO, .inl fo2))] ++ ([(hL, .inr (11, [.ref eE, .int (nI sts.length), .int mo])), (eE, .inl (cO, 10, .inr (.inr (.inr (.inr fE)))))] :: Lc).flatten) := hD
        exact fq_retv K hret hlk hS hP hD (ps_end hI2 ha hI86 hj) dc_Chain_passThrough_109 (Nat.le_of_ble_eq_true rfl) (Nat.le_of_ble_eq_true rfl)
      · skip
        have hj : j < LL.length := by rw [nI_leI (by omega) (by omega)] at b89; omega
        refine lv_aload_n K.1 K.2.1 dc_Chain_passThrough_92 rfl (lv_at hl 1 rfl) ?_
        refine lv_aload_n K.1 K.2.1 dc_Chain_passThrough_93 rfl (lv_at hl 0 rfl) ?_
        refine fq_get K hK cl_Chain hP 0 1 rfl (by decide) wd_106 rfl dc_Chain_passThrough_94 ?_
        have hc := fq_cutT (X := [(h, .inr (6, [.ref hL, .ref hR, .int rs])), (hR, .inr (0, [.ref aR, .int (nI i3), .int (nI L4.length)])), (aR, .inl (cI, 366, .inl ff)), (hO, .inr (0, [.ref aO, .int (nI io), .int (nI Lo2.length)])), (aO, .inl (cI, nO, .inl fo2)), (hL, .inr (11, [.ref eE, .int (nI sts.length), .int mo])), (eE, .inl (cO, 10, .inr (.inr (.inr (.inr fE)))))]) (T := Lc.flatten) (cx := [(hR, .inr (0, [.ref aR, .int (nI i3), .int (nI L4.length)])), (aR, .inl (cI, 366, .inl ff))]) hP hD hS hA [1, 2] (by decide) rfl
        refine fq_ciT (wr := [(h, .inr (6, [.ref hL, .ref hR, .int rs])), (hO, .inr (0, [.ref aO, .int (nI io), .int (nI Lo2.length)])), (aO, .inl (cI, nO, .inl fo2)), (hL, .inr (11, [.ref eE, .int (nI sts.length), .int mo])), (eE, .inl (cO, 10, .inr (.inr (.inr (.inr fE)))))]) (fq_rV K hK hZ hS hc (ct_Row_takeOldest l D cI cO tE hR aR 366 ff i3 L4 hI86.2.1 _) yk_Row_takeOldest wd_583 wd_584 wd_612 0 rfl rfl rfl ⟨⟨rfl, rfl⟩, ⟨Nat.le_of_ble_eq_true rfl, Nat.le_of_ble_eq_true rfl⟩, ⟨Nat.le_of_ble_eq_true rfl, Nat.le_of_ble_eq_true rfl⟩⟩ hl.1 rfl (Nat.le_of_ble_eq_true rfl) dc_Chain_passThrough_97) hP hD hS hc [1, 2] [0, 3, 4, 5, 6] rfl rfl (by decide) (by decide) (fun r6 w H locs hw7 hP hD hS => ?_)
        obtain ⟨j2, rfl, rfl, hrow3⟩ := hw7
        have hP : va_P D fq_cl ([(h, .inr (6, [.ref hL, .ref hR, .int rs])), (hO, .inr (0, [.ref aO, .int (nI io), .int (nI Lo2.length)])), (aO, .inl (cI, nO, .inl fo2)), (hL, .inr (11, [.ref eE, .int (nI sts.length), .int mo])), (eE, .inl (cO, 10, .inr (.inr (.inr (.inr fE))))), (hR, .inr (0, [.ref aR, .int (nI j2), .int (nI L4.tail.length)])), (aR, .inl (cI, 366, .inl ff))] ++ Lc.flatten) _ := hP
        have hD : va_D A ([(h, .inr (6, [.ref hL, .ref hR, .int rs])), (hO, .inr (0, [.ref aO, .int (nI io), .int (nI Lo2.length)])), (aO, .inl (cI, nO, .inl fo2)), (hL, .inr (11, [.ref eE, .int (nI sts.length), .int mo])), (eE, .inl (cO, 10, .inr (.inr (.inr (.inr fE))))), (hR, .inr (0, [.ref aR, .int (nI j2), .int (nI L4.tail.length)])), (aR, .inl (cI, 366, .inl ff))] ++ Lc.flatten) := hD
        have hc := fq_cutT (X := [(h, .inr (6, [.ref hL, .ref hR, .int rs])), (hO, .inr (0, [.ref aO, .int (nI io), .int (nI Lo2.length)])), (aO, .inl (cI, nO, .inl fo2)), (hL, .inr (11, [.ref eE, .int (nI sts.length), .int mo])), (eE, .inl (cO, 10, .inr (.inr (.inr (.inr fE))))), (hR, .inr (0, [.ref aR, .int (nI j2), .int (nI L4.tail.length)])), (aR, .inl (cI, 366, .inl ff))]) (T := Lc.flatten) (cx := [(hO, .inr (0, [.ref aO, .int (nI io), .int (nI Lo2.length)])), (aO, .inl (cI, nO, .inl fo2))]) hP hD hS hA [1, 2] (by decide) rfl
        refine fq_cvT (wr := [(h, .inr (6, [.ref hL, .ref hR, .int rs])), (hL, .inr (11, [.ref eE, .int (nI sts.length), .int mo])), (eE, .inl (cO, 10, .inr (.inr (.inr (.inr fE))))), (hR, .inr (0, [.ref aR, .int (nI j2), .int (nI L4.tail.length)])), (aR, .inl (cI, 366, .inl ff))]) (fq_rV K hK hZ hS hc (ct_Row_add l D cI cO tE hO aO nO fo2 io Lo2 (L4.headD 0) hI86.2.2.2.1 _) yk_Row_add wd_554 wd_555 wd_606 0 rfl rfl rfl ⟨⟨rfl, rfl⟩, ⟨Nat.le_of_ble_eq_true rfl, Nat.le_of_ble_eq_true rfl⟩, ⟨Nat.le_of_ble_eq_true rfl, Nat.le_of_ble_eq_true rfl⟩⟩ hl.1 rfl (Nat.le_of_ble_eq_true rfl) dc_Chain_passThrough_100) hP hD hS hc [1, 2] [0, 3, 4, 5, 6] rfl rfl (by decide) (by decide) (fun  w H locs hw8 hP hD hS => ?_)
        obtain ⟨g2, rfl, hrow4⟩ := hw8
        have hP : va_P D fq_cl ([(h, .inr (6, [.ref hL, .ref hR, .int rs])), (hL, .inr (11, [.ref eE, .int (nI sts.length), .int mo])), (eE, .inl (cO, 10, .inr (.inr (.inr (.inr fE))))), (hR, .inr (0, [.ref aR, .int (nI j2), .int (nI L4.tail.length)])), (aR, .inl (cI, 366, .inl ff)), (hO, .inr (0, [.ref aO, .int (nI io), .int (nI (rw_put nO Lo2 (L4.headD 0)).length)])), (aO, .inl (cI, nO, .inl g2))] ++ Lc.flatten) _ := hP
        have hD : va_D A ([(h, .inr (6, [.ref hL, .ref hR, .int rs])), (hL, .inr (11, [.ref eE, .int (nI sts.length), .int mo])), (eE, .inl (cO, 10, .inr (.inr (.inr (.inr fE))))), (hR, .inr (0, [.ref aR, .int (nI j2), .int (nI L4.tail.length)])), (aR, .inl (cI, 366, .inl ff)), (hO, .inr (0, [.ref aO, .int (nI io), .int (nI (rw_put nO Lo2 (L4.headD 0)).length)])), (aO, .inl (cI, nO, .inl g2))] ++ Lc.flatten) := hD
        refine lv_iinc (v := nI (j + 1)) K.1 K.2.1 dc_Chain_passThrough_103 hl (k := 3) rfl (nI_1 j) (by decide) rfl (fun ls hl => ?_)
        have hl : lv_has ls 7 [(4, .int (nI (j + 1))), (0, .ref h), (2, .ref hO), (3, .int (nI LL.length))] := hl
        refine lv_goto (tgt := 86) K.1 K.2.1 dc_Chain_passThrough_106 rfl ?_
        have hP := va_P.part (X := [(h, .inr (6, [.ref hL, .ref hR, .int rs])), (hL, .inr (11, [.ref eE, .int (nI sts.length), .int mo])), (eE, .inl (cO, 10, .inr (.inr (.inr (.inr fE))))), (hR, .inr (0, [.ref aR, .int (nI j2), .int (nI L4.tail.length)])), (aR, .inl (cI, 366, .inl ff)), (hO, .inr (0, [.ref aO, .int (nI io), .int (nI (rw_put nO Lo2 (L4.headD 0)).length)])), (aO, .inl (cI, nO, .inl g2))]) (cx := [(h, .inr (6, [.ref hL, .ref hR, .int rs])), (hR, .inr (0, [.ref aR, .int (nI j2), .int (nI L4.tail.length)])), (aR, .inl (cI, 366, .inl ff)), (hO, .inr (0, [.ref aO, .int (nI io), .int (nI (rw_put nO Lo2 (L4.headD 0)).length)])), (aO, .inl (cI, nO, .inl g2)), (hL, .inr (11, [.ref eE, .int (nI sts.length), .int mo])), (eE, .inl (cO, 10, .inr (.inr (.inr (.inr fE)))))]) hP [0, 3, 4, 5, 6, 1, 2] rfl
        have hD := va_D.part (X := [(h, .inr (6, [.ref hL, .ref hR, .int rs])), (hL, .inr (11, [.ref eE, .int (nI sts.length), .int mo])), (eE, .inl (cO, 10, .inr (.inr (.inr (.inr fE))))), (hR, .inr (0, [.ref aR, .int (nI j2), .int (nI L4.tail.length)])), (aR, .inl (cI, 366, .inl ff)), (hO, .inr (0, [.ref aO, .int (nI io), .int (nI (rw_put nO Lo2 (L4.headD 0)).length)])), (aO, .inl (cI, nO, .inl g2))]) (cx := [(h, .inr (6, [.ref hL, .ref hR, .int rs])), (hR, .inr (0, [.ref aR, .int (nI j2), .int (nI L4.tail.length)])), (aR, .inl (cI, 366, .inl ff)), (hO, .inr (0, [.ref aO, .int (nI io), .int (nI (rw_put nO Lo2 (L4.headD 0)).length)])), (aO, .inl (cI, nO, .inl g2)), (hL, .inr (11, [.ref eE, .int (nI sts.length), .int mo])), (eE, .inl (cO, 10, .inr (.inr (.inr (.inr fE)))))]) hD [0, 3, 4, 5, 6, 1, 2] (by decide) rfl
        exact ih86 (j + 1, j2, L4.tail, g2, rw_put nO Lo2 (L4.headD 0)) _ _ _ (by show LL.length - (j + 1) < LL.length - j; omega) ⟨ps_out hI86 hj hrow3 hrow4 (ps_cap hI2 ha hcapO), lv_sub hl [1, 2, 3, 0] rfl, hP, hD, hS⟩
    · skip
      have ha : a < sts.length := by rw [nI_leI (by omega) (by omega)] at b10; omega
      obtain ⟨⟨hS0, sp, xs, m0⟩, hset0⟩ := ps_some ha
      obtain ⟨gc, hgc, hsgc⟩ := ch_get hI2.2.2.2.2 (ps_cur hI2 hset0)
      have hLL := (ps_fit hI2 hfit).1
      refine lv_aload_n K.1 K.2.1 dc_Chain_passThrough_13 rfl (lv_at hl 0 rfl) ?_
      refine fq_get K hK cl_Chain hP 0 0 rfl (by decide) wd_105 rfl dc_Chain_passThrough_14 ?_
      refine lv_iload_n K.1 K.2.1 dc_Chain_passThrough_17 rfl (lv_at hl 3 rfl) ?_
      have hc := fq_cutT (X := [(h, .inr (6, [.ref hL, .ref hR, .int rs])), (hR, .inr (0, [.ref aR, .int (nI ii), .int (nI LL.length)])), (aR, .inl (cI, 366, .inl ff)), (hO, .inr (0, [.ref aO, .int (nI io), .int (nI Lo.length)])), (aO, .inl (cI, nO, .inl fo)), (eE, .inl (cO, 10, .inr (.inr (.inr (.inr fE))))), (hL, .inr (11, [.ref eE, .int (nI sts.length), .int mo]))]) (T := Lc.flatten) (cx := [(hL, .inr (11, [.ref eE, .int (nI sts.length), .int mo])), (eE, .inl (cO, 10, .inr (.inr (.inr (.inr fE)))))]) hP hD hS hA [6, 5] (by decide) rfl
      refine fq_cqT (wr := [(h, .inr (6, [.ref hL, .ref hR, .int rs])), (hR, .inr (0, [.ref aR, .int (nI ii), .int (nI LL.length)])), (aR, .inl (cI, 366, .inl ff)), (hO, .inr (0, [.ref aO, .int (nI io), .int (nI Lo.length)])), (aO, .inl (cI, nO, .inl fo))]) (fq_rV K hK hZ hS hc (ct_AL_get l D cI cO tE hL eE sts.length mo fE a hS0 ha (by omega) (hfE a _ hset0) _) yk_AL_get wd_467 wd_468 wd_466 0 rfl rfl rfl ⟨⟨rfl, rfl⟩, ⟨Nat.le_of_ble_eq_true rfl, Nat.le_of_ble_eq_true rfl⟩, ⟨Nat.le_of_ble_eq_true rfl, Nat.le_of_ble_eq_true rfl⟩⟩ hl.1 rfl (Nat.le_of_ble_eq_true rfl) dc_Chain_passThrough_18) hP hD hS hc [6, 5] [0, 1, 2, 3, 4] rfl rfl (by decide) (by decide) (fun r7 w H locs hw9 hP hD hS => ?_)
      obtain ⟨rfl, rfl⟩ := hw9
      have hP : va_P D fq_cl ([(h, .inr (6, [.ref hL, .ref hR, .int rs])), (hR, .inr (0, [.ref aR, .int (nI ii), .int (nI LL.length)])), (aR, .inl (cI, 366, .inl ff)), (hO, .inr (0, [.ref aO, .int (nI io), .int (nI Lo.length)])), (aO, .inl (cI, nO, .inl fo)), (hL, .inr (11, [.ref eE, .int (nI sts.length), .int mo])), (eE, .inl (cO, 10, .inr (.inr (.inr (.inr fE)))))] ++ Lc.flatten) _ := hP
      have hD : va_D A ([(h, .inr (6, [.ref hL, .ref hR, .int rs])), (hR, .inr (0, [.ref aR, .int (nI ii), .int (nI LL.length)])), (aR, .inl (cI, 366, .inl ff)), (hO, .inr (0, [.ref aO, .int (nI io), .int (nI Lo.length)])), (aO, .inl (cI, nO, .inl fo)), (hL, .inr (11, [.ref eE, .int (nI sts.length), .int mo])), (eE, .inl (cO, 10, .inr (.inr (.inr (.inr fE)))))] ++ Lc.flatten) := hD
      refine W.eq (g2 := F0 mt 21 ls [.ref hS0]) rfl ?_
      refine sg_cast K hK hsgc (fq_Pl (fq_permP (fq_gone hgc) hP)) (K.2.2.2.2 _ wd_480) dc_Chain_passThrough_21 ?_
      refine lv_astore K.1 K.2.1 dc_Chain_passThrough_24 hl (by decide) rfl (fun ls hl => ?_)
      have hl : lv_has ls 7 [(4, .ref hS0), (0, .ref h), (1, .int (nI fr)), (2, .ref hO), (3, .int (nI a))] := hl
      refine lv_aload_n K.1 K.2.1 dc_Chain_passThrough_26 rfl (lv_at hl 1 rfl) ?_
      refine fq_get K hK cl_Chain hP 0 1 rfl (by decide) wd_106 rfl dc_Chain_passThrough_27 ?_
      have hc := fq_cutT (X := [(h, .inr (6, [.ref hL, .ref hR, .int rs])), (hR, .inr (0, [.ref aR, .int (nI ii), .int (nI LL.length)])), (aR, .inl (cI, 366, .inl ff)), (hO, .inr (0, [.ref aO, .int (nI io), .int (nI Lo.length)])), (aO, .inl (cI, nO, .inl fo)), (hL, .inr (11, [.ref eE, .int (nI sts.length), .int mo])), (eE, .inl (cO, 10, .inr (.inr (.inr (.inr fE)))))]) (T := Lc.flatten) (cx := [(hR, .inr (0, [.ref aR, .int (nI ii), .int (nI LL.length)])), (aR, .inl (cI, 366, .inl ff))]) hP hD hS hA [1, 2] (by decide) rfl
      refine fq_ciT (wr := [(h, .inr (6, [.ref hL, .ref hR, .int rs])), (hO, .inr (0, [.ref aO, .int (nI io), .int (nI Lo.length)])), (aO, .inl (cI, nO, .inl fo)), (hL, .inr (11, [.ref eE, .int (nI sts.length), .int mo])), (eE, .inl (cO, 10, .inr (.inr (.inr (.inr fE)))))]) (fq_rV K hK hZ hS hc (ct_Row_size l D cI cO tE hR aR 366 ff ii LL hI2.2.2.1 _) yk_Row_size wd_574 wd_575 wd_611 0 rfl rfl rfl ⟨⟨rfl, rfl⟩, ⟨Nat.le_of_ble_eq_true rfl, Nat.le_of_ble_eq_true rfl⟩, ⟨Nat.le_of_ble_eq_true rfl, Nat.le_of_ble_eq_true rfl⟩⟩ hl.1 rfl (Nat.le_of_ble_eq_true rfl) dc_Chain_passThrough_30) hP hD hS hc [1, 2] [0, 3, 4, 5, 6] rfl rfl (by decide) (by decide) (fun r8 w H locs hw10 hP hD hS => ?_)
      obtain ⟨rfl, rfl⟩ := hw10
      have hP : va_P D fq_cl ([(h, .inr (6, [.ref hL, .ref hR, .int rs])), (hO, .inr (0, [.ref aO, .int (nI io), .int (nI Lo.length)])), (aO, .inl (cI, nO, .inl fo)), (hL, .inr (11, [.ref eE, .int (nI sts.length), .int mo])), (eE, .inl (cO, 10, .inr (.inr (.inr (.inr fE))))), (hR, .inr (0, [.ref aR, .int (nI ii), .int (nI LL.length)])), (aR, .inl (cI, 366, .inl ff))] ++ Lc.flatten) _ := hP
      have hD : va_D A ([(h, .inr (6, [.ref hL, .ref hR, .int rs])), (hO, .inr (0, [.ref aO, .int (nI io), .int (nI Lo.length)])), (aO, .inl (cI, nO, .inl fo)), (hL, .inr (11, [.ref eE, .int (nI sts.length), .int mo])), (eE, .inl (cO, 10, .inr (.inr (.inr (.inr fE))))), (hR, .inr (0, [.ref aR, .int (nI ii), .int (nI LL.length)])), (aR, .inl (cI, 366, .inl ff))] ++ Lc.flatten) := hD
      refine lv_istore K.1 K.2.1 dc_Chain_passThrough_33 hl (by decide) rfl (fun ls hl => ?_)
      have hl : lv_has ls 7 [(5, .int (nI LL.length)), (4, .ref hS0), (0, .ref h), (1, .int (nI fr)), (2, .ref hO), (3, .int (nI a))] := hl
      refine lv_iconst (v := 0) K.1 K.2.1 dc_Chain_passThrough_35 (by decide) ?_
      refine lv_istore K.1 K.2.1 dc_Chain_passThrough_36 hl (by decide) rfl (fun ls hl => ?_)
      have hl : lv_has ls 7 [(6, .int 0), (5, .int (nI LL.length)), (4, .ref hS0), (0, .ref h), (1, .int (nI fr)), (2, .ref hO), (3, .int (nI a))] := hl
      have hP := va_P.part (X := [(h, .inr (6, [.ref hL, .ref hR, .int rs])), (hO, .inr (0, [.ref aO, .int (nI io), .int (nI Lo.length)])), (aO, .inl (cI, nO, .inl fo)), (hL, .inr (11, [.ref eE, .int (nI sts.length), .int mo])), (eE, .inl (cO, 10, .inr (.inr (.inr (.inr fE))))), (hR, .inr (0, [.ref aR, .int (nI ii), .int (nI LL.length)])), (aR, .inl (cI, 366, .inl ff))]) (cx := [(h, .inr (6, [.ref hL, .ref hR, .int rs])), (hR, .inr (0, [.ref aR, .int (nI ii), .int (nI LL.length)])), (aR, .inl (cI, 366, .inl ff)), (hO, .inr (0, [.ref aO, .int (nI io), .int (nI Lo.length)])), (aO, .inl (cI, nO, .inl fo)), (hL, .inr (11, [.ref eE, .int (nI sts.length), .int mo])), (eE, .inl (cO, 10, .inr (.inr (.inr (.inr fE)))))]) hP [0, 5, 6, 1, 2, 3, 4] rfl
      have hD := va_D.part (X := [(h, .inr (6, [.ref hL, .ref hR, .int rs])), (hO, .inr (0, [.ref aO, .int (nI io), .int (nI Lo.length)])), (aO, .inl (cI, nO, .inl fo)), (hL, .inr (11, [.ref eE, .int (nI sts.length), .int mo])), (eE, .inl (cO, 10, .inr (.inr (.inr (.inr fE))))), (hR, .inr (0, [.ref aR, .int (nI ii), .int (nI LL.length)])), (aR, .inl (cI, 366, .inl ff))]) (cx := [(h, .inr (6, [.ref hL, .ref hR, .int rs])), (hR, .inr (0, [.ref aR, .int (nI ii), .int (nI LL.length)])), (aR, .inl (cI, 366, .inl ff)), (hO, .inr (0, [.ref aO, .int (nI io), .int (nI Lo.length)])), (aO, .inl (cI, nO, .inl fo)), (hL, .inr (11, [.ref eE, .int (nI sts.length), .int mo])), (eE, .inl (cO, 10, .inr (.inr (.inr (.inr fE)))))]) hD [0, 5, 6, 1, 2, 3, 4] (by decide) rfl
      refine fq_lp (σ := Nat × (Nat → Int32) × Nat × List Int32 × List va_W) (fun x => LL.length - x.1) (fun x H locs ls => (x.1 ≤ LL.length ∧ rw_ok 366 x.2.1 x.2.2.1 x.2.2.2.1 ∧ x.2.2.2.1.map Int32.toInt = (LL.map Int32.toInt).drop x.1 ++ fm_d sp false xs ((LL.map Int32.toInt).take x.1) ∧ ch_ok cI x.2.2.2.2 (stt.set a (hS0, sp, xs ++ (LL.map Int32.toInt).take x.1, fm_m sp false (xs.length + x.1)))) ∧ lv_has ls 7 [(0, .ref h), (1, .int (nI fr)), (2, .ref hO), (3, .int (nI a)), (4, .ref hS0), (5, .int (nI LL.length)), (6, .int (nI x.1))] ∧ va_P D fq_cl ([(h, .inr (6, [.ref hL, .ref hR, .int rs])), (hR, .inr (0, [.ref aR, .int (nI x.2.2.1), .int (nI x.2.2.2.1.length)])), (aR, .inl (cI, 366, .inl x.2.1)), (hO, .inr (0, [.ref aO, .int (nI io), .int (nI Lo.length)])), (aO, .inl (cI, nO, .inl fo)), (hL, .inr (11, [.ref eE, .int (nI sts.length), .int mo])), (eE, .inl (cO, 10, .inr (.inr (.inr (.inr fE)))))] ++ x.2.2.2.2.flatten) H ∧ va_D A ([(h, .inr (6, [.ref hL, .ref hR, .int rs])), (hR, .inr (0, [.ref aR, .int (nI x.2.2.1), .int (nI x.2.2.2.1.length)])), (aR, .inl (cI, 366, .inl x.2.1)), (hO, .inr (0, [.ref aO, .int (nI io), .int (nI Lo.length)])), (aO, .inl (cI, nO, .inl fo)), (hL, .inr (11, [.ref eE, .int (nI sts.length), .int mo])), (eE, .inl (cO, 10, .inr (.inr (.inr (.inr fE)))))] ++ x.2.2.2.2.flatten) ∧ va_S A s.heap H locs) ?_ (0, ff, ii, LL, Lc) _ _ _ ⟨ps_init hI2 ha hset0 hun, lv_sub hl [3, 4, 5, 6, 2, 1, 0] rfl, hP, hD, hS⟩
      rintro ⟨j, f2, i2, L2, Lg⟩ H locs ls ⟨hI38, hl, hP, hD, hS⟩ ih38
      have hI38 : j ≤ LL.length ∧ rw_ok 366 f2 i2 L2 ∧ L2.map Int32.toInt = (LL.map Int32.toInt).drop j ++ fm_d sp false xs ((LL.map Int32.toInt).take j) ∧ ch_ok cI Lg (stt.set a (hS0, sp, xs ++ (LL.map Int32.toInt).take j, fm_m sp false (xs.length + j))) := hI38
      have hl : lv_has ls 7 [(0, .ref h), (1, .int (nI fr)), (2, .ref hO), (3, .int (nI a)), (4, .ref hS0), (5, .int (nI LL.length)), (6, .int (nI j))] := hl
      have hP : va_P D fq_cl ([(h, .inr (6, [.ref hL, .ref hR, .int rs])), (hR, .inr (0, [.ref aR, .int (nI i2), .int (nI L2.length)])), (aR, .inl (cI, 366, .inl f2)), (hO, .inr (0, [.ref aO, .int (nI io), .int (nI Lo.length)])), (aO, .inl (cI, nO, .inl fo)), (hL, .inr (11, [.ref eE, .int (nI sts.length), .int mo])), (eE, .inl (cO, 10, .inr (.inr (.inr (.inr fE)))))] ++ Lg.flatten) _ := hP
      have hD : va_D A ([(h, .inr (6, [.ref hL, .ref hR, .int rs])), (hR, .inr (0, [.ref aR, .int (nI i2), .int (nI L2.length)])), (aR, .inl (cI, 366, .inl f2)), (hO, .inr (0, [.ref aO, .int (nI io), .int (nI Lo.length)])), (aO, .inl (cI, nO, .inl fo)), (hL, .inr (11, [.ref eE, .int (nI sts.length), .int mo])), (eE, .inl (cO, 10, .inr (.inr (.inr (.inr fE)))))] ++ Lg.flatten) := hD
      have hset := ps_set hI2 ha hset0 (xs ++ (LL.map Int32.toInt).take j) (fm_m sp false (xs.length + j))
      refine lv_iload K.1 K.2.1 dc_Chain_passThrough_38 (lv_at hl 6 rfl) ?_
      refine lv_iload K.1 K.2.1 dc_Chain_passThrough_40 (lv_at hl 5 rfl) ?_
      refine lv_icmp_ge (tgt := 69) K.1 K.2.1 dc_Chain_passThrough_42 rfl (fun b42 => ?_) (fun b42 => ?_)
      · skip
        have hj : j = LL.length := by rw [nI_leI (by omega) (by omega)] at b42; omega
        refine lv_iinc (v := nI (a + 1)) K.1 K.2.1 dc_Chain_passThrough_69 hl (k := 3) rfl (nI_1 a) (by decide) rfl (fun ls hl => ?_)
        have hl : lv_has ls 7 [(3, .int (nI (a + 1))), (0, .ref h), (1, .int (nI fr)), (2, .ref hO), (4, .ref hS0), (5, .int (nI LL.length)), (6, .int (nI j))] := hl
        refine lv_goto (tgt := 2) K.1 K.2.1 dc_Chain_passThrough_72 rfl ?_
        exact ih2 (a + 1, f2, i2, L2, Lg, stt.set a (hS0, sp, xs ++ LL.map Int32.toInt, fm_m sp false (xs.length + LL.length))) _ _ _ (by show sts.length - (a + 1) < sts.length - a; omega) ⟨ps_next hI2 ha hset0 hI38 hj, lv_sub hl [1, 2, 3, 0] rfl, hP, hD, hS⟩
      · skip
        have hj : j < LL.length := by rw [nI_leI (by omega) (by omega)] at b42; omega
        refine lv_aload_n K.1 K.2.1 dc_Chain_passThrough_45 rfl (lv_at hl 0 rfl) ?_
        refine lv_aload K.1 K.2.1 dc_Chain_passThrough_46 (lv_at hl 4 rfl) ?_
        refine lv_aload K.1 K.2.1 dc_Chain_passThrough_48 (lv_at hl 4 rfl) ?_
        refine lv_aload_n K.1 K.2.1 dc_Chain_passThrough_50 rfl (lv_at hl 0 rfl) ?_
        refine fq_get K hK cl_Chain hP 0 1 rfl (by decide) wd_106 rfl dc_Chain_passThrough_51 ?_
        have hc := fq_cutT (X := [(h, .inr (6, [.ref hL, .ref hR, .int rs])), (hR, .inr (0, [.ref aR, .int (nI i2), .int (nI L2.length)])), (aR, .inl (cI, 366, .inl f2)), (hO, .inr (0, [.ref aO, .int (nI io), .int (nI Lo.length)])), (aO, .inl (cI, nO, .inl fo)), (hL, .inr (11, [.ref eE, .int (nI sts.length), .int mo])), (eE, .inl (cO, 10, .inr (.inr (.inr (.inr fE)))))]) (T := Lg.flatten) (cx := [(hR, .inr (0, [.ref aR, .int (nI i2), .int (nI L2.length)])), (aR, .inl (cI, 366, .inl f2))]) hP hD hS hA [1, 2] (by decide) rfl
        refine fq_ciT (wr := [(h, .inr (6, [.ref hL, .ref hR, .int rs])), (hO, .inr (0, [.ref aO, .int (nI io), .int (nI Lo.length)])), (aO, .inl (cI, nO, .inl fo)), (hL, .inr (11, [.ref eE, .int (nI sts.length), .int mo])), (eE, .inl (cO, 10, .inr (.inr (.inr (.inr fE)))))]) (fq_rV K hK hZ hS hc (ct_Row_takeOldest l D cI cO tE hR aR 366 f2 i2 L2 hI38.2.1 _) yk_Row_takeOldest wd_583 wd_584 wd_612 0 rfl rfl rfl ⟨⟨rfl, rfl⟩, ⟨Nat.le_of_ble_eq_true rfl, Nat.le_of_ble_eq_true rfl⟩, ⟨Nat.le_of_ble_eq_true rfl, Nat.le_of_ble_eq_true rfl⟩⟩ hl.1 rfl (Nat.le_of_ble_eq_true rfl) dc_Chain_passThrough_54) hP hD hS hc [1, 2] [0, 3, 4, 5, 6] rfl rfl (by decide) (by decide) (fun r9 w H locs hw11 hP hD hS => ?_)
        obtain ⟨j3, rfl, rfl, hrow5⟩ := hw11
        have hP : va_P D fq_cl ([(h, .inr (6, [.ref hL, .ref hR, .int rs])), (hO, .inr (0, [.ref aO, .int (nI io), .int (nI Lo.length)])), (aO, .inl (cI, nO, .inl fo)), (hL, .inr (11, [.ref eE, .int (nI sts.length), .int mo])), (eE, .inl (cO, 10, .inr (.inr (.inr (.inr fE))))), (hR, .inr (0, [.ref aR, .int (nI j3), .int (nI L2.tail.length)])), (aR, .inl (cI, 366, .inl f2))] ++ Lg.flatten) _ := hP
        have hD : va_D A ([(h, .inr (6, [.ref hL, .ref hR, .int rs])), (hO, .inr (0, [.ref aO, .int (nI io), .int (nI Lo.length)])), (aO, .inl (cI, nO, .inl fo)), (hL, .inr (11, [.ref eE, .int (nI sts.length), .int mo])), (eE, .inl (cO, 10, .inr (.inr (.inr (.inr fE))))), (hR, .inr (0, [.ref aR, .int (nI j3), .int (nI L2.tail.length)])), (aR, .inl (cI, 366, .inl f2))] ++ Lg.flatten) := hD
        have hP := va_P.part (X := [(h, .inr (6, [.ref hL, .ref hR, .int rs])), (hO, .inr (0, [.ref aO, .int (nI io), .int (nI Lo.length)])), (aO, .inl (cI, nO, .inl fo)), (hL, .inr (11, [.ref eE, .int (nI sts.length), .int mo])), (eE, .inl (cO, 10, .inr (.inr (.inr (.inr fE))))), (hR, .inr (0, [.ref aR, .int (nI j3), .int (nI L2.tail.length)])), (aR, .inl (cI, 366, .inl f2))]) (cx := [(h, .inr (6, [.ref hL, .ref hR, .int rs])), (hR, .inr (0, [.ref aR, .int (nI j3), .int (nI L2.tail.length)])), (aR, .inl (cI, 366, .inl f2)), (hO, .inr (0, [.ref aO, .int (nI io), .int (nI Lo.length)])), (aO, .inl (cI, nO, .inl fo)), (hL, .inr (11, [.ref eE, .int (nI sts.length), .int mo])), (eE, .inl (cO, 10, .inr (.inr (.inr (.inr fE)))))]) hP [0, 5, 6, 1, 2, 3, 4] rfl
        have hD := va_D.part (X := [(h, .inr (6, [.ref hL, .ref hR, .int rs])), (hO, .inr (0, [.ref aO, .int (nI io), .int (nI Lo.length)])), (aO, .inl (cI, nO, .inl fo)), (hL, .inr (11, [.ref eE, .int (nI sts.length), .int mo])), (eE, .inl (cO, 10, .inr (.inr (.inr (.inr fE))))), (hR, .inr (0, [.ref aR, .int (nI j3), .int (nI L2.tail.length)])), (aR, .inl (cI, 366, .inl f2))]) (cx := [(h, .inr (6, [.ref hL, .ref hR, .int rs])), (hR, .inr (0, [.ref aR, .int (nI j3), .int (nI L2.tail.length)])), (aR, .inl (cI, 366, .inl f2)), (hO, .inr (0, [.ref aO, .int (nI io), .int (nI Lo.length)])), (aO, .inl (cI, nO, .inl fo)), (hL, .inr (11, [.ref eE, .int (nI sts.length), .int mo])), (eE, .inl (cO, 10, .inr (.inr (.inr (.inr fE)))))]) hD [0, 5, 6, 1, 2, 3, 4] (by decide) rfl
        obtain ⟨hxj, hxin, hlen, hlt, hmb, hcap3, hm1, hm2, hm3⟩ := ps_cond hI2 ha hset0 hun hfit hI38 hj
        obtain ⟨g1, hg1, hsg1⟩ := ch_get hI38.2.2.2 hset
        have hcg := fq_cutR (fq_gone (X := [(h, .inr (6, [.ref hL, .ref hR, .int rs])), (hR, .inr (0, [.ref aR, .int (nI j3), .int (nI L2.tail.length)])), (aR, .inl (cI, 366, .inl f2)), (hO, .inr (0, [.ref aO, .int (nI io), .int (nI Lo.length)])), (aO, .inl (cI, nO, .inl fo)), (hL, .inr (11, [.ref eE, .int (nI sts.length), .int mo])), (eE, .inl (cO, 10, .inr (.inr (.inr (.inr fE)))))]) hg1) hP hD hS hA
        refine fq_ciR (sg_run_take K hK hZ hS hcg hsg1 (L2.headD 0) (congrArg (fm_m sp false) hlen.symm) hxin hlt hmb (Nat.le_of_ble_eq_true rfl) (Nat.le_of_ble_eq_true rfl) (Nat.le_of_ble_eq_true rfl) (Nat.le_of_ble_eq_true rfl) hl.1 (Nat.le_of_ble_eq_true rfl) dc_Chain_passThrough_57) hP hD hS hcg (fq_gone (X := [(h, .inr (6, [.ref hL, .ref hR, .int rs])), (hR, .inr (0, [.ref aR, .int (nI j3), .int (nI L2.tail.length)])), (aR, .inl (cI, 366, .inl f2)), (hO, .inr (0, [.ref aO, .int (nI io), .int (nI Lo.length)])), (aO, .inl (cI, nO, .inl fo)), (hL, .inr (11, [.ref eE, .int (nI sts.length), .int mo])), (eE, .inl (cO, 10, .inr (.inr (.inr (.inr fE)))))]) hg1) (fun r2 g2 H locs hw2 hP hD hS => ?_)
        have hP := fq_permP (fq_gback (X := [(h, .inr (6, [.ref hL, .ref hR, .int rs])), (hR, .inr (0, [.ref aR, .int (nI j3), .int (nI L2.tail.length)])), (aR, .inl (cI, 366, .inl f2)), (hO, .inr (0, [.ref aO, .int (nI io), .int (nI Lo.length)])), (aO, .inl (cI, nO, .inl fo)), (hL, .inr (11, [.ref eE, .int (nI sts.length), .int mo])), (eE, .inl (cO, 10, .inr (.inr (.inr (.inr fE)))))]) hg1) hP
        have hD := fq_permD (fq_gback (X := [(h, .inr (6, [.ref hL, .ref hR, .int rs])), (hR, .inr (0, [.ref aR, .int (nI j3), .int (nI L2.tail.length)])), (aR, .inl (cI, 366, .inl f2)), (hO, .inr (0, [.ref aO, .int (nI io), .int (nI Lo.length)])), (aO, .inl (cI, nO, .inl fo)), (hL, .inr (11, [.ref eE, .int (nI sts.length), .int mo])), (eE, .inl (cO, 10, .inr (.inr (.inr (.inr fE)))))]) hg1) hD
        obtain ⟨rfl, hsg2⟩ := hw2
        have hg2 : (Lg.set a g2)[a]? = some g2 := ch_set hg1
        have hP : va_P D fq_cl ([(h, .inr (6, [.ref hL, .ref hR, .int rs])), (hR, .inr (0, [.ref aR, .int (nI j3), .int (nI L2.tail.length)])), (aR, .inl (cI, 366, .inl f2)), (hO, .inr (0, [.ref aO, .int (nI io), .int (nI Lo.length)])), (aO, .inl (cI, nO, .inl fo)), (hL, .inr (11, [.ref eE, .int (nI sts.length), .int mo])), (eE, .inl (cO, 10, .inr (.inr (.inr (.inr fE)))))] ++ (Lg.set a g2).flatten) _ := hP
        have hD : va_D A ([(h, .inr (6, [.ref hL, .ref hR, .int rs])), (hR, .inr (0, [.ref aR, .int (nI j3), .int (nI L2.tail.length)])), (aR, .inl (cI, 366, .inl f2)), (hO, .inr (0, [.ref aO, .int (nI io), .int (nI Lo.length)])), (aO, .inl (cI, nO, .inl fo)), (hL, .inr (11, [.ref eE, .int (nI sts.length), .int mo])), (eE, .inl (cO, 10, .inr (.inr (.inr (.inr fE)))))] ++ (Lg.set a g2).flatten) := hD
        have hcm := fq_cutR (fq_gx (X := [(h, .inr (6, [.ref hL, .ref hR, .int rs])), (hR, .inr (0, [.ref aR, .int (nI j3), .int (nI L2.tail.length)])), (aR, .inl (cI, 366, .inl f2))]) (Y := [(hO, .inr (0, [.ref aO, .int (nI io), .int (nI Lo.length)])), (aO, .inl (cI, nO, .inl fo)), (hL, .inr (11, [.ref eE, .int (nI sts.length), .int mo])), (eE, .inl (cO, 10, .inr (.inr (.inr (.inr fE)))))]) hg2) hP hD hS hA
        refine fq_cvR (fq_rV K hK hZ hS hcm (ct_Chain_makeSamples l D cI cO tE h hL hR aR rs f2 j3 L2.tail hS0 (fm_m sp false ((xs ++ (LL.map Int32.toInt).take j).length + 1) - (fm_m sp false (xs.length + j))) sp ((xs ++ (LL.map Int32.toInt).take j) ++ [(L2.headD 0).toInt]) (fm_m sp false (xs.length + j)) g2 hrow5 hsg2 hcap3 hm1 hm2 hm3 _) yk_Chain_makeSamples wd_643 wd_10 wd_641 0 rfl rfl rfl ⟨⟨rfl, rfl⟩, ⟨Nat.le_of_ble_eq_true rfl, Nat.le_of_ble_eq_true rfl⟩, ⟨Nat.le_of_ble_eq_true rfl, Nat.le_of_ble_eq_true rfl⟩⟩ hl.1 rfl (Nat.le_of_ble_eq_true rfl) dc_Chain_passThrough_60) hP hD hS hcm (fq_gx (X := [(h, .inr (6, [.ref hL, .ref hR, .int rs])), (hR, .inr (0, [.ref aR, .int (nI j3), .int (nI L2.tail.length)])), (aR, .inl (cI, 366, .inl f2))]) (Y := [(hO, .inr (0, [.ref aO, .int (nI io), .int (nI Lo.length)])), (aO, .inl (cI, nO, .inl fo)), (hL, .inr (11, [.ref eE, .int (nI sts.length), .int mo])), (eE, .inl (cO, 10, .inr (.inr (.inr (.inr fE)))))]) hg2) (fun w H locs hw hP hD hS => ?_)
        obtain ⟨f3, L3, g3, rfl, hr3, hL3, hsg3⟩ := hw
        have hP := fq_permP (fq_gy (X := [(h, .inr (6, [.ref hL, .ref hR, .int rs])), (hR, .inr (0, [.ref aR, .int (nI j3), .int (nI L3.length)])), (aR, .inl (cI, 366, .inl f3))]) (Y := [(hO, .inr (0, [.ref aO, .int (nI io), .int (nI Lo.length)])), (aO, .inl (cI, nO, .inl fo)), (hL, .inr (11, [.ref eE, .int (nI sts.length), .int mo])), (eE, .inl (cO, 10, .inr (.inr (.inr (.inr fE)))))]) hg2) hP
        have hD := fq_permD (fq_gy (X := [(h, .inr (6, [.ref hL, .ref hR, .int rs])), (hR, .inr (0, [.ref aR, .int (nI j3), .int (nI L3.length)])), (aR, .inl (cI, 366, .inl f3))]) (Y := [(hO, .inr (0, [.ref aO, .int (nI io), .int (nI Lo.length)])), (aO, .inl (cI, nO, .inl fo)), (hL, .inr (11, [.ref eE, .int (nI sts.length), .int mo])), (eE, .inl (cO, 10, .inr (.inr (.inr (.inr fE)))))]) hg2) hD
        rw [List.set_set] at hP hD
        have hP : va_P D fq_cl ([(h, .inr (6, [.ref hL, .ref hR, .int rs])), (hR, .inr (0, [.ref aR, .int (nI j3), .int (nI L3.length)])), (aR, .inl (cI, 366, .inl f3)), (hO, .inr (0, [.ref aO, .int (nI io), .int (nI Lo.length)])), (aO, .inl (cI, nO, .inl fo)), (hL, .inr (11, [.ref eE, .int (nI sts.length), .int mo])), (eE, .inl (cO, 10, .inr (.inr (.inr (.inr fE)))))] ++ (Lg.set a g3).flatten) _ := hP
        have hD : va_D A ([(h, .inr (6, [.ref hL, .ref hR, .int rs])), (hR, .inr (0, [.ref aR, .int (nI j3), .int (nI L3.length)])), (aR, .inl (cI, 366, .inl f3)), (hO, .inr (0, [.ref aO, .int (nI io), .int (nI Lo.length)])), (aO, .inl (cI, nO, .inl fo)), (hL, .inr (11, [.ref eE, .int (nI sts.length), .int mo])), (eE, .inl (cO, 10, .inr (.inr (.inr (.inr fE)))))] ++ (Lg.set a g3).flatten) := hD
        refine lv_iinc (v := nI (j + 1)) K.1 K.2.1 dc_Chain_passThrough_63 hl (k := 6) rfl (nI_1 j) (by decide) rfl (fun ls hl => ?_)
        have hl : lv_has ls 7 [(6, .int (nI (j + 1))), (0, .ref h), (1, .int (nI fr)), (2, .ref hO), (3, .int (nI a)), (4, .ref hS0), (5, .int (nI LL.length))] := hl
        refine lv_goto (tgt := 38) K.1 K.2.1 dc_Chain_passThrough_66 rfl ?_
        exact ih38 (j + 1, f3, j3, L3, Lg.set a g3) _ _ _ (by show LL.length - (j + 1) < LL.length - j; omega) ⟨ps_step hI2 ha hset0 hun hI38 hj hxj hlen hr3 hL3 hsg3 hg1, lv_sub hl [1, 2, 3, 4, 5, 6, 0] rfl, hP, hD, hS⟩
end
section
theorem wd_59 : Cond.instanceMethod my_Chain_init ∈ fq_TB := fq_in 59 (by decide +kernel) rfl
theorem wd_60 : Cond.code my_Chain_init cb_Chain_init 1 none ∈ fq_TB := fq_in 60 (by decide +kernel) rfl
theorem wd_61 : Cond.methodLink cn_Chain 3 my_Oj_init ∈ fq_TB := fq_in 61 (by decide +kernel) rfl
theorem wd_62 : Cond.classLink cn_Chain 9 cn_AL ∈ fq_TB := fq_in 62 (by decide +kernel) rfl
theorem wd_63 : Cond.instantiable cn_AL 3 ∈ fq_TB := fq_in 63 (by decide +kernel) rfl
theorem wd_64 : Cond.methodLink cn_Chain 11 my_AL_init ∈ fq_TB := fq_in 64 (by decide +kernel) rfl
theorem wd_88 : Cond.classLink cn_Chain 18 cn_Row ∈ fq_TB := fq_in 88 (by decide +kernel) rfl
theorem wd_89 : Cond.instantiable cn_Row 3 ∈ fq_TB := fq_in 89 (by decide +kernel) rfl
theorem wd_90 : Cond.methodLink cn_Chain 20 my_Row_init ∈ fq_TB := fq_in 90 (by decide +kernel) rfl
theorem wd_107 : Cond.fieldLink cn_Chain 37 cn_Chain "resamplers" "I" ∈ fq_TB := fq_in 107 (by decide +kernel) rfl
theorem wd_514 : Cond.instanceMethod my_Chain_forgetSamples ∈ fq_TB := fq_in 514 (by decide +kernel) rfl
theorem wd_515 : Cond.selects cn_Chain my_Chain_forgetSamples my_Chain_forgetSamples ∈ fq_TB := fq_in 515 (by decide +kernel) rfl
theorem wd_516 : Cond.code my_Chain_forgetSamples cb_Chain_forgetSamples 2 none ∈ fq_TB := fq_in 516 (by decide +kernel) rfl
theorem wd_603 : Cond.instanceMethod my_Chain_work ∈ fq_TB := fq_in 603 (by decide +kernel) rfl
theorem wd_604 : Cond.selects cn_Chain my_Chain_work my_Chain_work ∈ fq_TB := fq_in 604 (by decide +kernel) rfl
theorem wd_605 : Cond.code my_Chain_work cb_Chain_work 3 none ∈ fq_TB := fq_in 605 (by decide +kernel) rfl
theorem wd_607 : Cond.methodLink cn_Chain 50 my_Chain_passThrough ∈ fq_TB := fq_in 607 (by decide +kernel) rfl
theorem wd_688 : Cond.instanceMethod my_Chain_flush ∈ fq_TB := fq_in 688 (by decide +kernel) rfl
theorem wd_689 : Cond.selects cn_Chain my_Chain_flush my_Chain_flush ∈ fq_TB := fq_in 689 (by decide +kernel) rfl
theorem wd_690 : Cond.code my_Chain_flush cb_Chain_flush 4 none ∈ fq_TB := fq_in 690 (by decide +kernel) rfl

theorem fq_nil {ws : va_W} : ws.Perm (ws ++ []) := by rw [List.append_nil]
/-- what a stage lets out at its flush -/
def fl_e (sp : fm_S) (xs : List Int) (m : Nat) : List Int := (List.range (fm_m sp true xs.length - m)).map (fun z => fm_y sp xs (m + z))
def fl_one (sts : List ch_T) (a : Nat) : List ch_T × List Int := match sts[a]? with
  | some s => ch_it (sts.set a (s.1, s.2.1, s.2.2.1, s.2.2.2 + (fm_m s.2.1 true s.2.2.1.length - s.2.2.2))) (a + 1) (fl_e s.2.1 s.2.2.1 s.2.2.2) (sts.length - (a + 1))
  | none => (sts, [])
def fl_it (sts : List ch_T) : Nat → List ch_T × List Int
  | 0 => (sts, [])
  | a + 1 => ((fl_one (fl_it sts a).1 a).1, (fl_it sts a).2 ++ (fl_one (fl_it sts a).1 a).2)
def fl_fit (sts : List ch_T) (Lo : List Int32) (nO : Nat) : Prop := ∀ (a : Nat) (s : ch_T), a < sts.length → (fl_it sts a).1[a]? = some s → s.2.2.2 = fm_m s.2.1 false s.2.2.1.length ∧ s.2.2.1.length < 50000 ∧ (fl_e s.2.1 s.2.2.1 s.2.2.2).length ≤ 366
  ∧ ch_un ((fl_it sts a).1.set a (s.1, s.2.1, s.2.2.1, s.2.2.2 + (fm_m s.2.1 true s.2.2.1.length - s.2.2.2))) (a + 1) ∧ ch_fit ((fl_it sts a).1.set a (s.1, s.2.1, s.2.2.1, s.2.2.2 + (fm_m s.2.1 true s.2.2.1.length - s.2.2.2))) (a + 1) (fl_e s.2.1 s.2.2.1 s.2.2.2) ∧ Lo.length + (fl_it sts (a + 1)).2.length ≤ nO
theorem fl_len {sts : List ch_T} : ∀ {a : Nat}, (fl_it sts a).1.length = sts.length
  | 0 => rfl
  | a + 1 => by
    have ih := fl_len (sts := sts) (a := a)
    show (fl_one (fl_it sts a).1 a).1.length = sts.length
    unfold fl_one
    split
    · rw [ch_it_len, List.length_set]; exact ih
    · exact ih
theorem ch_it_ad {sts : List ch_T} {k : Nat} {q : List Int} : ∀ {n j : Nat}, ((ch_it sts k q n).1[j]?).map (·.1) = (sts[j]?).map (·.1)
  | 0, j => rfl
  | n + 1, j => by
    have ih := ch_it_ad (sts := sts) (k := k) (q := q) (n := n) (j := j)
    show ((ch_one (ch_it sts k q n).1 (k + n) (ch_it sts k q n).2).1[j]?).map (·.1) = _
    unfold ch_one
    split
    · rename_i s hs
      by_cases c : k + n = j
      · subst c
        rw [List.getElem?_set_self (List.getElem?_eq_some_iff.mp hs).1, ← ih, hs]; rfl
      · rw [List.getElem?_set_ne c]; exact ih
    · exact ih
theorem fl_ads {sts : List ch_T} : ∀ {a j : Nat}, ((fl_it sts a).1[j]?).map (·.1) = (sts[j]?).map (·.1)
  | 0, j => rfl
  | a + 1, j => by
    have ih := fl_ads (sts := sts) (a := a) (j := j)
    show ((fl_one (fl_it sts a).1 a).1[j]?).map (·.1) = _
    unfold fl_one
    split
    · rename_i s hs
      rw [ch_it_ad]
      by_cases c : a = j
      · subst c
        rw [List.getElem?_set_self (List.getElem?_eq_some_iff.mp hs).1, ← ih, hs]; rfl
      · rw [List.getElem?_set_ne c]; exact ih
    · exact ih
theorem fl_ad {sts : List ch_T} {f : Nat → Option Nat} {a : Nat} {s : ch_T} (hf : ∀ (k : Nat) (s : ch_T), sts[k]? = some s → f k = some s.1) (h : (fl_it sts a).1[a]? = some s) : f a = some s.1 := by
  have e := fl_ads (sts := sts) (a := a) (j := a)
  rw [h] at e
  cases hs : sts[a]? with
  | none => rw [hs] at e; simp at e
  | some t =>
    rw [hs] at e
    have e : some s.1 = some t.1 := e
    rw [hf a t hs, ← e]
theorem fl_cond {sts : List ch_T} {Lo : List Int32} {nO a hS0 : Nat} {sp : fm_S} {xs : List Int} {m0 : Nat} (hff : fl_fit sts Lo nO) (ha : a < sts.length) (hs : (fl_it sts a).1[a]? = some (hS0, sp, xs, m0)) (hok : fm_ok sp) :
    m0 = fm_m sp false xs.length ∧ ([] : List Int32).length + (fm_m sp true xs.length - m0) ≤ 366 ∧ fm_m sp false (xs.length - 1) ≤ m0 ∧ m0 + (fm_m sp true xs.length - m0) ≤ fm_m sp true xs.length ∧ m0 + (fm_m sp true xs.length - m0) < 299000 := by
  obtain ⟨h1, h2, h3, -⟩ := hff a _ ha hs
  have h1 : m0 = fm_m sp false xs.length := h1
  have h2 : xs.length < 50000 := h2
  have h3 : (fl_e sp xs m0).length ≤ 366 := h3
  unfold fl_e at h3
  rw [List.length_map, List.length_range] at h3
  have b1 := fm_m_le hok true (Nat.le_refl xs.length)
  have b2 := fm_m_le hok false (show xs.length - 1 ≤ xs.length by omega)
  have b3 := fm_m_bd hok (fl := true) (n := xs.length)
  refine ⟨h1, ?_, ?_, ?_, ?_⟩
  · rw [List.length_nil]; omega
  · omega
  · omega
  · omega
theorem fl_ch1 {cI : ClassId} {Lc : List va_W} {sts : List ch_T} {a hS0 : Nat} {sp : fm_S} {xs : List Int} {m0 m1 : Nat} {g3 : va_W} (h : ch_ok cI Lc sts) (hs : sts[a]? = some (hS0, sp, xs, m0)) (hsg : sg_ok cI hS0 sp xs m1 g3) : ch_ok cI (Lc.set a g3) (sts.set a (hS0, sp, xs, m1)) := ch_upd (s := (hS0, sp, xs, m1)) h hsg
theorem fl_oneE {sts : List ch_T} {a hS0 : Nat} {sp : fm_S} {xs : List Int} {m0 : Nat} (hs : sts[a]? = some (hS0, sp, xs, m0)) : fl_one sts a = ch_it (sts.set a (hS0, sp, xs, m0 + (fm_m sp true xs.length - m0))) (a + 1) (fl_e sp xs m0) ((sts.set a (hS0, sp, xs, m0 + (fm_m sp true xs.length - m0))).length - (a + 1)) := by
  unfold fl_one
  simp only [hs]
  rw [List.length_set]
theorem fl_pre {sts : List ch_T} {Lo Lo2 : List Int32} {nO a hS0 : Nat} {sp : fm_S} {xs : List Int} {m0 : Nat} (hff : fl_fit sts Lo nO) (ha : a < sts.length) (hs : (fl_it sts a).1[a]? = some (hS0, sp, xs, m0)) (hl : Lo2.map Int32.toInt = Lo.map Int32.toInt ++ (fl_it sts a).2) :
    ch_un ((fl_it sts a).1.set a (hS0, sp, xs, m0 + (fm_m sp true xs.length - m0))) (a + 1) ∧ ch_fit ((fl_it sts a).1.set a (hS0, sp, xs, m0 + (fm_m sp true xs.length - m0))) (a + 1) (fl_e sp xs m0) ∧ Lo2.length + (ch_it ((fl_it sts a).1.set a (hS0, sp, xs, m0 + (fm_m sp true xs.length - m0))) (a + 1) (fl_e sp xs m0) (((fl_it sts a).1.set a (hS0, sp, xs, m0 + (fm_m sp true xs.length - m0))).length - (a + 1))).2.length ≤ nO := by
  obtain ⟨-, -, -, h4, h5, h6⟩ := hff a _ ha hs
  refine ⟨h4, h5, ?_⟩
  have h6 : Lo.length + ((fl_it sts a).2 ++ (fl_one (fl_it sts a).1 a).2).length ≤ nO := h6
  rw [List.length_append, fl_oneE hs] at h6
  have e := congrArg List.length hl
  rw [List.length_map, List.length_append, List.length_map] at e
  omega
theorem fl_out {cI : ClassId} {sts : List ch_T} {ff fo2 : Nat → Int32} {Lo Lo2 Lo5 L3 : List Int32} {nO io ii a hS0 : Nat} {Lc : List va_W} {sp : fm_S} {xs : List Int} {m0 : Nat} (hI : a ≤ sts.length ∧ rw_ok 366 ff ii [] ∧ rw_ok nO fo2 io Lo2 ∧ Lo2.map Int32.toInt = Lo.map Int32.toInt ++ (fl_it sts a).2 ∧ ch_ok cI Lc (fl_it sts a).1) (hs : (fl_it sts a).1[a]? = some (hS0, sp, xs, m0))
    (h5 : Lo5.map Int32.toInt = Lo2.map Int32.toInt ++ (ch_it ((fl_it sts a).1.set a (hS0, sp, xs, m0 + (fm_m sp true xs.length - m0))) (a + 1) (L3.map Int32.toInt) (((fl_it sts a).1.set a (hS0, sp, xs, m0 + (fm_m sp true xs.length - m0))).length - (a + 1))).2) (hL3 : L3.map Int32.toInt = fl_e sp xs m0 := by assumption) : Lo5.map Int32.toInt = Lo.map Int32.toInt ++ (fl_it sts (a + 1)).2 := by
  rw [hL3, ← fl_oneE hs, hI.2.2.2.1, List.append_assoc] at h5
  exact h5
theorem fl_ch {cI : ClassId} {sts : List ch_T} {L3 : List Int32} {a hS0 : Nat} {Ls5 : List va_W} {sp : fm_S} {xs : List Int} {m0 : Nat} (hs : (fl_it sts a).1[a]? = some (hS0, sp, xs, m0)) (h5 : ch_ok cI Ls5 (ch_it ((fl_it sts a).1.set a (hS0, sp, xs, m0 + (fm_m sp true xs.length - m0))) (a + 1) (L3.map Int32.toInt) (((fl_it sts a).1.set a (hS0, sp, xs, m0 + (fm_m sp true xs.length - m0))).length - (a + 1))).1) (hL3 : L3.map Int32.toInt = fl_e sp xs m0 := by assumption) : ch_ok cI Ls5 (fl_it sts (a + 1)).1 := by
  rw [hL3, ← fl_oneE hs] at h5
  exact h5
theorem fl_al {tE : Nat} {cO : ClassId} {hL e : Nat} {mo : Int32} {f : Nat → Option Nat} {sts : List ch_T} {a hS0 : Nat} {sp : fm_S} {xs : List Int} {m0 m1 : Nat} (hle : sts.length ≤ 5) (hf : ∀ (k : Nat) (s : ch_T), sts[k]? = some s → f k = some s.1) (hs : (fl_it sts a).1[a]? = some (hS0, sp, xs, m0)) :
    al_W tE cO hL ((fl_it sts a).1.set a (hS0, sp, xs, m1)) [(hL, .inr (11, [.ref e, .int (nI sts.length), .int mo])), (e, .inl (cO, 10, .inr (.inr (.inr (.inr f)))))] := by
  have hl : ((fl_it sts a).1.set a (hS0, sp, xs, m1)).length = sts.length := by rw [List.length_set, fl_len]
  refine Or.inr ⟨e, mo, f, by rw [hl], by rw [hl]; exact hle, fun k s hk => ?_⟩
  have e1 := fl_ads (sts := sts) (a := a) (j := k)
  have e2 : (((fl_it sts a).1.set a (hS0, sp, xs, m1))[k]?).map (·.1) = (sts[k]?).map (·.1) := by
    by_cases c : a = k
    · subst c
      rw [List.getElem?_set_self (List.getElem?_eq_some_iff.mp hs).1, ← e1, hs]; rfl
    · rw [List.getElem?_set_ne c]; exact e1
  rw [hk] at e2
  cases hs2 : sts[k]? with
  | none => rw [hs2] at e2; simp at e2
  | some t =>
    rw [hs2] at e2
    have e2 : some s.1 = some t.1 := e2
    rw [hf k t hs2, ← e2]
/-- all forgotten, one by one -/
def cr_it (sts : List ch_T) : Nat → List ch_T
  | 0 => sts
  | a + 1 => match sts[a]? with
    | some s => (cr_it sts a).set a (s.1, s.2.1, [], 0)
    | none => cr_it sts a
theorem cr_ge {sts : List ch_T} : ∀ {a j : Nat}, a ≤ j → (cr_it sts a)[j]? = sts[j]?
  | 0, j, _ => rfl
  | a + 1, j, h => by
    have ih := cr_ge (sts := sts) (a := a) (j := j) (by omega)
    show (match sts[a]? with | some s => (cr_it sts a).set a (s.1, s.2.1, [], 0) | none => cr_it sts a)[j]? = _
    split
    · rw [List.getElem?_set_ne (by omega)]; exact ih
    · exact ih
theorem cr_cur {sts : List ch_T} {a hS0 : Nat} {sp : fm_S} {xs : List Int} {m0 : Nat} (h : sts[a]? = some (hS0, sp, xs, m0)) : (cr_it sts a)[a]? = some (hS0, sp, xs, m0) := by rw [cr_ge (Nat.le_refl _), h]
theorem cr_ch {cI : ClassId} {Lc : List va_W} {sts : List ch_T} {a hS0 : Nat} {sp : fm_S} {xs : List Int} {m0 : Nat} {g2 : va_W} (h : ch_ok cI Lc (cr_it sts a)) (hs : sts[a]? = some (hS0, sp, xs, m0)) (hsg : sg_ok cI hS0 sp [] 0 g2) : ch_ok cI (Lc.set a g2) (cr_it sts (a + 1)) := by
  have e : cr_it sts (a + 1) = (cr_it sts a).set a (hS0, sp, [], 0) := by
    show (match sts[a]? with | some s => (cr_it sts a).set a (s.1, s.2.1, [], 0) | none => cr_it sts a) = _
    rw [hs]
  rw [e]
  exact ch_upd (s := (hS0, sp, [], 0)) h hsg

theorem dc_Chain_work_0 : decode cb_Chain_work 0 = .ok (.aload_n 0, 1) := by decide +kernel
theorem dc_Chain_work_1 : decode cb_Chain_work 1 = .ok (.getfield 23, 3) := by decide +kernel
theorem dc_Chain_work_4 : decode cb_Chain_work 4 = .ok (.iload_n 1, 1) := by decide +kernel
theorem dc_Chain_work_5 : decode cb_Chain_work 5 = .ok (.invokevirtual 48, 3) := by decide +kernel
theorem dc_Chain_work_8 : decode cb_Chain_work 8 = .ok (.aload_n 0, 1) := by decide +kernel
theorem dc_Chain_work_9 : decode cb_Chain_work 9 = .ok (.iconst 0, 1) := by decide +kernel
theorem dc_Chain_work_10 : decode cb_Chain_work 10 = .ok (.aload_n 2, 1) := by decide +kernel
theorem dc_Chain_work_11 : decode cb_Chain_work 11 = .ok (.invokevirtual 50, 3) := by decide +kernel
theorem dc_Chain_work_14 : decode cb_Chain_work 14 = .ok (.return_, 1) := by decide +kernel
theorem yk_Chain_work : fq_Y my_Chain_work cb_Chain_work 3 none 2 := ⟨wd_605, wd_27, by decide +kernel⟩
theorem dc_Chain_flush_0 : decode cb_Chain_flush 0 = .ok (.iconst 0, 1) := by decide +kernel
theorem dc_Chain_flush_1 : decode cb_Chain_flush 1 = .ok (.istore_n 2, 1) := by decide +kernel
theorem dc_Chain_flush_2 : decode cb_Chain_flush 2 = .ok (.iload_n 2, 1) := by decide +kernel
theorem dc_Chain_flush_3 : decode cb_Chain_flush 3 = .ok (.aload_n 0, 1) := by decide +kernel
theorem dc_Chain_flush_4 : decode cb_Chain_flush 4 = .ok (.getfield 12, 3) := by decide +kernel
theorem dc_Chain_flush_7 : decode cb_Chain_flush 7 = .ok (.invokevirtual 27, 3) := by decide +kernel
theorem dc_Chain_flush_10 : decode cb_Chain_flush 10 = .ok (.if_icmp .ge 38, 3) := by decide +kernel
theorem dc_Chain_flush_13 : decode cb_Chain_flush 13 = .ok (.aload_n 0, 1) := by decide +kernel
theorem dc_Chain_flush_14 : decode cb_Chain_flush 14 = .ok (.getfield 12, 3) := by decide +kernel
theorem dc_Chain_flush_17 : decode cb_Chain_flush 17 = .ok (.iload_n 2, 1) := by decide +kernel
theorem dc_Chain_flush_18 : decode cb_Chain_flush 18 = .ok (.invokevirtual 31, 3) := by decide +kernel
theorem dc_Chain_flush_21 : decode cb_Chain_flush 21 = .ok (.checkcast 35, 3) := by decide +kernel
theorem dc_Chain_flush_24 : decode cb_Chain_flush 24 = .ok (.astore_n 3, 1) := by decide +kernel
theorem dc_Chain_flush_25 : decode cb_Chain_flush 25 = .ok (.aload_n 0, 1) := by decide +kernel
theorem dc_Chain_flush_26 : decode cb_Chain_flush 26 = .ok (.aload_n 3, 1) := by decide +kernel
theorem dc_Chain_flush_27 : decode cb_Chain_flush 27 = .ok (.aload_n 3, 1) := by decide +kernel
theorem dc_Chain_flush_28 : decode cb_Chain_flush 28 = .ok (.invokevirtual 54, 3) := by decide +kernel
theorem dc_Chain_flush_31 : decode cb_Chain_flush 31 = .ok (.invokevirtual 57, 3) := by decide +kernel
theorem dc_Chain_flush_34 : decode cb_Chain_flush 34 = .ok (.aload_n 0, 1) := by decide +kernel
theorem dc_Chain_flush_35 : decode cb_Chain_flush 35 = .ok (.iload_n 2, 1) := by decide +kernel
theorem dc_Chain_flush_36 : decode cb_Chain_flush 36 = .ok (.iconst 1, 1) := by decide +kernel
theorem dc_Chain_flush_37 : decode cb_Chain_flush 37 = .ok (.iadd, 1) := by decide +kernel
theorem dc_Chain_flush_38 : decode cb_Chain_flush 38 = .ok (.aload_n 1, 1) := by decide +kernel
theorem dc_Chain_flush_39 : decode cb_Chain_flush 39 = .ok (.invokevirtual 50, 3) := by decide +kernel
theorem dc_Chain_flush_42 : decode cb_Chain_flush 42 = .ok (.iinc 2 1, 3) := by decide +kernel
theorem dc_Chain_flush_45 : decode cb_Chain_flush 45 = .ok (.goto (-43), 3) := by decide +kernel
theorem dc_Chain_flush_48 : decode cb_Chain_flush 48 = .ok (.return_, 1) := by decide +kernel
theorem yk_Chain_flush : fq_Y my_Chain_flush cb_Chain_flush 4 none 1 := ⟨wd_690, wd_27, by decide +kernel⟩
theorem dc_Chain_forgetSamples_0 : decode cb_Chain_forgetSamples 0 = .ok (.iconst 0, 1) := by decide +kernel
theorem dc_Chain_forgetSamples_1 : decode cb_Chain_forgetSamples 1 = .ok (.istore_n 1, 1) := by decide +kernel
theorem dc_Chain_forgetSamples_2 : decode cb_Chain_forgetSamples 2 = .ok (.iload_n 1, 1) := by decide +kernel
theorem dc_Chain_forgetSamples_3 : decode cb_Chain_forgetSamples 3 = .ok (.aload_n 0, 1) := by decide +kernel
theorem dc_Chain_forgetSamples_4 : decode cb_Chain_forgetSamples 4 = .ok (.getfield 12, 3) := by decide +kernel
theorem dc_Chain_forgetSamples_7 : decode cb_Chain_forgetSamples 7 = .ok (.invokevirtual 27, 3) := by decide +kernel
theorem dc_Chain_forgetSamples_10 : decode cb_Chain_forgetSamples 10 = .ok (.if_icmp .ge 23, 3) := by decide +kernel
theorem dc_Chain_forgetSamples_13 : decode cb_Chain_forgetSamples 13 = .ok (.aload_n 0, 1) := by decide +kernel
theorem dc_Chain_forgetSamples_14 : decode cb_Chain_forgetSamples 14 = .ok (.getfield 12, 3) := by decide +kernel
theorem dc_Chain_forgetSamples_17 : decode cb_Chain_forgetSamples 17 = .ok (.iload_n 1, 1) := by decide +kernel
theorem dc_Chain_forgetSamples_18 : decode cb_Chain_forgetSamples 18 = .ok (.invokevirtual 31, 3) := by decide +kernel
theorem dc_Chain_forgetSamples_21 : decode cb_Chain_forgetSamples 21 = .ok (.checkcast 35, 3) := by decide +kernel
theorem dc_Chain_forgetSamples_24 : decode cb_Chain_forgetSamples 24 = .ok (.invokevirtual 45, 3) := by decide +kernel
theorem dc_Chain_forgetSamples_27 : decode cb_Chain_forgetSamples 27 = .ok (.iinc 1 1, 3) := by decide +kernel
theorem dc_Chain_forgetSamples_30 : decode cb_Chain_forgetSamples 30 = .ok (.goto (-28), 3) := by decide +kernel
theorem dc_Chain_forgetSamples_33 : decode cb_Chain_forgetSamples 33 = .ok (.return_, 1) := by decide +kernel
theorem yk_Chain_forgetSamples : fq_Y my_Chain_forgetSamples cb_Chain_forgetSamples 2 none 0 := ⟨wd_516, wd_27, by decide +kernel⟩
theorem dc_Chain_init_0 : decode cb_Chain_init 0 = .ok (.aload_n 0, 1) := by decide +kernel
theorem dc_Chain_init_1 : decode cb_Chain_init 1 = .ok (.invokespecial 3, 3) := by decide +kernel
theorem dc_Chain_init_4 : decode cb_Chain_init 4 = .ok (.aload_n 0, 1) := by decide +kernel
theorem dc_Chain_init_5 : decode cb_Chain_init 5 = .ok (.new 9, 3) := by decide +kernel
theorem dc_Chain_init_8 : decode cb_Chain_init 8 = .ok (.dup, 1) := by decide +kernel
theorem dc_Chain_init_9 : decode cb_Chain_init 9 = .ok (.invokespecial 11, 3) := by decide +kernel
theorem dc_Chain_init_12 : decode cb_Chain_init 12 = .ok (.putfield 12, 3) := by decide +kernel
theorem dc_Chain_init_15 : decode cb_Chain_init 15 = .ok (.aload_n 0, 1) := by decide +kernel
theorem dc_Chain_init_16 : decode cb_Chain_init 16 = .ok (.new 18, 3) := by decide +kernel
theorem dc_Chain_init_19 : decode cb_Chain_init 19 = .ok (.dup, 1) := by decide +kernel
theorem dc_Chain_init_20 : decode cb_Chain_init 20 = .ok (.sipush 366, 3) := by decide +kernel
theorem dc_Chain_init_23 : decode cb_Chain_init 23 = .ok (.invokespecial 20, 3) := by decide +kernel
theorem dc_Chain_init_26 : decode cb_Chain_init 26 = .ok (.putfield 23, 3) := by decide +kernel
theorem dc_Chain_init_29 : decode cb_Chain_init 29 = .ok (.return_, 1) := by decide +kernel
theorem yk_Chain_init : fq_Y my_Chain_init cb_Chain_init 1 none 0 := ⟨wd_60, wd_27, by decide +kernel⟩
set_option maxHeartbeats 4000000 in
set_option maxRecDepth 100000 in
theorem ct_Chain_work (l : Launch) (D : va_G) (cI cO : ClassId) (tE : Nat) (h hL hR aR : Nat) (rs : Int32) (f : Nat → Int32) (i : Nat) (x : Int32) (hO aO nO : Nat) (fo : Nat → Int32) (io : Nat) (Lo : List Int32) (sts : List ch_T) (wl : va_W) (Ls : List va_W) (hrow : rw_ok 366 f i []) (hal : al_W tE cO hL sts wl) (hch : ch_ok cI Ls sts) (hrowO : rw_ok nO fo io Lo) (hun : ch_un sts 0) (hfit : ch_fit sts 0 [x.toInt]) (hcapO : Lo.length + (ch_it sts 0 [x.toInt] sts.length).2.length ≤ nO) (sz : Nat) : Met l my_Chain_work (fq_w my_Chain_work cb_Chain_work 3 none) ({ frames := 5, cells := 0, slots := 0, locals := 112 }) (va_Pc ([.ref h, .int x, .ref hO]) (fq_Pre D cI cO tE sz ([(h, .inr (6, [.ref hL, .ref hR, .int rs])), (hR, .inr (0, [.ref aR, .int (nI i), .int (nI ([] : List Int32).length)])), (aR, .inl (cI, 366, .inl f)), (hO, .inr (0, [.ref aO, .int (nI io), .int (nI Lo.length)])), (aO, .inl (cI, nO, .inl fo))] ++ (wl :: Ls).flatten))) (va_Qv (S := va_W) (fun w => ∃ (f2 : Nat → Int32) (i2 : Nat) (fo2 : Nat → Int32) (Lo2 : List Int32) (Ls2 : List va_W), w = [(h, .inr (6, [.ref hL, .ref hR, .int rs])), (hR, .inr (0, [.ref aR, .int (nI i2), .int (nI ([] : List Int32).length)])), (aR, .inl (cI, 366, .inl f2)), (hO, .inr (0, [.ref aO, .int (nI io), .int (nI Lo2.length)])), (aO, .inl (cI, nO, .inl fo2))] ++ (wl :: Ls2).flatten ∧ rw_ok 366 f2 i2 [] ∧ rw_ok nO fo2 io Lo2 ∧ Lo2.map Int32.toInt = Lo.map Int32.toInt ++ (ch_it sts 0 [x.toInt] sts.length).2 ∧ ch_ok cI Ls2 (ch_it sts 0 [x.toInt] sts.length).1) (fq_Bw D (va_A ([(h, .inr (6, [.ref hL, .ref hR, .int rs])), (hR, .inr (0, [.ref aR, .int (nI i), .int (nI ([] : List Int32).length)])), (aR, .inl (cI, 366, .inl f)), (hO, .inr (0, [.ref aO, .int (nI io), .int (nI Lo.length)])), (aO, .inl (cI, nO, .inl fo))] ++ (wl :: Ls).flatten) sz)) (va_A ([(h, .inr (6, [.ref hL, .ref hR, .int rs])), (hR, .inr (0, [.ref aR, .int (nI i), .int (nI ([] : List Int32).length)])), (aR, .inl (cI, 366, .inl f)), (hO, .inr (0, [.ref aO, .int (nI io), .int (nI Lo.length)])), (aO, .inl (cI, nO, .inl fo))] ++ (wl :: Ls).flatten) sz)) (0) (0) (va_A ([(h, .inr (6, [.ref hL, .ref hR, .int rs])), (hR, .inr (0, [.ref aR, .int (nI i), .int (nI ([] : List Int32).length)])), (aR, .inl (cI, 366, .inl f)), (hO, .inr (0, [.ref aO, .int (nI io), .int (nI Lo.length)])), (aO, .inl (cI, nO, .inl fo))] ++ (wl :: Ls).flatten) sz) := by
  refine fq_open (by decide +kernel) (Nat.le_of_ble_eq_true rfl) ?_
  intro pg ev s mt below meth cd ls K hret hlk hin hK hZ hP hD hA hS hl
  generalize va_A ([(h, .inr (6, [.ref hL, .ref hR, .int rs])), (hR, .inr (0, [.ref aR, .int (nI i), .int (nI ([] : List Int32).length)])), (aR, .inl (cI, 366, .inl f)), (hO, .inr (0, [.ref aO, .int (nI io), .int (nI Lo.length)])), (aO, .inl (cI, nO, .inl fo))] ++ (wl :: Ls).flatten) sz = A at hZ hD hA hS ⊢
  have K : fq_Ctx pg mt cd cb_Chain_work 3 s _ cn_Chain := K
  have hl : lv_has ls 3 [(0, .ref h), (1, .int x), (2, .ref hO)] := hl
  refine lv_aload_n K.1 K.2.1 dc_Chain_work_0 rfl (lv_at hl 0 rfl) ?_
  refine fq_get K hK cl_Chain hP 0 1 rfl (by decide) wd_106 rfl dc_Chain_work_1 ?_
  refine lv_iload_n K.1 K.2.1 dc_Chain_work_4 rfl (lv_at hl 1 rfl) ?_
  have hc := fq_cutT (X := [(h, .inr (6, [.ref hL, .ref hR, .int rs])), (hR, .inr (0, [.ref aR, .int (nI i), .int (nI ([] : List Int32).length)])), (aR, .inl (cI, 366, .inl f)), (hO, .inr (0, [.ref aO, .int (nI io), .int (nI Lo.length)])), (aO, .inl (cI, nO, .inl fo))]) (T := (wl :: Ls).flatten) (cx := [(hR, .inr (0, [.ref aR, .int (nI i), .int (nI ([] : List Int32).length)])), (aR, .inl (cI, 366, .inl f))]) hP hD hS hA [1, 2] (by decide) rfl
  refine fq_cvT (wr := [(h, .inr (6, [.ref hL, .ref hR, .int rs])), (hO, .inr (0, [.ref aO, .int (nI io), .int (nI Lo.length)])), (aO, .inl (cI, nO, .inl fo))]) (fq_rV K hK hZ hS hc (ct_Row_add l D cI cO tE hR aR 366 f i ([] : List Int32) x hrow _) yk_Row_add wd_554 wd_555 wd_606 0 rfl rfl rfl ⟨⟨rfl, rfl⟩, ⟨Nat.le_of_ble_eq_true rfl, Nat.le_of_ble_eq_true rfl⟩, ⟨Nat.le_of_ble_eq_true rfl, Nat.le_of_ble_eq_true rfl⟩⟩ hl.1 rfl (Nat.le_of_ble_eq_true rfl) dc_Chain_work_5) hP hD hS hc [1, 2] [0, 3, 4] rfl rfl (by decide) (by decide) (fun  w H locs hw1 hP hD hS => ?_)
  obtain ⟨g1, rfl, hrow1⟩ := hw1
  have hP : va_P D fq_cl ([(h, .inr (6, [.ref hL, .ref hR, .int rs])), (hO, .inr (0, [.ref aO, .int (nI io), .int (nI Lo.length)])), (aO, .inl (cI, nO, .inl fo)), (hR, .inr (0, [.ref aR, .int (nI i), .int (nI (rw_put 366 ([] : List Int32) x).length)])), (aR, .inl (cI, 366, .inl g1))] ++ (wl :: Ls).flatten) _ := hP
  have hD : va_D A ([(h, .inr (6, [.ref hL, .ref hR, .int rs])), (hO, .inr (0, [.ref aO, .int (nI io), .int (nI Lo.length)])), (aO, .inl (cI, nO, .inl fo)), (hR, .inr (0, [.ref aR, .int (nI i), .int (nI (rw_put 366 ([] : List Int32) x).length)])), (aR, .inl (cI, 366, .inl g1))] ++ (wl :: Ls).flatten) := hD
  have hP : va_P D fq_cl ([(h, .inr (6, [.ref hL, .ref hR, .int rs])), (hO, .inr (0, [.ref aO, .int (nI io), .int (nI Lo.length)])), (aO, .inl (cI, nO, .inl fo)), (hR, .inr (0, [.ref aR, .int (nI i), .int (nI ([x] : List Int32).length)])), (aR, .inl (cI, 366, .inl g1))] ++ (wl :: Ls).flatten) _ := hP
  have hD : va_D A ([(h, .inr (6, [.ref hL, .ref hR, .int rs])), (hO, .inr (0, [.ref aO, .int (nI io), .int (nI Lo.length)])), (aO, .inl (cI, nO, .inl fo)), (hR, .inr (0, [.ref aR, .int (nI i), .int (nI ([x] : List Int32).length)])), (aR, .inl (cI, 366, .inl g1))] ++ (wl :: Ls).flatten) := hD
  have hrx : rw_ok 366 g1 i [x] := hrow1
  refine lv_aload_n K.1 K.2.1 dc_Chain_work_8 rfl (lv_at hl 0 rfl) ?_
  refine lv_iconst (v := 0) K.1 K.2.1 dc_Chain_work_9 (by decide) ?_
  refine lv_aload_n K.1 K.2.1 dc_Chain_work_10 rfl (lv_at hl 2 rfl) ?_
  have hP := va_P.part (X := [(h, .inr (6, [.ref hL, .ref hR, .int rs])), (hO, .inr (0, [.ref aO, .int (nI io), .int (nI Lo.length)])), (aO, .inl (cI, nO, .inl fo)), (hR, .inr (0, [.ref aR, .int (nI i), .int (nI ([x] : List Int32).length)])), (aR, .inl (cI, 366, .inl g1))]) (cx := [(h, .inr (6, [.ref hL, .ref hR, .int rs])), (hR, .inr (0, [.ref aR, .int (nI i), .int (nI ([x] : List Int32).length)])), (aR, .inl (cI, 366, .inl g1)), (hO, .inr (0, [.ref aO, .int (nI io), .int (nI Lo.length)])), (aO, .inl (cI, nO, .inl fo))]) hP [0, 3, 4, 1, 2] rfl
  have hD := va_D.part (X := [(h, .inr (6, [.ref hL, .ref hR, .int rs])), (hO, .inr (0, [.ref aO, .int (nI io), .int (nI Lo.length)])), (aO, .inl (cI, nO, .inl fo)), (hR, .inr (0, [.ref aR, .int (nI i), .int (nI ([x] : List Int32).length)])), (aR, .inl (cI, 366, .inl g1))]) (cx := [(h, .inr (6, [.ref hL, .ref hR, .int rs])), (hR, .inr (0, [.ref aR, .int (nI i), .int (nI ([x] : List Int32).length)])), (aR, .inl (cI, 366, .inl g1)), (hO, .inr (0, [.ref aO, .int (nI io), .int (nI Lo.length)])), (aO, .inl (cI, nO, .inl fo))]) hD [0, 3, 4, 1, 2] (by decide) rfl
  have hP : va_P D fq_cl ([(h, .inr (6, [.ref hL, .ref hR, .int rs])), (hR, .inr (0, [.ref aR, .int (nI i), .int (nI ([x] : List Int32).length)])), (aR, .inl (cI, 366, .inl g1)), (hO, .inr (0, [.ref aO, .int (nI io), .int (nI Lo.length)])), (aO, .inl (cI, nO, .inl fo))] ++ (wl :: Ls).flatten) _ := hP
  have hD : va_D A ([(h, .inr (6, [.ref hL, .ref hR, .int rs])), (hR, .inr (0, [.ref aR, .int (nI i), .int (nI ([x] : List Int32).length)])), (aR, .inl (cI, 366, .inl g1)), (hO, .inr (0, [.ref aO, .int (nI io), .int (nI Lo.length)])), (aO, .inl (cI, nO, .inl fo))] ++ (wl :: Ls).flatten) := hD
  have hcp := fq_cutR (wr := []) fq_nil hP hD hS hA
  refine fq_cvR (fq_rV K hK hZ hS hcp (ct_Chain_passThrough l D cI cO tE h hL hR aR rs g1 i ([x]) hO aO nO fo io Lo 0 sts wl Ls hrx hrowO hal hch (Nat.zero_le _) hun hfit hcapO _) yk_Chain_passThrough wd_609 wd_8 wd_607 0 rfl rfl rfl ⟨⟨rfl, rfl⟩, ⟨Nat.le_of_ble_eq_true rfl, Nat.le_of_ble_eq_true rfl⟩, ⟨Nat.le_of_ble_eq_true rfl, Nat.le_of_ble_eq_true rfl⟩⟩ hl.1 rfl (Nat.le_of_ble_eq_true rfl) dc_Chain_work_11) hP hD hS hcp fq_nil (fun w H locs hw hP hD hS => ?_)
  obtain ⟨f5, i5, fo5, Lo5, Ls5, rfl, hr5, hro5, hLo5, hch5⟩ := hw
  rw [List.append_nil] at hP hD
  have hP : va_P D fq_cl ([(h, .inr (6, [.ref hL, .ref hR, .int rs])), (hR, .inr (0, [.ref aR, .int (nI i5), .int (nI ([] : List Int32).length)])), (aR, .inl (cI, 366, .inl f5)), (hO, .inr (0, [.ref aO, .int (nI io), .int (nI Lo5.length)])), (aO, .inl (cI, nO, .inl fo5))] ++ (wl :: Ls5).flatten) _ := hP
  have hD : va_D A ([(h, .inr (6, [.ref hL, .ref hR, .int rs])), (hR, .inr (0, [.ref aR, .int (nI i5), .int (nI ([] : List Int32).length)])), (aR, .inl (cI, 366, .inl f5)), (hO, .inr (0, [.ref aO, .int (nI io), .int (nI Lo5.length)])), (aO, .inl (cI, nO, .inl fo5))] ++ (wl :: Ls5).flatten) := hD
  exact fq_retv K hret hlk hS hP hD ⟨_, _, _, _, _, rfl, hr5, hro5, hLo5, hch5⟩ dc_Chain_work_14 (Nat.le_of_ble_eq_true rfl) (Nat.le_of_ble_eq_true rfl)
set_option maxHeartbeats 4000000 in
set_option maxRecDepth 100000 in
theorem ct_Chain_flush (l : Launch) (D : va_G) (cI cO : ClassId) (tE : Nat) (h hL hR aR : Nat) (rs : Int32) (f : Nat → Int32) (i : Nat) (hO aO nO : Nat) (fo : Nat → Int32) (io : Nat) (Lo : List Int32) (sts : List ch_T) (wl : va_W) (Ls : List va_W) (hrow : rw_ok 366 f i []) (hal : al_W tE cO hL sts wl) (hch : ch_ok cI Ls sts) (hrowO : rw_ok nO fo io Lo) (hff : fl_fit sts Lo nO) (sz : Nat) : Met l my_Chain_flush (fq_w my_Chain_flush cb_Chain_flush 4 none) ({ frames := 5, cells := 0, slots := 0, locals := 112 }) (va_Pc ([.ref h, .ref hO]) (fq_Pre D cI cO tE sz ([(h, .inr (6, [.ref hL, .ref hR, .int rs])), (hR, .inr (0, [.ref aR, .int (nI i), .int (nI ([] : List Int32).length)])), (aR, .inl (cI, 366, .inl f)), (hO, .inr (0, [.ref aO, .int (nI io), .int (nI Lo.length)])), (aO, .inl (cI, nO, .inl fo))] ++ (wl :: Ls).flatten))) (va_Qv (S := va_W) (fun w => ∃ (f2 : Nat → Int32) (i2 : Nat) (fo2 : Nat → Int32) (Lo2 : List Int32) (Ls2 : List va_W), w = [(h, .inr (6, [.ref hL, .ref hR, .int rs])), (hR, .inr (0, [.ref aR, .int (nI i2), .int (nI ([] : List Int32).length)])), (aR, .inl (cI, 366, .inl f2)), (hO, .inr (0, [.ref aO, .int (nI io), .int (nI Lo2.length)])), (aO, .inl (cI, nO, .inl fo2))] ++ (wl :: Ls2).flatten ∧ rw_ok 366 f2 i2 [] ∧ rw_ok nO fo2 io Lo2 ∧ Lo2.map Int32.toInt = Lo.map Int32.toInt ++ (fl_it sts sts.length).2 ∧ ch_ok cI Ls2 (fl_it sts sts.length).1) (fq_Bw D (va_A ([(h, .inr (6, [.ref hL, .ref hR, .int rs])), (hR, .inr (0, [.ref aR, .int (nI i), .int (nI ([] : List Int32).length)])), (aR, .inl (cI, 366, .inl f)), (hO, .inr (0, [.ref aO, .int (nI io), .int (nI Lo.length)])), (aO, .inl (cI, nO, .inl fo))] ++ (wl :: Ls).flatten) sz)) (va_A ([(h, .inr (6, [.ref hL, .ref hR, .int rs])), (hR, .inr (0, [.ref aR, .int (nI i), .int (nI ([] : List Int32).length)])), (aR, .inl (cI, 366, .inl f)), (hO, .inr (0, [.ref aO, .int (nI io), .int (nI Lo.length)])), (aO, .inl (cI, nO, .inl fo))] ++ (wl :: Ls).flatten) sz)) (0) (0) (va_A ([(h, .inr (6, [.ref hL, .ref hR, .int rs])), (hR, .inr (0, [.ref aR, .int (nI i), .int (nI ([] : List Int32).length)])), (aR, .inl (cI, 366, .inl f)), (hO, .inr (0, [.ref aO, .int (nI io), .int (nI Lo.length)])), (aO, .inl (cI, nO, .inl fo))] ++ (wl :: Ls).flatten) sz) := by
  refine fq_open (by decide +kernel) (Nat.le_of_ble_eq_true rfl) ?_
  intro pg ev s mt below meth cd ls K hret hlk hin hK hZ hP hD hA hS hl
  generalize va_A ([(h, .inr (6, [.ref hL, .ref hR, .int rs])), (hR, .inr (0, [.ref aR, .int (nI i), .int (nI ([] : List Int32).length)])), (aR, .inl (cI, 366, .inl f)), (hO, .inr (0, [.ref aO, .int (nI io), .int (nI Lo.length)])), (aO, .inl (cI, nO, .inl fo))] ++ (wl :: Ls).flatten) sz = A at hZ hD hA hS ⊢
  have K : fq_Ctx pg mt cd cb_Chain_flush 4 s _ cn_Chain := K
  have hl : lv_has ls 4 [(0, .ref h), (1, .ref hO)] := hl
  rcases hal with ⟨hnil, mo, rfl⟩ | ⟨eE, mo, fE, rfl, hle, hfE⟩
  · skip
    have hP : va_P D fq_cl ([(h, .inr (6, [.ref hL, .ref hR, .int rs])), (hR, .inr (0, [.ref aR, .int (nI i), .int (nI ([] : List Int32).length)])), (aR, .inl (cI, 366, .inl f)), (hO, .inr (0, [.ref aO, .int (nI io), .int (nI Lo.length)])), (aO, .inl (cI, nO, .inl fo)), (hL, .inr (11, [.ref tE, .int (nI 0), .int mo]))] ++ Ls.flatten) _ := hP
    have hD : va_D A ([(h, .inr (6, [.ref hL, .ref hR, .int rs])), (hR, .inr (0, [.ref aR, .int (nI i), .int (nI ([] : List Int32).length)])), (aR, .inl (cI, 366, .inl f)), (hO, .inr (0, [.ref aO, .int (nI io), .int (nI Lo.length)])), (aO, .inl (cI, nO, .inl fo)), (hL, .inr (11, [.ref tE, .int (nI 0), .int mo]))] ++ Ls.flatten) := hD
    refine lv_iconst (v := 0) K.1 K.2.1 dc_Chain_flush_0 (by decide) ?_
    refine lv_istore_n K.1 K.2.1 dc_Chain_flush_1 rfl hl (by decide) rfl (fun ls hl => ?_)
    have hl : lv_has ls 4 [(2, .int 0), (0, .ref h), (1, .ref hO)] := hl
    refine lv_iload_n K.1 K.2.1 dc_Chain_flush_2 rfl (lv_at hl 0 rfl) ?_
    refine lv_aload_n K.1 K.2.1 dc_Chain_flush_3 rfl (lv_at hl 1 rfl) ?_
    refine fq_get K hK cl_Chain hP 0 0 rfl (by decide) wd_105 rfl dc_Chain_flush_4 ?_
    have hc := fq_cutT (X := [(h, .inr (6, [.ref hL, .ref hR, .int rs])), (hR, .inr (0, [.ref aR, .int (nI i), .int (nI ([] : List Int32).length)])), (aR, .inl (cI, 366, .inl f)), (hO, .inr (0, [.ref aO, .int (nI io), .int (nI Lo.length)])), (aO, .inl (cI, nO, .inl fo)), (hL, .inr (11, [.ref tE, .int (nI 0), .int mo]))]) (T := Ls.flatten) (cx := [(hL, .inr (11, [.ref tE, .int (nI 0), .int mo]))]) hP hD hS hA [5] (by decide) rfl
    refine fq_ciT (wr := [(h, .inr (6, [.ref hL, .ref hR, .int rs])), (hR, .inr (0, [.ref aR, .int (nI i), .int (nI ([] : List Int32).length)])), (aR, .inl (cI, 366, .inl f)), (hO, .inr (0, [.ref aO, .int (nI io), .int (nI Lo.length)])), (aO, .inl (cI, nO, .inl fo))]) (fq_rV K hK hZ hS hc (ct_AL_size l D cI cO tE hL tE (nI 0) mo _) yk_AL_size wd_229 wd_230 wd_228 0 rfl rfl rfl ⟨⟨rfl, rfl⟩, ⟨Nat.le_of_ble_eq_true rfl, Nat.le_of_ble_eq_true rfl⟩, ⟨Nat.le_of_ble_eq_true rfl, Nat.le_of_ble_eq_true rfl⟩⟩ hl.1 rfl (Nat.le_of_ble_eq_true rfl) dc_Chain_flush_7) hP hD hS hc [5] [0, 1, 2, 3, 4] rfl rfl (by decide) (by decide) (fun r1 w H locs hw1 hP hD hS => ?_)
    obtain ⟨rfl, rfl⟩ := hw1
    have hP : va_P D fq_cl ([(h, .inr (6, [.ref hL, .ref hR, .int rs])), (hR, .inr (0, [.ref aR, .int (nI i), .int (nI ([] : List Int32).length)])), (aR, .inl (cI, 366, .inl f)), (hO, .inr (0, [.ref aO, .int (nI io), .int (nI Lo.length)])), (aO, .inl (cI, nO, .inl fo)), (hL, .inr (11, [.ref tE, .int (nI 0), .int mo]))] ++ Ls.flatten) _ := hP
    have hD : va_D A ([(h, .inr (6, [.ref hL, .ref hR, .int rs])), (hR, .inr (0, [.ref aR, .int (nI i), .int (nI ([] : List Int32).length)])), (aR, .inl (cI, 366, .inl f)), (hO, .inr (0, [.ref aO, .int (nI io), .int (nI Lo.length)])), (aO, .inl (cI, nO, .inl fo)), (hL, .inr (11, [.ref tE, .int (nI 0), .int mo]))] ++ Ls.flatten) := hD
    refine lv_icmp_ge (tgt := 48) K.1 K.2.1 dc_Chain_flush_10 rfl (fun b10 => ?_) (fun b10 => absurd (nI_leI (by decide) (by decide) |>.mpr (Nat.zero_le _)) b10)
    have hP : va_P D fq_cl ([(h, .inr (6, [.ref hL, .ref hR, .int rs])), (hR, .inr (0, [.ref aR, .int (nI i), .int (nI ([] : List Int32).length)])), (aR, .inl (cI, 366, .inl f)), (hO, .inr (0, [.ref aO, .int (nI io), .int (nI Lo.length)])), (aO, .inl (cI, nO, .inl fo))] ++ ([(hL, .inr (11, [.ref tE, .int (nI 0), .int mo]))] :: Ls).flatten) _ := hP
    have hD : va_D A ([(h, .inr (6, [.ref hL, .ref hR, .int rs])), (hR, .inr (0, [.ref aR, .int (nI i), .int (nI ([] : List Int32).length)])), (aR, .inl (cI, 366, .inl f)), (hO, .inr (0, [.ref aO, .int (nI io), .int (nI Lo.length)])), (aO, .inl (cI, nO, .inl fo))] ++ ([(hL, .inr (11, [.ref tE, .int (nI 0), .int mo]))] :: Ls).flatten) := hD
    exact fq_retv K hret hlk hS hP hD ⟨_, _, _, _, _, rfl, hrow, hrowO, by rw [hnil]; exact (List.append_nil _).symm, by rw [hnil]; rw [hnil] at hch; exact hch⟩ dc_Chain_flush_48 (Nat.le_of_ble_eq_true rfl) (Nat.le_of_ble_eq_true rfl)
  · skip
    have hP : va_P D fq_cl ([(h, .inr (6, [.ref hL, .ref hR, .int rs])), (hR, .inr (0, [.ref aR, .int (nI i), .int (nI ([] : List Int32).length)])), (aR, .inl (cI, 366, .inl f)), (hO, .inr (0, [.ref aO, .int (nI io), .int (nI Lo.length)])), (aO, .inl (cI, nO, .inl fo)), (hL, .inr (11, [.ref eE, .int (nI sts.length), .int mo])), (eE, .inl (cO, 10, .inr (.inr (.inr (.inr fE)))))] ++ Ls.flatten) _ := hP
    have hD : va_D A ([(h, .inr (6, [.ref hL, .ref hR, .int rs])), (hR, .inr (0, [.ref aR, .int (nI i), .int (nI ([] : List Int32).length)])), (aR, .inl (cI, 366, .inl f)), (hO, .inr (0, [.ref aO, .int (nI io), .int (nI Lo.length)])), (aO, .inl (cI, nO, .inl fo)), (hL, .inr (11, [.ref eE, .int (nI sts.length), .int mo])), (eE, .inl (cO, 10, .inr (.inr (.inr (.inr fE)))))] ++ Ls.flatten) := hD
    refine lv_iconst (v := 0) K.1 K.2.1 dc_Chain_flush_0 (by decide) ?_
    refine lv_istore_n K.1 K.2.1 dc_Chain_flush_1 rfl hl (by decide) rfl (fun ls hl => ?_)
    have hl : lv_has ls 4 [(2, .int 0), (0, .ref h), (1, .ref hO)] := hl
    refine fq_lp (σ := Nat × (Nat → Int32) × Nat × (Nat → Int32) × List Int32 × List va_W) (fun x => sts.length - x.1) (fun x H locs ls => (x.1 ≤ sts.length ∧ rw_ok 366 x.2.1 x.2.2.1 [] ∧ rw_ok nO x.2.2.2.1 io x.2.2.2.2.1 ∧ x.2.2.2.2.1.map Int32.toInt = Lo.map Int32.toInt ++ (fl_it sts x.1).2 ∧ ch_ok cI x.2.2.2.2.2 (fl_it sts x.1).1) ∧ lv_has ls 4 [(0, .ref h), (1, .ref hO), (2, .int (nI x.1))] ∧ va_P D fq_cl ([(h, .inr (6, [.ref hL, .ref hR, .int rs])), (hR, .inr (0, [.ref aR, .int (nI x.2.2.1), .int (nI ([] : List Int32).length)])), (aR, .inl (cI, 366, .inl x.2.1)), (hO, .inr (0, [.ref aO, .int (nI io), .int (nI x.2.2.2.2.1.length)])), (aO, .inl (cI, nO, .inl x.2.2.2.1)), (hL, .inr (11, [.ref eE, .int (nI sts.length), .int mo])), (eE, .inl (cO, 10, .inr (.inr (.inr (.inr fE)))))] ++ x.2.2.2.2.2.flatten) H ∧ va_D A ([(h, .inr (6, [.ref hL, .ref hR, .int rs])), (hR, .inr (0, [.ref aR, .int (nI x.2.2.1), .int (nI ([] : List Int32).length)])), (aR, .inl (cI, 366, .inl x.2.1)), (hO, .inr (0, [.ref aO, .int (nI io), .int (nI x.2.2.2.2.1.length)])), (aO, .inl (cI, nO, .inl x.2.2.2.1)), (hL, .inr (11, [.ref eE, .int (nI sts.length), .int mo])), (eE, .inl (cO, 10, .inr (.inr (.inr (.inr fE)))))] ++ x.2.2.2.2.2.flatten) ∧ va_S A s.heap H locs) ?_ (0, f, i, fo, Lo, Ls) _ _ _ ⟨⟨Nat.zero_le _, hrow, hrowO, (List.append_nil _).symm, hch⟩, lv_sub hl [1, 2, 0] rfl, hP, hD, hS⟩
    rintro ⟨a, ff, ii, fo2, Lo2, Lc⟩ H locs ls ⟨hI2, hl, hP, hD, hS⟩ ih2
    have hI2 : a ≤ sts.length ∧ rw_ok 366 ff ii [] ∧ rw_ok nO fo2 io Lo2 ∧ Lo2.map Int32.toInt = Lo.map Int32.toInt ++ (fl_it sts a).2 ∧ ch_ok cI Lc (fl_it sts a).1 := hI2
    have hl : lv_has ls 4 [(0, .ref h), (1, .ref hO), (2, .int (nI a))] := hl
    have hP : va_P D fq_cl ([(h, .inr (6, [.ref hL, .ref hR, .int rs])), (hR, .inr (0, [.ref aR, .int (nI ii), .int (nI ([] : List Int32).length)])), (aR, .inl (cI, 366, .inl ff)), (hO, .inr (0, [.ref aO, .int (nI io), .int (nI Lo2.length)])), (aO, .inl (cI, nO, .inl fo2)), (hL, .inr (11, [.ref eE, .int (nI sts.length), .int mo])), (eE, .inl (cO, 10, .inr (.inr (.inr (.inr fE)))))] ++ Lc.flatten) _ := hP
    have hD : va_D A ([(h, .inr (6, [.ref hL, .ref hR, .int rs])), (hR, .inr (0, [.ref aR, .int (nI ii), .int (nI ([] : List Int32).length)])), (aR, .inl (cI, 366, .inl ff)), (hO, .inr (0, [.ref aO, .int (nI io), .int (nI Lo2.length)])), (aO, .inl (cI, nO, .inl fo2)), (hL, .inr (11, [.ref eE, .int (nI sts.length), .int mo])), (eE, .inl (cO, 10, .inr (.inr (.inr (.inr fE)))))] ++ Lc.flatten) := hD
    refine lv_iload_n K.1 K.2.1 dc_Chain_flush_2 rfl (lv_at hl 2 rfl) ?_
    refine lv_aload_n K.1 K.2.1 dc_Chain_flush_3 rfl (lv_at hl 0 rfl) ?_
    refine fq_get K hK cl_Chain hP 0 0 rfl (by decide) wd_105 rfl dc_Chain_flush_4 ?_
    have hc := fq_cutT (X := [(h, .inr (6, [.ref hL, .ref hR, .int rs])), (hR, .inr (0, [.ref aR, .int (nI ii), .int (nI ([] : List Int32).length)])), (aR, .inl (cI, 366, .inl ff)), (hO, .inr (0, [.ref aO, .int (nI io), .int (nI Lo2.length)])), (aO, .inl (cI, nO, .inl fo2)), (hL, .inr (11, [.ref eE, .int (nI sts.length), .int mo])), (eE, .inl (cO, 10, .inr (.inr (.inr (.inr fE)))))]) (T := Lc.flatten) (cx := [(hL, .inr (11, [.ref eE, .int (nI sts.length), .int mo]))]) hP hD hS hA [5] (by decide) rfl
    refine fq_ciT (wr := [(h, .inr (6, [.ref hL, .ref hR, .int rs])), (hR, .inr (0, [.ref aR, .int (nI ii), .int (nI ([] : List Int32).length)])), (aR, .inl (cI, 366, .inl ff)), (hO, .inr (0, [.ref aO, .int (nI io), .int (nI Lo2.length)])), (aO, .inl (cI, nO, .inl fo2)), (eE, .inl (cO, 10, .inr (.inr (.inr (.inr fE)))))]) (fq_rV K hK hZ hS hc (ct_AL_size l D cI cO tE hL eE (nI sts.length) mo _) yk_AL_size wd_229 wd_230 wd_228 0 rfl rfl rfl ⟨⟨rfl, rfl⟩, ⟨Nat.le_of_ble_eq_true rfl, Nat.le_of_ble_eq_true rfl⟩, ⟨Nat.le_of_ble_eq_true rfl, Nat.le_of_ble_eq_true rfl⟩⟩ hl.1 rfl (Nat.le_of_ble_eq_true rfl) dc_Chain_flush_7) hP hD hS hc [5] [0, 1, 2, 3, 4, 6] rfl rfl (by decide) (by decide) (fun r2 w H locs hw2 hP hD hS => ?_)
    obtain ⟨rfl, rfl⟩ := hw2
    have hP : va_P D fq_cl ([(h, .inr (6, [.ref hL, .ref hR, .int rs])), (hR, .inr (0, [.ref aR, .int (nI ii), .int (nI ([] : List Int32).length)])), (aR, .inl (cI, 366, .inl ff)), (hO, .inr (0, [.ref aO, .int (nI io), .int (nI Lo2.length)])), (aO, .inl (cI, nO, .inl fo2)), (eE, .inl (cO, 10, .inr (.inr (.inr (.inr fE))))), (hL, .inr (11, [.ref eE, .int (nI sts.length), .int mo]))] ++ Lc.flatten) _ := hP
    have hD : va_D A ([(h, .inr (6, [.ref hL, .ref hR, .int rs])), (hR, .inr (0, [.ref aR, .int (nI ii), .int (nI ([] : List Int32).length)])), (aR, .inl (cI, 366, .inl ff)), (hO, .inr (0, [.ref aO, .int (nI io), .int (nI Lo2.length)])), (aO, .inl (cI, nO, .inl fo2)), (eE, .inl (cO, 10, .inr (.inr (.inr (.inr fE))))), (hL, .inr (11, [.ref eE, .int (nI sts.length), .int mo]))] ++ Lc.flatten) := hD
    refine lv_icmp_ge (tgt := 48) K.1 K.2.1 dc_Chain_flush_10 rfl (fun b10 => ?_) (fun b10 => ?_)
    · skip
      have ha : a = sts.length := by rw [nI_leI (by omega) (by omega)] at b10; omega
      have hP := va_P.part (X := [(h, .inr (6, [.ref hL, .ref hR, .int rs])), (hR, .inr (0, [.ref aR, .int (nI ii), .int (nI ([] : List Int32).length)])), (aR, .inl (cI, 366, .inl ff)), (hO, .inr (0, [.ref aO, .int (nI io), .int (nI Lo2.length)])), (aO, .inl (cI, nO, .inl fo2)), (eE, .inl (cO, 10, .inr (.inr (.inr (.inr fE))))), (hL, .inr (11, [.ref eE, .int (nI sts.length), .int mo]))]) (cx := [(h, .inr (6, [.ref hL, .ref hR, .int rs])), (hR, .inr (0, [.ref aR, .int (nI ii), .int (nI ([] : List Int32).length)])), (aR, .inl (cI, 366, .inl ff)), (hO, .inr (0, [.ref aO, .int (nI io), .int (nI Lo2.length)])), (aO, .inl (cI, nO, .inl fo2)), (hL, .inr (11, [.ref eE, .int (nI sts.length), .int mo])), (eE, .inl (cO, 10, .inr (.inr (.inr (.inr fE)))))]) hP [0, 1, 2, 3, 4, 6, 5] rfl
      have hD := va_D.part (X := [(h, .inr (6, [.ref hL, .ref hR, .int rs])), (hR, .inr (0, [.ref aR, .int (nI ii), .int (nI ([] : List Int32).length)])), (aR, .inl (cI, 366, .inl ff)), (hO, .inr (0, [.ref aO, .int (nI io), .int (nI Lo2.length)])), (aO, .inl (cI, nO, .inl fo2)), (eE, .inl (cO, 10, .inr (.inr (.inr (.inr fE))))), (hL, .inr (11, [.ref eE, .int (nI sts.length), .int mo]))]) (cx := [(h, .inr (6, [.ref hL, .ref hR, .int rs])), (hR, .inr (0, [.ref aR, .int (nI ii), .int (nI ([] : List Int32).length)])), (aR, .inl (cI, 366, .inl ff)), (hO, .inr (0, [.ref aO, .int (nI io), .int (nI Lo2.length)])), (aO, .inl (cI, nO, .inl fo2)), (hL, .inr (11, [.ref eE, .int (nI sts.length), .int mo])), (eE, .inl (cO, 10, .inr (.inr (.inr (.inr fE)))))]) hD [0, 1, 2, 3, 4, 6, 5] (by decide) rfl
      have hP : va_P D fq_cl ([(h, .inr (6, [.ref hL, .ref hR, .int rs])), (hR, .inr (0, [.ref aR, .int (nI ii), .int (nI ([] : List Int32).length)])), (aR, .inl (cI, 366, .inl ff)), (hO, .inr (0, [.ref aO, .int (nI io), .int (nI Lo2.length)])), (aO, .inl (cI, nO, .inl fo2))] ++ ([(hL, .inr (11, [.ref eE, .int (nI sts.length), .int mo])), (eE, .inl (cO, 10, .inr (.inr (.inr (.inr fE)))))] :: Lc).flatten) _ := hP
      have hD : va_D A ([(h, .inr (6, [.ref hL, .ref hR, .int rs])), (hR, .inr (0, [.ref aR, .int (nI ii), .int (nI ([] : List Int32).length)])), (aR, .inl (cI, 366, .inl ff)), (hO, .inr (0, [.ref aO, .int (nI io), .int (nI Lo2.length)])), (aO, .inl (cI, nO, .inl fo2))] ++ ([(hL, .inr (11, [.ref eE, .int (nI sts.length), .int mo])), (eE, .inl (cO, 10, .inr (.inr (.inr (.inr fE)))))] :: Lc).flatten) := hD
      exact fq_retv K hret hlk hS hP hD ⟨_, _, _, _, _, rfl, hI2.2.1, hI2.2.2.1, by rw [← ha]; exact hI2.2.2.2.1, by rw [← ha]; exact hI2.2.2.2.2⟩ dc_Chain_flush_48 (Nat.le_of_ble_eq_true rfl) (Nat.le_of_ble_eq_true rfl)
    · skip
      have ha : a < sts.length := by rw [nI_leI (by omega) (by omega)] at b10; omega
      obtain ⟨⟨hS0, sp, xs, m0⟩, hset0⟩ := ps_some (a := a) (sts := (fl_it sts a).1) (by rw [fl_len]; exact ha)
      obtain ⟨gc, hgc, hsgc⟩ := ch_get hI2.2.2.2.2 hset0
      obtain ⟨hmm, hcd⟩ := fl_cond hff ha hset0 (sg_facts hsgc).1
      refine lv_aload_n K.1 K.2.1 dc_Chain_flush_13 rfl (lv_at hl 0 rfl) ?_
      refine fq_get K hK cl_Chain hP 0 0 rfl (by decide) wd_105 rfl dc_Chain_flush_14 ?_
      refine lv_iload_n K.1 K.2.1 dc_Chain_flush_17 rfl (lv_at hl 2 rfl) ?_
      have hc := fq_cutT (X := [(h, .inr (6, [.ref hL, .ref hR, .int rs])), (hR, .inr (0, [.ref aR, .int (nI ii), .int (nI ([] : List Int32).length)])), (aR, .inl (cI, 366, .inl ff)), (hO, .inr (0, [.ref aO, .int (nI io), .int (nI Lo2.length)])), (aO, .inl (cI, nO, .inl fo2)), (eE, .inl (cO, 10, .inr (.inr (.inr (.inr fE))))), (hL, .inr (11, [.ref eE, .int (nI sts.length), .int mo]))]) (T := Lc.flatten) (cx := [(hL, .inr (11, [.ref eE, .int (nI sts.length), .int mo])), (eE, .inl (cO, 10, .inr (.inr (.inr (.inr fE)))))]) hP hD hS hA [6, 5] (by decide) rfl
      refine fq_cqT (wr := [(h, .inr (6, [.ref hL, .ref hR, .int rs])), (hR, .inr (0, [.ref aR, .int (nI ii), .int (nI ([] : List Int32).length)])), (aR, .inl (cI, 366, .inl ff)), (hO, .inr (0, [.ref aO, .int (nI io), .int (nI Lo2.length)])), (aO, .inl (cI, nO, .inl fo2))]) (fq_rV K hK hZ hS hc (ct_AL_get l D cI cO tE hL eE sts.length mo fE a hS0 ha (by omega) (fl_ad hfE hset0) _) yk_AL_get wd_467 wd_468 wd_466 0 rfl rfl rfl ⟨⟨rfl, rfl⟩, ⟨Nat.le_of_ble_eq_true rfl, Nat.le_of_ble_eq_true rfl⟩, ⟨Nat.le_of_ble_eq_true rfl, Nat.le_of_ble_eq_true rfl⟩⟩ hl.1 rfl (Nat.le_of_ble_eq_true rfl) dc_Chain_flush_18) hP hD hS hc [6, 5] [0, 1, 2, 3, 4] rfl rfl (by decide) (by decide) (fun r3 w H locs hw3 hP hD hS => ?_)
      obtain ⟨rfl, rfl⟩ := hw3
      have hP : va_P D fq_cl ([(h, .inr (6, [.ref hL, .ref hR, .int rs])), (hR, .inr (0, [.ref aR, .int (nI ii), .int (nI ([] : List Int32).length)])), (aR, .inl (cI, 366, .inl ff)), (hO, .inr (0, [.ref aO, .int (nI io), .int (nI Lo2.length)])), (aO, .inl (cI, nO, .inl fo2)), (hL, .inr (11, [.ref eE, .int (nI sts.length), .int mo])), (eE, .inl (cO, 10, .inr (.inr (.inr (.inr fE)))))] ++ Lc.flatten) _ := hP
      have hD : va_D A ([(h, .inr (6, [.ref hL, .ref hR, .int rs])), (hR, .inr (0, [.ref aR, .int (nI ii), .int (nI ([] : List Int32).length)])), (aR, .inl (cI, 366, .inl ff)), (hO, .inr (0, [.ref aO, .int (nI io), .int (nI Lo2.length)])), (aO, .inl (cI, nO, .inl fo2)), (hL, .inr (11, [.ref eE, .int (nI sts.length), .int mo])), (eE, .inl (cO, 10, .inr (.inr (.inr (.inr fE)))))] ++ Lc.flatten) := hD
      refine W.eq (g2 := F0 mt 21 ls [.ref hS0]) rfl ?_
      refine sg_cast K hK hsgc (fq_Pl (fq_permP (fq_gone hgc) hP)) (K.2.2.2.2 _ wd_480) dc_Chain_flush_21 ?_
      refine lv_astore_n K.1 K.2.1 dc_Chain_flush_24 rfl hl (by decide) rfl (fun ls hl => ?_)
      have hl : lv_has ls 4 [(3, .ref hS0), (0, .ref h), (1, .ref hO), (2, .int (nI a))] := hl
      refine lv_aload_n K.1 K.2.1 dc_Chain_flush_25 rfl (lv_at hl 1 rfl) ?_
      refine lv_aload_n K.1 K.2.1 dc_Chain_flush_26 rfl (lv_at hl 0 rfl) ?_
      refine lv_aload_n K.1 K.2.1 dc_Chain_flush_27 rfl (lv_at hl 0 rfl) ?_
      have hcg := fq_cutR (fq_gone (X := [(h, .inr (6, [.ref hL, .ref hR, .int rs])), (hR, .inr (0, [.ref aR, .int (nI ii), .int (nI ([] : List Int32).length)])), (aR, .inl (cI, 366, .inl ff)), (hO, .inr (0, [.ref aO, .int (nI io), .int (nI Lo2.length)])), (aO, .inl (cI, nO, .inl fo2)), (hL, .inr (11, [.ref eE, .int (nI sts.length), .int mo])), (eE, .inl (cO, 10, .inr (.inr (.inr (.inr fE)))))]) hgc) hP hD hS hA
      refine fq_ciR (sg_run_finish K hK hZ hS hcg hsgc hmm (Nat.le_of_ble_eq_true rfl) (Nat.le_of_ble_eq_true rfl) (Nat.le_of_ble_eq_true rfl) (Nat.le_of_ble_eq_true rfl) hl.1 (Nat.le_of_ble_eq_true rfl) dc_Chain_flush_28) hP hD hS hcg (fq_gone (X := [(h, .inr (6, [.ref hL, .ref hR, .int rs])), (hR, .inr (0, [.ref aR, .int (nI ii), .int (nI ([] : List Int32).length)])), (aR, .inl (cI, 366, .inl ff)), (hO, .inr (0, [.ref aO, .int (nI io), .int (nI Lo2.length)])), (aO, .inl (cI, nO, .inl fo2)), (hL, .inr (11, [.ref eE, .int (nI sts.length), .int mo])), (eE, .inl (cO, 10, .inr (.inr (.inr (.inr fE)))))]) hgc) (fun r2 g2 H locs hw2 hP hD hS => ?_)
      have hP := fq_permP (fq_gback (X := [(h, .inr (6, [.ref hL, .ref hR, .int rs])), (hR, .inr (0, [.ref aR, .int (nI ii), .int (nI ([] : List Int32).length)])), (aR, .inl (cI, 366, .inl ff)), (hO, .inr (0, [.ref aO, .int (nI io), .int (nI Lo2.length)])), (aO, .inl (cI, nO, .inl fo2)), (hL, .inr (11, [.ref eE, .int (nI sts.length), .int mo])), (eE, .inl (cO, 10, .inr (.inr (.inr (.inr fE)))))]) hgc) hP
      have hD := fq_permD (fq_gback (X := [(h, .inr (6, [.ref hL, .ref hR, .int rs])), (hR, .inr (0, [.ref aR, .int (nI ii), .int (nI ([] : List Int32).length)])), (aR, .inl (cI, 366, .inl ff)), (hO, .inr (0, [.ref aO, .int (nI io), .int (nI Lo2.length)])), (aO, .inl (cI, nO, .inl fo2)), (hL, .inr (11, [.ref eE, .int (nI sts.length), .int mo])), (eE, .inl (cO, 10, .inr (.inr (.inr (.inr fE)))))]) hgc) hD
      have hP : va_P D fq_cl ([(h, .inr (6, [.ref hL, .ref hR, .int rs])), (hR, .inr (0, [.ref aR, .int (nI ii), .int (nI ([] : List Int32).length)])), (aR, .inl (cI, 366, .inl ff)), (hO, .inr (0, [.ref aO, .int (nI io), .int (nI Lo2.length)])), (aO, .inl (cI, nO, .inl fo2)), (hL, .inr (11, [.ref eE, .int (nI sts.length), .int mo])), (eE, .inl (cO, 10, .inr (.inr (.inr (.inr fE)))))] ++ (Lc.set a g2).flatten) _ := hP
      have hD : va_D A ([(h, .inr (6, [.ref hL, .ref hR, .int rs])), (hR, .inr (0, [.ref aR, .int (nI ii), .int (nI ([] : List Int32).length)])), (aR, .inl (cI, 366, .inl ff)), (hO, .inr (0, [.ref aO, .int (nI io), .int (nI Lo2.length)])), (aO, .inl (cI, nO, .inl fo2)), (hL, .inr (11, [.ref eE, .int (nI sts.length), .int mo])), (eE, .inl (cO, 10, .inr (.inr (.inr (.inr fE)))))] ++ (Lc.set a g2).flatten) := hD
      obtain ⟨rfl, hsg2⟩ := hw2
      have hg2 : (Lc.set a g2)[a]? = some g2 := ch_set hgc
      have hcm := fq_cutR (fq_gx (X := [(h, .inr (6, [.ref hL, .ref hR, .int rs])), (hR, .inr (0, [.ref aR, .int (nI ii), .int (nI ([] : List Int32).length)])), (aR, .inl (cI, 366, .inl ff))]) (Y := [(hO, .inr (0, [.ref aO, .int (nI io), .int (nI Lo2.length)])), (aO, .inl (cI, nO, .inl fo2)), (hL, .inr (11, [.ref eE, .int (nI sts.length), .int mo])), (eE, .inl (cO, 10, .inr (.inr (.inr (.inr fE)))))]) hg2) hP hD hS hA
      refine fq_cvR (fq_rV K hK hZ hS hcm (ct_Chain_makeSamples l D cI cO tE h hL hR aR rs ff ii [] hS0 (fm_m sp true xs.length - m0) sp xs m0 g2 hI2.2.1 hsg2 hcd.1 hcd.2.1 hcd.2.2.1 hcd.2.2.2 _) yk_Chain_makeSamples wd_643 wd_10 wd_641 0 rfl rfl rfl ⟨⟨rfl, rfl⟩, ⟨Nat.le_of_ble_eq_true rfl, Nat.le_of_ble_eq_true rfl⟩, ⟨Nat.le_of_ble_eq_true rfl, Nat.le_of_ble_eq_true rfl⟩⟩ hl.1 rfl (Nat.le_of_ble_eq_true rfl) dc_Chain_flush_31) hP hD hS hcm (fq_gx (X := [(h, .inr (6, [.ref hL, .ref hR, .int rs])), (hR, .inr (0, [.ref aR, .int (nI ii), .int (nI ([] : List Int32).length)])), (aR, .inl (cI, 366, .inl ff))]) (Y := [(hO, .inr (0, [.ref aO, .int (nI io), .int (nI Lo2.length)])), (aO, .inl (cI, nO, .inl fo2)), (hL, .inr (11, [.ref eE, .int (nI sts.length), .int mo])), (eE, .inl (cO, 10, .inr (.inr (.inr (.inr fE)))))]) hg2) (fun w H locs hw hP hD hS => ?_)
      obtain ⟨f3, L3, g3, rfl, hr3, hL3, hsg3⟩ := hw
      have hP := fq_permP (fq_gy (X := [(h, .inr (6, [.ref hL, .ref hR, .int rs])), (hR, .inr (0, [.ref aR, .int (nI ii), .int (nI L3.length)])), (aR, .inl (cI, 366, .inl f3))]) (Y := [(hO, .inr (0, [.ref aO, .int (nI io), .int (nI Lo2.length)])), (aO, .inl (cI, nO, .inl fo2)), (hL, .inr (11, [.ref eE, .int (nI sts.length), .int mo])), (eE, .inl (cO, 10, .inr (.inr (.inr (.inr fE)))))]) hg2) hP
      have hD := fq_permD (fq_gy (X := [(h, .inr (6, [.ref hL, .ref hR, .int rs])), (hR, .inr (0, [.ref aR, .int (nI ii), .int (nI L3.length)])), (aR, .inl (cI, 366, .inl f3))]) (Y := [(hO, .inr (0, [.ref aO, .int (nI io), .int (nI Lo2.length)])), (aO, .inl (cI, nO, .inl fo2)), (hL, .inr (11, [.ref eE, .int (nI sts.length), .int mo])), (eE, .inl (cO, 10, .inr (.inr (.inr (.inr fE)))))]) hg2) hD
      rw [List.set_set] at hP hD
      have hL3 : L3.map Int32.toInt = fl_e sp xs m0 := hL3
      have hch3 := fl_ch1 hI2.2.2.2.2 hset0 hsg3
      obtain ⟨hun3, hfit3, hcap3⟩ := fl_pre hff ha hset0 hI2.2.2.2.1
      rw [← hL3] at hfit3 hcap3
      have hP : va_P D fq_cl ([(h, .inr (6, [.ref hL, .ref hR, .int rs])), (hR, .inr (0, [.ref aR, .int (nI ii), .int (nI L3.length)])), (aR, .inl (cI, 366, .inl f3)), (hO, .inr (0, [.ref aO, .int (nI io), .int (nI Lo2.length)])), (aO, .inl (cI, nO, .inl fo2)), (hL, .inr (11, [.ref eE, .int (nI sts.length), .int mo])), (eE, .inl (cO, 10, .inr (.inr (.inr (.inr fE)))))] ++ (Lc.set a g3).flatten) _ := hP
      have hD : va_D A ([(h, .inr (6, [.ref hL, .ref hR, .int rs])), (hR, .inr (0, [.ref aR, .int (nI ii), .int (nI L3.length)])), (aR, .inl (cI, 366, .inl f3)), (hO, .inr (0, [.ref aO, .int (nI io), .int (nI Lo2.length)])), (aO, .inl (cI, nO, .inl fo2)), (hL, .inr (11, [.ref eE, .int (nI sts.length), .int mo])), (eE, .inl (cO, 10, .inr (.inr (.inr (.inr fE)))))] ++ (Lc.set a g3).flatten) := hD
      refine lv_aload_n K.1 K.2.1 dc_Chain_flush_34 rfl (lv_at hl 1 rfl) ?_
      refine lv_iload_n K.1 K.2.1 dc_Chain_flush_35 rfl (lv_at hl 3 rfl) ?_
      refine lv_iconst (v := 1) K.1 K.2.1 dc_Chain_flush_36 (by decide) ?_
      refine lv_iadd K.1 K.2.1 dc_Chain_flush_37 ?_
      refine fq_asi (y := nI (a + 1)) (nI_1 a) ?_
      refine lv_aload_n K.1 K.2.1 dc_Chain_flush_38 rfl (lv_at hl 2 rfl) ?_
      have hP : va_P D fq_cl ([(h, .inr (6, [.ref hL, .ref hR, .int rs])), (hR, .inr (0, [.ref aR, .int (nI ii), .int (nI L3.length)])), (aR, .inl (cI, 366, .inl f3)), (hO, .inr (0, [.ref aO, .int (nI io), .int (nI Lo2.length)])), (aO, .inl (cI, nO, .inl fo2))] ++ ([(hL, .inr (11, [.ref eE, .int (nI sts.length), .int mo])), (eE, .inl (cO, 10, .inr (.inr (.inr (.inr fE)))))] :: (Lc.set a g3)).flatten) _ := hP
      have hD : va_D A ([(h, .inr (6, [.ref hL, .ref hR, .int rs])), (hR, .inr (0, [.ref aR, .int (nI ii), .int (nI L3.length)])), (aR, .inl (cI, 366, .inl f3)), (hO, .inr (0, [.ref aO, .int (nI io), .int (nI Lo2.length)])), (aO, .inl (cI, nO, .inl fo2))] ++ ([(hL, .inr (11, [.ref eE, .int (nI sts.length), .int mo])), (eE, .inl (cO, 10, .inr (.inr (.inr (.inr fE)))))] :: (Lc.set a g3)).flatten) := hD
      have hcp := fq_cutR (wr := []) fq_nil hP hD hS hA
      refine fq_cvR (fq_rV K hK hZ hS hcp (ct_Chain_passThrough l D cI cO tE h hL hR aR rs f3 ii L3 hO aO nO fo2 io Lo2 (a + 1) ((fl_it sts a).1.set a (hS0, sp, xs, m0 + (fm_m sp true xs.length - m0))) [(hL, .inr (11, [.ref eE, .int (nI sts.length), .int mo])), (eE, .inl (cO, 10, .inr (.inr (.inr (.inr fE)))))] (Lc.set a g3) hr3 hI2.2.2.1 (fl_al hle hfE hset0) hch3 (by rw [List.length_set, fl_len]; omega) hun3 hfit3 hcap3 _) yk_Chain_passThrough wd_609 wd_8 wd_607 0 rfl rfl rfl ⟨⟨rfl, rfl⟩, ⟨Nat.le_of_ble_eq_true rfl, Nat.le_of_ble_eq_true rfl⟩, ⟨Nat.le_of_ble_eq_true rfl, Nat.le_of_ble_eq_true rfl⟩⟩ hl.1 rfl (Nat.le_of_ble_eq_true rfl) dc_Chain_flush_39) hP hD hS hcp fq_nil (fun w H locs hw hP hD hS => ?_)
      obtain ⟨f5, i5, fo5, Lo5, Ls5, rfl, hr5, hro5, hLo5, hch5⟩ := hw
      rw [List.append_nil] at hP hD
      have hP : va_P D fq_cl ([(h, .inr (6, [.ref hL, .ref hR, .int rs])), (hR, .inr (0, [.ref aR, .int (nI i5), .int (nI ([] : List Int32).length)])), (aR, .inl (cI, 366, .inl f5)), (hO, .inr (0, [.ref aO, .int (nI io), .int (nI Lo5.length)])), (aO, .inl (cI, nO, .inl fo5)), (hL, .inr (11, [.ref eE, .int (nI sts.length), .int mo])), (eE, .inl (cO, 10, .inr (.inr (.inr (.inr fE)))))] ++ Ls5.flatten) _ := hP
      have hD : va_D A ([(h, .inr (6, [.ref hL, .ref hR, .int rs])), (hR, .inr (0, [.ref aR, .int (nI i5), .int (nI ([] : List Int32).length)])), (aR, .inl (cI, 366, .inl f5)), (hO, .inr (0, [.ref aO, .int (nI io), .int (nI Lo5.length)])), (aO, .inl (cI, nO, .inl fo5)), (hL, .inr (11, [.ref eE, .int (nI sts.length), .int mo])), (eE, .inl (cO, 10, .inr (.inr (.inr (.inr fE)))))] ++ Ls5.flatten) := hD
      refine lv_iinc (v := nI (a + 1)) K.1 K.2.1 dc_Chain_flush_42 hl (k := 3) rfl (nI_1 a) (by decide) rfl (fun ls hl => ?_)
      have hl : lv_has ls 4 [(2, .int (nI (a + 1))), (3, .ref hS0), (0, .ref h), (1, .ref hO)] := hl
      refine lv_goto (tgt := 2) K.1 K.2.1 dc_Chain_flush_45 rfl ?_
      exact ih2 (a + 1, f5, i5, fo5, Lo5, Ls5) _ _ _ (by show sts.length - (a + 1) < sts.length - a; omega) ⟨⟨ha, hr5, hro5, fl_out hI2 hset0 hLo5, fl_ch hset0 hch5⟩, lv_sub hl [2, 3, 0] rfl, hP, hD, hS⟩
set_option maxHeartbeats 4000000 in
set_option maxRecDepth 100000 in
theorem ct_Chain_forgetSamples (l : Launch) (D : va_G) (cI cO : ClassId) (tE : Nat) (h hL hR aR : Nat) (rs : Int32) (f : Nat → Int32) (i : Nat) (L : List Int32) (sts : List ch_T) (wl : va_W) (Ls : List va_W) (hal : al_W tE cO hL sts wl) (hch : ch_ok cI Ls sts)  (sz : Nat) : Met l my_Chain_forgetSamples (fq_w my_Chain_forgetSamples cb_Chain_forgetSamples 2 none) ({ frames := 3, cells := 0, slots := 0, locals := 64 }) (va_Pc ([.ref h]) (fq_Pre D cI cO tE sz ([(h, .inr (6, [.ref hL, .ref hR, .int rs])), (hR, .inr (0, [.ref aR, .int (nI i), .int (nI L.length)])), (aR, .inl (cI, 366, .inl f))] ++ (wl :: Ls).flatten))) (va_Qv (S := va_W) (fun w => ∃ Ls2 : List va_W, w = [(h, .inr (6, [.ref hL, .ref hR, .int rs])), (hR, .inr (0, [.ref aR, .int (nI i), .int (nI L.length)])), (aR, .inl (cI, 366, .inl f))] ++ (wl :: Ls2).flatten ∧ ch_ok cI Ls2 (cr_it sts sts.length)) (fq_Bw D (va_A ([(h, .inr (6, [.ref hL, .ref hR, .int rs])), (hR, .inr (0, [.ref aR, .int (nI i), .int (nI L.length)])), (aR, .inl (cI, 366, .inl f))] ++ (wl :: Ls).flatten) sz)) (va_A ([(h, .inr (6, [.ref hL, .ref hR, .int rs])), (hR, .inr (0, [.ref aR, .int (nI i), .int (nI L.length)])), (aR, .inl (cI, 366, .inl f))] ++ (wl :: Ls).flatten) sz)) (0) (0) (va_A ([(h, .inr (6, [.ref hL, .ref hR, .int rs])), (hR, .inr (0, [.ref aR, .int (nI i), .int (nI L.length)])), (aR, .inl (cI, 366, .inl f))] ++ (wl :: Ls).flatten) sz) := by
  refine fq_open (by decide +kernel) (Nat.le_of_ble_eq_true rfl) ?_
  intro pg ev s mt below meth cd ls K hret hlk hin hK hZ hP hD hA hS hl
  generalize va_A ([(h, .inr (6, [.ref hL, .ref hR, .int rs])), (hR, .inr (0, [.ref aR, .int (nI i), .int (nI L.length)])), (aR, .inl (cI, 366, .inl f))] ++ (wl :: Ls).flatten) sz = A at hZ hD hA hS ⊢
  have K : fq_Ctx pg mt cd cb_Chain_forgetSamples 2 s _ cn_Chain := K
  have hl : lv_has ls 2 [(0, .ref h)] := hl
  rcases hal with ⟨hnil, mo, rfl⟩ | ⟨eE, mo, fE, rfl, hle, hfE⟩
  · skip
    have hP : va_P D fq_cl ([(h, .inr (6, [.ref hL, .ref hR, .int rs])), (hR, .inr (0, [.ref aR, .int (nI i), .int (nI L.length)])), (aR, .inl (cI, 366, .inl f)), (hL, .inr (11, [.ref tE, .int (nI 0), .int mo]))] ++ Ls.flatten) _ := hP
    have hD : va_D A ([(h, .inr (6, [.ref hL, .ref hR, .int rs])), (hR, .inr (0, [.ref aR, .int (nI i), .int (nI L.length)])), (aR, .inl (cI, 366, .inl f)), (hL, .inr (11, [.ref tE, .int (nI 0), .int mo]))] ++ Ls.flatten) := hD
    refine lv_iconst (v := 0) K.1 K.2.1 dc_Chain_forgetSamples_0 (by decide) ?_
    refine lv_istore_n K.1 K.2.1 dc_Chain_forgetSamples_1 rfl hl (by decide) rfl (fun ls hl => ?_)
    have hl : lv_has ls 2 [(1, .int 0), (0, .ref h)] := hl
    refine lv_iload_n K.1 K.2.1 dc_Chain_forgetSamples_2 rfl (lv_at hl 0 rfl) ?_
    refine lv_aload_n K.1 K.2.1 dc_Chain_forgetSamples_3 rfl (lv_at hl 1 rfl) ?_
    refine fq_get K hK cl_Chain hP 0 0 rfl (by decide) wd_105 rfl dc_Chain_forgetSamples_4 ?_
    have hc := fq_cutT (X := [(h, .inr (6, [.ref hL, .ref hR, .int rs])), (hR, .inr (0, [.ref aR, .int (nI i), .int (nI L.length)])), (aR, .inl (cI, 366, .inl f)), (hL, .inr (11, [.ref tE, .int (nI 0), .int mo]))]) (T := Ls.flatten) (cx := [(hL, .inr (11, [.ref tE, .int (nI 0), .int mo]))]) hP hD hS hA [3] (by decide) rfl
    refine fq_ciT (wr := [(h, .inr (6, [.ref hL, .ref hR, .int rs])), (hR, .inr (0, [.ref aR, .int (nI i), .int (nI L.length)])), (aR, .inl (cI, 366, .inl f))]) (fq_rV K hK hZ hS hc (ct_AL_size l D cI cO tE hL tE (nI 0) mo _) yk_AL_size wd_229 wd_230 wd_228 0 rfl rfl rfl ⟨⟨rfl, rfl⟩, ⟨Nat.le_of_ble_eq_true rfl, Nat.le_of_ble_eq_true rfl⟩, ⟨Nat.le_of_ble_eq_true rfl, Nat.le_of_ble_eq_true rfl⟩⟩ hl.1 rfl (Nat.le_of_ble_eq_true rfl) dc_Chain_forgetSamples_7) hP hD hS hc [3] [0, 1, 2] rfl rfl (by decide) (by decide) (fun r1 w H locs hw1 hP hD hS => ?_)
    obtain ⟨rfl, rfl⟩ := hw1
    have hP : va_P D fq_cl ([(h, .inr (6, [.ref hL, .ref hR, .int rs])), (hR, .inr (0, [.ref aR, .int (nI i), .int (nI L.length)])), (aR, .inl (cI, 366, .inl f)), (hL, .inr (11, [.ref tE, .int (nI 0), .int mo]))] ++ Ls.flatten) _ := hP
    have hD : va_D A ([(h, .inr (6, [.ref hL, .ref hR, .int rs])), (hR, .inr (0, [.ref aR, .int (nI i), .int (nI L.length)])), (aR, .inl (cI, 366, .inl f)), (hL, .inr (11, [.ref tE, .int (nI 0), .int mo]))] ++ Ls.flatten) := hD
    refine lv_icmp_ge (tgt := 33) K.1 K.2.1 dc_Chain_forgetSamples_10 rfl (fun b10 => ?_) (fun b10 => absurd (nI_leI (by decide) (by decide) |>.mpr (Nat.zero_le _)) b10)
    have hP : va_P D fq_cl ([(h, .inr (6, [.ref hL, .ref hR, .int rs])), (hR, .inr (0, [.ref aR, .int (nI i), .int (nI L.length)])), (aR, .inl (cI, 366, .inl f))] ++ ([(hL, .inr (11, [.ref tE, .int (nI 0), .int mo]))] :: Ls).flatten) _ := hP
    have hD : va_D A ([(h, .inr (6, [.ref hL, .ref hR, .int rs])), (hR, .inr (0, [.ref aR, .int (nI i), .int (nI L.length)])), (aR, .inl (cI, 366, .inl f))] ++ ([(hL, .inr (11, [.ref tE, .int (nI 0), .int mo]))] :: Ls).flatten) := hD
    exact fq_retv K hret hlk hS hP hD ⟨_, rfl, by rw [hnil] at hch ⊢; exact hch⟩ dc_Chain_forgetSamples_33 (Nat.le_of_ble_eq_true rfl) (Nat.le_of_ble_eq_true rfl)
  · skip
    have hP : va_P D fq_cl ([(h, .inr (6, [.ref hL, .ref hR, .int rs])), (hR, .inr (0, [.ref aR, .int (nI i), .int (nI L.length)])), (aR, .inl (cI, 366, .inl f)), (hL, .inr (11, [.ref eE, .int (nI sts.length), .int mo])), (eE, .inl (cO, 10, .inr (.inr (.inr (.inr fE)))))] ++ Ls.flatten) _ := hP
    have hD : va_D A ([(h, .inr (6, [.ref hL, .ref hR, .int rs])), (hR, .inr (0, [.ref aR, .int (nI i), .int (nI L.length)])), (aR, .inl (cI, 366, .inl f)), (hL, .inr (11, [.ref eE, .int (nI sts.length), .int mo])), (eE, .inl (cO, 10, .inr (.inr (.inr (.inr fE)))))] ++ Ls.flatten) := hD
    refine lv_iconst (v := 0) K.1 K.2.1 dc_Chain_forgetSamples_0 (by decide) ?_
    refine lv_istore_n K.1 K.2.1 dc_Chain_forgetSamples_1 rfl hl (by decide) rfl (fun ls hl => ?_)
    have hl : lv_has ls 2 [(1, .int 0), (0, .ref h)] := hl
    refine fq_lp (σ := Nat × List va_W) (fun x => sts.length - x.1) (fun x H locs ls => (x.1 ≤ sts.length ∧ ch_ok cI x.2 (cr_it sts x.1)) ∧ lv_has ls 2 [(0, .ref h), (1, .int (nI x.1))] ∧ va_P D fq_cl ([(h, .inr (6, [.ref hL, .ref hR, .int rs])), (hR, .inr (0, [.ref aR, .int (nI i), .int (nI L.length)])), (aR, .inl (cI, 366, .inl f)), (hL, .inr (11, [.ref eE, .int (nI sts.length), .int mo])), (eE, .inl (cO, 10, .inr (.inr (.inr (.inr fE)))))] ++ x.2.flatten) H ∧ va_D A ([(h, .inr (6, [.ref hL, .ref hR, .int rs])), (hR, .inr (0, [.ref aR, .int (nI i), .int (nI L.length)])), (aR, .inl (cI, 366, .inl f)), (hL, .inr (11, [.ref eE, .int (nI sts.length), .int mo])), (eE, .inl (cO, 10, .inr (.inr (.inr (.inr fE)))))] ++ x.2.flatten) ∧ va_S A s.heap H locs) ?_ (0, Ls) _ _ _ ⟨⟨Nat.zero_le _, hch⟩, lv_sub hl [1, 0] rfl, hP, hD, hS⟩
    rintro ⟨a, Lc⟩ H locs ls ⟨hI2, hl, hP, hD, hS⟩ ih2
    have hI2 : a ≤ sts.length ∧ ch_ok cI Lc (cr_it sts a) := hI2
    have hl : lv_has ls 2 [(0, .ref h), (1, .int (nI a))] := hl
    have hP : va_P D fq_cl ([(h, .inr (6, [.ref hL, .ref hR, .int rs])), (hR, .inr (0, [.ref aR, .int (nI i), .int (nI L.length)])), (aR, .inl (cI, 366, .inl f)), (hL, .inr (11, [.ref eE, .int (nI sts.length), .int mo])), (eE, .inl (cO, 10, .inr (.inr (.inr (.inr fE)))))] ++ Lc.flatten) _ := hP
    have hD : va_D A ([(h, .inr (6, [.ref hL, .ref hR, .int rs])), (hR, .inr (0, [.ref aR, .int (nI i), .int (nI L.length)])), (aR, .inl (cI, 366, .inl f)), (hL, .inr (11, [.ref eE, .int (nI sts.length), .int mo])), (eE, .inl (cO, 10, .inr (.inr (.inr (.inr fE)))))] ++ Lc.flatten) := hD
    refine lv_iload_n K.1 K.2.1 dc_Chain_forgetSamples_2 rfl (lv_at hl 1 rfl) ?_
    refine lv_aload_n K.1 K.2.1 dc_Chain_forgetSamples_3 rfl (lv_at hl 0 rfl) ?_
    refine fq_get K hK cl_Chain hP 0 0 rfl (by decide) wd_105 rfl dc_Chain_forgetSamples_4 ?_
    have hc := fq_cutT (X := [(h, .inr (6, [.ref hL, .ref hR, .int rs])), (hR, .inr (0, [.ref aR, .int (nI i), .int (nI L.length)])), (aR, .inl (cI, 366, .inl f)), (hL, .inr (11, [.ref eE, .int (nI sts.length), .int mo])), (eE, .inl (cO, 10, .inr (.inr (.inr (.inr fE)))))]) (T := Lc.flatten) (cx := [(hL, .inr (11, [.ref eE, .int (nI sts.length), .int mo]))]) hP hD hS hA [3] (by decide) rfl
    refine fq_ciT (wr := [(h, .inr (6, [.ref hL, .ref hR, .int rs])), (hR, .inr (0, [.ref aR, .int (nI i), .int (nI L.length)])), (aR, .inl (cI, 366, .inl f)), (eE, .inl (cO, 10, .inr (.inr (.inr (.inr fE)))))]) (fq_rV K hK hZ hS hc (ct_AL_size l D cI cO tE hL eE (nI sts.length) mo _) yk_AL_size wd_229 wd_230 wd_228 0 rfl rfl rfl ⟨⟨rfl, rfl⟩, ⟨Nat.le_of_ble_eq_true rfl, Nat.le_of_ble_eq_true rfl⟩, ⟨Nat.le_of_ble_eq_true rfl, Nat.le_of_ble_eq_true rfl⟩⟩ hl.1 rfl (Nat.le_of_ble_eq_true rfl) dc_Chain_forgetSamples_7) hP hD hS hc [3] [0, 1, 2, 4] rfl rfl (by decide) (by decide) (fun r2 w H locs hw2 hP hD hS => ?_)
    obtain ⟨rfl, rfl⟩ := hw2
    have hP : va_P D fq_cl ([(h, .inr (6, [.ref hL, .ref hR, .int rs])), (hR, .inr (0, [.ref aR, .int (nI i), .int (nI L.length)])), (aR, .inl (cI, 366, .inl f)), (eE, .inl (cO, 10, .inr (.inr (.inr (.inr fE))))), (hL, .inr (11, [.ref eE, .int (nI sts.length), .int mo]))] ++ Lc.flatten) _ := hP
    have hD : va_D A ([(h, .inr (6, [.ref hL, .ref hR, .int rs])), (hR, .inr (0, [.ref aR, .int (nI i), .int (nI L.length)])), (aR, .inl (cI, 366, .inl f)), (eE, .inl (cO, 10, .inr (.inr (.inr (.inr fE))))), (hL, .inr (11, [.ref eE, .int (nI sts.length), .int mo]))] ++ Lc.flatten) := hD
    refine lv_icmp_ge (tgt := 33) K.1 K.2.1 dc_Chain_forgetSamples_10 rfl (fun b10 => ?_) (fun b10 => ?_)
    · skip
      have ha : a = sts.length := by rw [nI_leI (by omega) (by omega)] at b10; omega
      have hP := va_P.part (X := [(h, .inr (6, [.ref hL, .ref hR, .int rs])), (hR, .inr (0, [.ref aR, .int (nI i), .int (nI L.length)])), (aR, .inl (cI, 366, .inl f)), (eE, .inl (cO, 10, .inr (.inr (.inr (.inr fE))))), (hL, .inr (11, [.ref eE, .int (nI sts.length), .int mo]))]) (cx := [(h, .inr (6, [.ref hL, .ref hR, .int rs])), (hR, .inr (0, [.ref aR, .int (nI i), .int (nI L.length)])), (aR, .inl (cI, 366, .inl f)), (hL, .inr (11, [.ref eE, .int (nI sts.length), .int mo])), (eE, .inl (cO, 10, .inr (.inr (.inr (.inr fE)))))]) hP [0, 1, 2, 4, 3] rfl
      have hD := va_D.part (X := [(h, .inr (6, [.ref hL, .ref hR, .int rs])), (hR, .inr (0, [.ref aR, .int (nI i), .int (nI L.length)])), (aR, .inl (cI, 366, .inl f)), (eE, .inl (cO, 10, .inr (.inr (.inr (.inr fE))))), (hL, .inr (11, [.ref eE, .int (nI sts.length), .int mo]))]) (cx := [(h, .inr (6, [.ref hL, .ref hR, .int rs])), (hR, .inr (0, [.ref aR, .int (nI i), .int (nI L.length)])), (aR, .inl (cI, 366, .inl f)), (hL, .inr (11, [.ref eE, .int (nI sts.length), .int mo])), (eE, .inl (cO, 10, .inr (.inr (.inr (.inr fE)))))]) hD [0, 1, 2, 4, 3] (by decide) rfl
      have hP : va_P D fq_cl ([(h, .inr (6, [.ref hL, .ref hR, .int rs])), (hR, .inr (0, [.ref aR, .int (nI i), .int (nI L.length)])), (aR, .inl (cI, 366, .inl f))] ++ ([(hL, .inr (11, [.ref eE, .int (nI sts.length), .int mo])), (eE, .inl (cO, 10, .inr (.inr (.inr (.inr fE)))))] :: Lc).flatten) _ := hP
      have hD : va_D A ([(h, .inr (6, [.ref hL, .ref hR, .int rs])), (hR, .inr (0, [.ref aR, .int (nI i), .int (nI L.length)])), (aR, .inl (cI, 366, .inl f))] ++ ([(hL, .inr (11, [.ref eE, .int (nI sts.length), .int mo])), (eE, .inl (cO, 10, .inr (.inr (.inr (.inr fE)))))] :: Lc).flatten) := hD
      exact fq_retv K hret hlk hS hP hD ⟨_, rfl, by rw [← ha]; exact hI2.2⟩ dc_Chain_forgetSamples_33 (Nat.le_of_ble_eq_true rfl) (Nat.le_of_ble_eq_true rfl)
    · skip
      have ha : a < sts.length := by rw [nI_leI (by omega) (by omega)] at b10; omega
      obtain ⟨⟨hS0, sp, xs, m0⟩, hset0⟩ := ps_some ha
      have hcur := cr_cur hset0
      obtain ⟨gc, hgc, hsgc⟩ := ch_get hI2.2 hcur
      refine lv_aload_n K.1 K.2.1 dc_Chain_forgetSamples_13 rfl (lv_at hl 0 rfl) ?_
      refine fq_get K hK cl_Chain hP 0 0 rfl (by decide) wd_105 rfl dc_Chain_forgetSamples_14 ?_
      refine lv_iload_n K.1 K.2.1 dc_Chain_forgetSamples_17 rfl (lv_at hl 1 rfl) ?_
      have hc := fq_cutT (X := [(h, .inr (6, [.ref hL, .ref hR, .int rs])), (hR, .inr (0, [.ref aR, .int (nI i), .int (nI L.length)])), (aR, .inl (cI, 366, .inl f)), (eE, .inl (cO, 10, .inr (.inr (.inr (.inr fE))))), (hL, .inr (11, [.ref eE, .int (nI sts.length), .int mo]))]) (T := Lc.flatten) (cx := [(hL, .inr (11, [.ref eE, .int (nI sts.length), .int mo])), (eE, .inl (cO, 10, .inr (.inr (.inr (.inr fE)))))]) hP hD hS hA [4, 3] (by decide) rfl
      refine fq_cqT (wr := [(h, .inr (6, [.ref hL, .ref hR, .int rs])), (hR, .inr (0, [.ref aR, .int (nI i), .int (nI L.length)])), (aR, .inl (cI, 366, .inl f))]) (fq_rV K hK hZ hS hc (ct_AL_get l D cI cO tE hL eE sts.length mo fE a hS0 ha (by omega) (hfE a _ hset0) _) yk_AL_get wd_467 wd_468 wd_466 0 rfl rfl rfl ⟨⟨rfl, rfl⟩, ⟨Nat.le_of_ble_eq_true rfl, Nat.le_of_ble_eq_true rfl⟩, ⟨Nat.le_of_ble_eq_true rfl, Nat.le_of_ble_eq_true rfl⟩⟩ hl.1 rfl (Nat.le_of_ble_eq_true rfl) dc_Chain_forgetSamples_18) hP hD hS hc [4, 3] [0, 1, 2] rfl rfl (by decide) (by decide) (fun r3 w H locs hw3 hP hD hS => ?_)
      obtain ⟨rfl, rfl⟩ := hw3
      have hP : va_P D fq_cl ([(h, .inr (6, [.ref hL, .ref hR, .int rs])), (hR, .inr (0, [.ref aR, .int (nI i), .int (nI L.length)])), (aR, .inl (cI, 366, .inl f)), (hL, .inr (11, [.ref eE, .int (nI sts.length), .int mo])), (eE, .inl (cO, 10, .inr (.inr (.inr (.inr fE)))))] ++ Lc.flatten) _ := hP
      have hD : va_D A ([(h, .inr (6, [.ref hL, .ref hR, .int rs])), (hR, .inr (0, [.ref aR, .int (nI i), .int (nI L.length)])), (aR, .inl (cI, 366, .inl f)), (hL, .inr (11, [.ref eE, .int (nI sts.length), .int mo])), (eE, .inl (cO, 10, .inr (.inr (.inr (.inr fE)))))] ++ Lc.flatten) := hD
      refine W.eq (g2 := F0 mt 21 ls [.ref hS0]) rfl ?_
      refine sg_cast K hK hsgc (fq_Pl (fq_permP (fq_gone hgc) hP)) (K.2.2.2.2 _ wd_480) dc_Chain_forgetSamples_21 ?_
      have hcg := fq_cutR (fq_gone (X := [(h, .inr (6, [.ref hL, .ref hR, .int rs])), (hR, .inr (0, [.ref aR, .int (nI i), .int (nI L.length)])), (aR, .inl (cI, 366, .inl f)), (hL, .inr (11, [.ref eE, .int (nI sts.length), .int mo])), (eE, .inl (cO, 10, .inr (.inr (.inr (.inr fE)))))]) hgc) hP hD hS hA
      refine fq_cvR (sg_run_clear K hK hZ hS hcg hsgc (Nat.le_of_ble_eq_true rfl) (Nat.le_of_ble_eq_true rfl) (Nat.le_of_ble_eq_true rfl) (Nat.le_of_ble_eq_true rfl) hl.1 (Nat.le_of_ble_eq_true rfl) dc_Chain_forgetSamples_24) hP hD hS hcg (fq_gone (X := [(h, .inr (6, [.ref hL, .ref hR, .int rs])), (hR, .inr (0, [.ref aR, .int (nI i), .int (nI L.length)])), (aR, .inl (cI, 366, .inl f)), (hL, .inr (11, [.ref eE, .int (nI sts.length), .int mo])), (eE, .inl (cO, 10, .inr (.inr (.inr (.inr fE)))))]) hgc) (fun g2 H locs hw2 hP hD hS => ?_)
      have hP := fq_permP (fq_gback (X := [(h, .inr (6, [.ref hL, .ref hR, .int rs])), (hR, .inr (0, [.ref aR, .int (nI i), .int (nI L.length)])), (aR, .inl (cI, 366, .inl f)), (hL, .inr (11, [.ref eE, .int (nI sts.length), .int mo])), (eE, .inl (cO, 10, .inr (.inr (.inr (.inr fE)))))]) hgc) hP
      have hD := fq_permD (fq_gback (X := [(h, .inr (6, [.ref hL, .ref hR, .int rs])), (hR, .inr (0, [.ref aR, .int (nI i), .int (nI L.length)])), (aR, .inl (cI, 366, .inl f)), (hL, .inr (11, [.ref eE, .int (nI sts.length), .int mo])), (eE, .inl (cO, 10, .inr (.inr (.inr (.inr fE)))))]) hgc) hD
      have hP : va_P D fq_cl ([(h, .inr (6, [.ref hL, .ref hR, .int rs])), (hR, .inr (0, [.ref aR, .int (nI i), .int (nI L.length)])), (aR, .inl (cI, 366, .inl f)), (hL, .inr (11, [.ref eE, .int (nI sts.length), .int mo])), (eE, .inl (cO, 10, .inr (.inr (.inr (.inr fE)))))] ++ (Lc.set a g2).flatten) _ := hP
      have hD : va_D A ([(h, .inr (6, [.ref hL, .ref hR, .int rs])), (hR, .inr (0, [.ref aR, .int (nI i), .int (nI L.length)])), (aR, .inl (cI, 366, .inl f)), (hL, .inr (11, [.ref eE, .int (nI sts.length), .int mo])), (eE, .inl (cO, 10, .inr (.inr (.inr (.inr fE)))))] ++ (Lc.set a g2).flatten) := hD
      refine lv_iinc (v := nI (a + 1)) K.1 K.2.1 dc_Chain_forgetSamples_27 hl (k := 1) rfl (nI_1 a) (by decide) rfl (fun ls hl => ?_)
      have hl : lv_has ls 2 [(1, .int (nI (a + 1))), (0, .ref h)] := hl
      refine lv_goto (tgt := 2) K.1 K.2.1 dc_Chain_forgetSamples_30 rfl ?_
      exact ih2 (a + 1, Lc.set a g2) _ _ _ (by show sts.length - (a + 1) < sts.length - a; omega) ⟨⟨ha, cr_ch hI2.2 hset0 hw2⟩, lv_sub hl [1, 0] rfl, hP, hD, hS⟩
set_option maxHeartbeats 4000000 in
set_option maxRecDepth 100000 in
theorem ct_Chain_hasPlaceForResampler (l : Launch) (D : va_G) (cI cO : ClassId) (tE : Nat) (h hL hR : Nat) (rs : Int32) (sz : Nat) : Met l my_Chain_hasPlaceForResampler (fq_w my_Chain_hasPlaceForResampler cb_Chain_hasPlaceForResampler 1 (some .boolean)) ({ frames := 0, cells := 0, slots := 0, locals := 0 }) (va_Pc ([.ref h]) (fq_Pre D cI cO tE sz ([(h, .inr (6, [.ref hL, .ref hR, .int rs]))]))) (va_Qi (S := va_W) (fun r w => w = [(h, .inr (6, [.ref hL, .ref hR, .int rs]))] ∧ r = if 2 ≤ rs then 0 else 1) (fq_Bw D (va_A ([(h, .inr (6, [.ref hL, .ref hR, .int rs]))]) sz)) (va_A ([(h, .inr (6, [.ref hL, .ref hR, .int rs]))]) sz)) (0) (0) (va_A ([(h, .inr (6, [.ref hL, .ref hR, .int rs]))]) sz) := by
  refine fq_open (by decide +kernel) (Nat.le_of_ble_eq_true rfl) ?_
  intro pg ev s mt below meth cd ls K hret hlk hin hK hZ hP hD hA hS hl
  generalize va_A ([(h, .inr (6, [.ref hL, .ref hR, .int rs]))]) sz = A at hZ hD hA hS ⊢
  have K : fq_Ctx pg mt cd cb_Chain_hasPlaceForResampler 1 s _ cn_Chain := K
  have hl : lv_has ls 1 [(0, .ref h)] := hl
  refine lv_aload_n K.1 K.2.1 dc_Chain_hasPlaceForResampler_0 rfl (lv_at hl 0 rfl) ?_
  refine fq_get K hK cl_Chain hP 0 2 rfl (by decide) wd_107 rfl dc_Chain_hasPlaceForResampler_1 ?_
  refine lv_iconst (v := 2) K.1 K.2.1 dc_Chain_hasPlaceForResampler_4 (by decide) ?_
  refine lv_icmp_ge (tgt := 12) K.1 K.2.1 dc_Chain_hasPlaceForResampler_5 rfl (fun b5 => ?_) (fun b5 => ?_)
  · skip
    refine lv_iconst (v := 0) K.1 K.2.1 dc_Chain_hasPlaceForResampler_12 (by decide) ?_
    exact fq_retz K hret hlk hS hP hD (by first | exact Or.inl rfl | exact Or.inr rfl) ⟨rfl, by first | rw [if_pos b5] | rw [if_neg b5]⟩ dc_Chain_hasPlaceForResampler_13 (Nat.le_of_ble_eq_true rfl) (Nat.le_of_ble_eq_true rfl)
  · skip
    refine lv_iconst (v := 1) K.1 K.2.1 dc_Chain_hasPlaceForResampler_8 (by decide) ?_
    refine lv_goto (tgt := 13) K.1 K.2.1 dc_Chain_hasPlaceForResampler_9 rfl ?_
    exact fq_retz K hret hlk hS hP hD (by first | exact Or.inl rfl | exact Or.inr rfl) ⟨rfl, by first | rw [if_pos b5] | rw [if_neg b5]⟩ dc_Chain_hasPlaceForResampler_13 (Nat.le_of_ble_eq_true rfl) (Nat.le_of_ble_eq_true rfl)
set_option maxHeartbeats 4000000 in
set_option maxRecDepth 100000 in
theorem ct_Chain_init (l : Launch) (D : va_G) (cI cO : ClassId) (tE : Nat) (h : Nat) (sz : Nat) : Met l my_Chain_init (fq_w my_Chain_init cb_Chain_init 1 none) ({ frames := 4, cells := 3, slots := 375, locals := 72 }) (va_Pc ([.ref h]) (fq_Pre D cI cO tE sz ([(h, .inr (6, [.null, .null, .int 0]))]))) (va_Qv (S := va_W) (fun w => ∃ qL qR qA : Nat, w = [(h, .inr (6, [.ref qL, .ref qR, .int 0])), (qL, .inr (11, [.ref tE, .int 0, .int 0])), (qR, .inr (0, [.ref qA, .int 0, .int 0])), (qA, .inl (cI, 366, .inl (fun _ => 0)))]) (fq_Bw D (va_A ([(h, .inr (6, [.null, .null, .int 0]))]) sz)) (va_A ([(h, .inr (6, [.null, .null, .int 0]))]) sz)) (3) (375) (va_A ([(h, .inr (6, [.null, .null, .int 0]))]) sz) := by
  refine fq_open (by decide +kernel) (Nat.le_of_ble_eq_true rfl) ?_
  intro pg ev s mt below meth cd ls K hret hlk hin hK hZ hP hD hA hS hl
  generalize va_A ([(h, .inr (6, [.null, .null, .int 0]))]) sz = A at hZ hD hA hS ⊢
  have K : fq_Ctx pg mt cd cb_Chain_init 1 s _ cn_Chain := K
  have hin : meth.name = "<init>" := hin
  have hl : lv_has ls 1 [(0, .ref h)] := hl
  refine lv_aload_n K.1 K.2.1 dc_Chain_init_0 rfl (lv_at hl 0 rfl) ?_
  refine W.objInit K.1 K.2.1 K.2.2.2.1 (K.2.2.2.2 _ wd_61) (K.2.2.2.2 _ wd_54) (K.2.2.2.2 _ wd_55) rfl (by rw [K.2.2.1]; exact hl.1) rfl dc_Chain_init_1 (Nat.le_of_ble_eq_true rfl) (Nat.le_of_ble_eq_true rfl) ?_
  refine W.eq (g2 := F0 mt 4 ls []) rfl ?_
  refine lv_aload_n K.1 K.2.1 dc_Chain_init_4 rfl (lv_at hl 0 rfl) ?_
  refine fq_new (fs := [.null, .int 0, .int 0]) K hK cl_AL wd_62 wd_63 wd_30 hP hD hS hA (by decide) (Nat.le_of_ble_eq_true rfl) (Nat.le_of_ble_eq_true rfl) dc_Chain_init_5 (fun q1 H hP hD hS => ?_)
  have hP : va_P D fq_cl ([(h, .inr (6, [.null, .null, .int 0])), (q1, .inr (11, [.null, .int 0, .int 0]))]) _ := hP
  have hD : va_D A ([(h, .inr (6, [.null, .null, .int 0])), (q1, .inr (11, [.null, .int 0, .int 0]))]) := hD
  refine lv_dup K.1 K.2.1 dc_Chain_init_8 rfl ?_
  have hc := fq_cut.of (wc := [(q1, .inr (11, [.null, .int 0, .int 0]))]) hP hD hS hA [1] (by decide) rfl
  refine fq_cv (wr := [(h, .inr (6, [.null, .null, .int 0]))]) (fq_rI K hK hZ hS hc (ct_AL_init l D cI cO tE q1 _) yk_AL_init wd_65 rfl wd_64 ⟨⟨rfl, rfl⟩, ⟨Nat.le_of_ble_eq_true rfl, Nat.le_of_ble_eq_true rfl⟩, ⟨Nat.le_of_ble_eq_true rfl, Nat.le_of_ble_eq_true rfl⟩⟩ hl.1 rfl (Nat.le_of_ble_eq_true rfl) dc_Chain_init_9) hP hD hS hc [1] [0] rfl rfl (by decide) (by decide) (fun  w H locs hw1 hP hD hS => ?_)
  subst hw1
  have hP : va_P D fq_cl ([(h, .inr (6, [.null, .null, .int 0])), (q1, .inr (11, [.ref tE, .int 0, .int 0]))]) _ := hP
  have hD : va_D A ([(h, .inr (6, [.null, .null, .int 0])), (q1, .inr (11, [.ref tE, .int 0, .int 0]))]) := hD
  refine fq_putF K hK cl_Chain hP hD hS hin 0 0 rfl (by decide) wd_105 rfl rfl rfl rfl (Nat.le_of_ble_eq_true rfl) dc_Chain_init_12 (fun H locs hP hD hS => ?_)
  have hP : va_P D fq_cl ([(h, .inr (6, [.ref q1, .null, .int 0])), (q1, .inr (11, [.ref tE, .int 0, .int 0]))]) _ := hP
  have hD : va_D A ([(h, .inr (6, [.ref q1, .null, .int 0])), (q1, .inr (11, [.ref tE, .int 0, .int 0]))]) := hD
  refine lv_aload_n K.1 K.2.1 dc_Chain_init_15 rfl (lv_at hl 0 rfl) ?_
  refine fq_new (fs := [.null, .int 0, .int 0]) K hK cl_Row wd_88 wd_89 wd_31 hP hD hS hA (by decide) (Nat.le_of_ble_eq_true rfl) (Nat.le_of_ble_eq_true rfl) dc_Chain_init_16 (fun q2 H hP hD hS => ?_)
  have hP : va_P D fq_cl ([(h, .inr (6, [.ref q1, .null, .int 0])), (q1, .inr (11, [.ref tE, .int 0, .int 0])), (q2, .inr (0, [.null, .int 0, .int 0]))]) _ := hP
  have hD : va_D A ([(h, .inr (6, [.ref q1, .null, .int 0])), (q1, .inr (11, [.ref tE, .int 0, .int 0])), (q2, .inr (0, [.null, .int 0, .int 0]))]) := hD
  refine lv_dup K.1 K.2.1 dc_Chain_init_19 rfl ?_
  refine lv_sipush (v := 366) K.1 K.2.1 dc_Chain_init_20 (by decide) ?_
  refine fq_asi (y := nI 366) (by decide) ?_
  have hc := fq_cut.of (wc := [(q2, .inr (0, [.null, .int 0, .int 0]))]) hP hD hS hA [2] (by decide) rfl
  refine fq_cv (wr := [(h, .inr (6, [.ref q1, .null, .int 0])), (q1, .inr (11, [.ref tE, .int 0, .int 0]))]) (fq_rI K hK hZ hS hc (ct_Row_init l D cI cO tE q2 366 (by decide) _) yk_Row_init wd_91 rfl wd_90 ⟨⟨rfl, rfl⟩, ⟨Nat.le_of_ble_eq_true rfl, Nat.le_of_ble_eq_true rfl⟩, ⟨Nat.le_of_ble_eq_true rfl, Nat.le_of_ble_eq_true rfl⟩⟩ hl.1 rfl (Nat.le_of_ble_eq_true rfl) dc_Chain_init_23) hP hD hS hc [2] [0, 1] rfl rfl (by decide) (by decide) (fun  w H locs hw2 hP hD hS => ?_)
  obtain ⟨q3, rfl⟩ := hw2
  have hP : va_P D fq_cl ([(h, .inr (6, [.ref q1, .null, .int 0])), (q1, .inr (11, [.ref tE, .int 0, .int 0])), (q2, .inr (0, [.ref q3, .int 0, .int 0])), (q3, .inl (cI, 366, .inl (fun _ => 0)))]) _ := hP
  have hD : va_D A ([(h, .inr (6, [.ref q1, .null, .int 0])), (q1, .inr (11, [.ref tE, .int 0, .int 0])), (q2, .inr (0, [.ref q3, .int 0, .int 0])), (q3, .inl (cI, 366, .inl (fun _ => 0)))]) := hD
  refine fq_putF K hK cl_Chain hP hD hS hin 0 1 rfl (by decide) wd_106 rfl rfl rfl rfl (Nat.le_of_ble_eq_true rfl) dc_Chain_init_26 (fun H locs hP hD hS => ?_)
  have hP : va_P D fq_cl ([(h, .inr (6, [.ref q1, .ref q2, .int 0])), (q1, .inr (11, [.ref tE, .int 0, .int 0])), (q2, .inr (0, [.ref q3, .int 0, .int 0])), (q3, .inl (cI, 366, .inl (fun _ => 0)))]) _ := hP
  have hD : va_D A ([(h, .inr (6, [.ref q1, .ref q2, .int 0])), (q1, .inr (11, [.ref tE, .int 0, .int 0])), (q2, .inr (0, [.ref q3, .int 0, .int 0])), (q3, .inl (cI, 366, .inl (fun _ => 0)))]) := hD
  exact fq_retv K hret hlk hS hP hD ⟨_, _, _, rfl⟩ dc_Chain_init_29 (Nat.le_of_ble_eq_true rfl) (Nat.le_of_ble_eq_true rfl)
end
section
theorem wd_273 : Cond.instanceMethod my_Chain_append ∈ fq_TB := fq_in 273 (by decide +kernel) rfl
theorem wd_274 : Cond.selects cn_Chain my_Chain_append my_Chain_append ∈ fq_TB := fq_in 274 (by decide +kernel) rfl
theorem wd_275 : Cond.code my_Chain_append cb_Chain_append 2 none ∈ fq_TB := fq_in 275 (by decide +kernel) rfl
theorem wd_276 : Cond.methodLink cn_Chain 41 my_AL_add ∈ fq_TB := fq_in 276 (by decide +kernel) rfl
theorem wd_447 : Cond.instanceMethod my_Chain_appendResampler ∈ fq_TB := fq_in 447 (by decide +kernel) rfl
theorem wd_448 : Cond.selects cn_Chain my_Chain_appendResampler my_Chain_appendResampler ∈ fq_TB := fq_in 448 (by decide +kernel) rfl
theorem wd_449 : Cond.code my_Chain_appendResampler cb_Chain_appendResampler 2 none ∈ fq_TB := fq_in 449 (by decide +kernel) rfl
theorem wd_463 : Cond.instanceMethod my_Chain_stage ∈ fq_TB := fq_in 463 (by decide +kernel) rfl
theorem wd_464 : Cond.selects cn_Chain my_Chain_stage my_Chain_stage ∈ fq_TB := fq_in 464 (by decide +kernel) rfl
theorem wd_465 : Cond.code my_Chain_stage cb_Chain_stage 2 (some (.object "FilterPipe$Stage")) ∈ fq_TB := fq_in 465 (by decide +kernel) rfl

def st_ad (sts : List ch_T) (x : Int32) : Option Nat := if x < 0 then none else (sts[x.toNatClampNeg]?).map (·.1)
theorem st_ad0 (x : Int32) : st_ad [] x = none := by unfold st_ad; split <;> rfl
theorem st_ad1 {sts : List ch_T} {x : Int32} (hl : sts.length < 2 ^ 31) (h : x < 0 ∨ ¬ x < nI sts.length) : st_ad sts x = none := by
  unfold st_ad
  split
  · rfl
  · rename_i hx
    obtain ⟨k, hk, rfl⟩ := nI_of hx
    rcases h with h | h
    · exact absurd h hx
    · rw [nI_ltI hk hl] at h
      rw [nI_clamp hk, List.getElem?_eq_none (by omega)]
      rfl
theorem st_ad2 {sts : List ch_T} {x : Int32} {k : Nat} {s : ch_T} (hk : k < 2 ^ 31) (hx : x = nI k) (h : sts[k]? = some s) : st_ad sts x = some s.1 := by
  unfold st_ad
  rw [hx, if_neg (nI_pos hk), nI_clamp hk, h]
  rfl
theorem al_addA {tE hL qe q : Nat} {cO : ClassId} {mo : Int32} {sts : List ch_T} {s0 : ch_T} (hn : sts = []) (hq : s0.1 = q) : al_W tE cO hL (sts ++ [s0]) [(hL, .inr (11, [.ref qe, .int (nI 1), .int mo])), (qe, .inl (cO, 10, .inr (.inr (.inr (.inr (va_up (fun _ => none) 0 (some q)))))))] := by
  subst hn
  refine Or.inr ⟨qe, mo, _, rfl, (by decide : 1 ≤ 5), fun k s hk => ?_⟩
  cases k with
  | zero =>
    have e : s0 = s := Option.some.inj hk
    rw [← e, hq]; rfl
  | succ k => simp at hk
theorem al_addB {tE hL e q : Nat} {cO : ClassId} {mo : Int32} {f : Nat → Option Nat} {sts : List ch_T} {s0 : ch_T} (hl : sts.length < 5) (hq : s0.1 = q) (hf : ∀ (k : Nat) (s : ch_T), sts[k]? = some s → f k = some s.1) : al_W tE cO hL (sts ++ [s0]) [(hL, .inr (11, [.ref e, .int (nI (sts.length + 1)), .int mo])), (e, .inl (cO, 10, .inr (.inr (.inr (.inr (va_up f sts.length (some q)))))))] := by
  have hln : (sts ++ [s0]).length = sts.length + 1 := by simp
  refine Or.inr ⟨e, mo, _, by rw [hln], by rw [hln]; omega, fun k s hk => ?_⟩
  by_cases c : k < sts.length
  · rw [List.getElem?_append_left c] at hk
    unfold va_up
    rw [if_neg (by omega)]
    exact hf k s hk
  · rw [List.getElem?_append_right (by omega)] at hk
    have hz : k - sts.length = 0 := by
      have := (List.getElem?_eq_some_iff.mp hk).1
      simp at this; omega
    rw [hz] at hk
    have e1 : s0 = s := Option.some.inj hk
    unfold va_up
    rw [if_pos (by omega), ← e1, hq]

theorem dc_Chain_stage_0 : decode cb_Chain_stage 0 = .ok (.iload_n 1, 1) := by decide +kernel
theorem dc_Chain_stage_1 : decode cb_Chain_stage 1 = .ok (.ifCond .lt 14, 3) := by decide +kernel
theorem dc_Chain_stage_4 : decode cb_Chain_stage 4 = .ok (.iload_n 1, 1) := by decide +kernel
theorem dc_Chain_stage_5 : decode cb_Chain_stage 5 = .ok (.aload_n 0, 1) := by decide +kernel
theorem dc_Chain_stage_6 : decode cb_Chain_stage 6 = .ok (.getfield 12, 3) := by decide +kernel
theorem dc_Chain_stage_9 : decode cb_Chain_stage 9 = .ok (.invokevirtual 27, 3) := by decide +kernel
theorem dc_Chain_stage_12 : decode cb_Chain_stage 12 = .ok (.if_icmp .lt 7, 3) := by decide +kernel
theorem dc_Chain_stage_15 : decode cb_Chain_stage 15 = .ok (.aconst_null, 1) := by decide +kernel
theorem dc_Chain_stage_16 : decode cb_Chain_stage 16 = .ok (.goto 14, 3) := by decide +kernel
theorem dc_Chain_stage_19 : decode cb_Chain_stage 19 = .ok (.aload_n 0, 1) := by decide +kernel
theorem dc_Chain_stage_20 : decode cb_Chain_stage 20 = .ok (.getfield 12, 3) := by decide +kernel
theorem dc_Chain_stage_23 : decode cb_Chain_stage 23 = .ok (.iload_n 1, 1) := by decide +kernel
theorem dc_Chain_stage_24 : decode cb_Chain_stage 24 = .ok (.invokevirtual 31, 3) := by decide +kernel
theorem dc_Chain_stage_27 : decode cb_Chain_stage 27 = .ok (.checkcast 35, 3) := by decide +kernel
theorem dc_Chain_stage_30 : decode cb_Chain_stage 30 = .ok (.areturn, 1) := by decide +kernel
theorem yk_Chain_stage : fq_Y my_Chain_stage cb_Chain_stage 2 (some (.object "FilterPipe$Stage")) 1 := ⟨wd_465, wd_27, by decide +kernel⟩
theorem dc_Chain_append_0 : decode cb_Chain_append 0 = .ok (.aload_n 0, 1) := by decide +kernel
theorem dc_Chain_append_1 : decode cb_Chain_append 1 = .ok (.getfield 12, 3) := by decide +kernel
theorem dc_Chain_append_4 : decode cb_Chain_append 4 = .ok (.aload_n 1, 1) := by decide +kernel
theorem dc_Chain_append_5 : decode cb_Chain_append 5 = .ok (.invokevirtual 41, 3) := by decide +kernel
theorem dc_Chain_append_8 : decode cb_Chain_append 8 = .ok (.pop, 1) := by decide +kernel
theorem dc_Chain_append_9 : decode cb_Chain_append 9 = .ok (.return_, 1) := by decide +kernel
theorem yk_Chain_append : fq_Y my_Chain_append cb_Chain_append 2 none 1 := ⟨wd_275, wd_27, by decide +kernel⟩
theorem dc_Chain_appendResampler_0 : decode cb_Chain_appendResampler 0 = .ok (.aload_n 0, 1) := by decide +kernel
theorem dc_Chain_appendResampler_1 : decode cb_Chain_appendResampler 1 = .ok (.getfield 12, 3) := by decide +kernel
theorem dc_Chain_appendResampler_4 : decode cb_Chain_appendResampler 4 = .ok (.aload_n 1, 1) := by decide +kernel
theorem dc_Chain_appendResampler_5 : decode cb_Chain_appendResampler 5 = .ok (.invokevirtual 41, 3) := by decide +kernel
theorem dc_Chain_appendResampler_8 : decode cb_Chain_appendResampler 8 = .ok (.pop, 1) := by decide +kernel
theorem dc_Chain_appendResampler_9 : decode cb_Chain_appendResampler 9 = .ok (.aload_n 0, 1) := by decide +kernel
theorem dc_Chain_appendResampler_10 : decode cb_Chain_appendResampler 10 = .ok (.dup, 1) := by decide +kernel
theorem dc_Chain_appendResampler_11 : decode cb_Chain_appendResampler 11 = .ok (.getfield 37, 3) := by decide +kernel
theorem dc_Chain_appendResampler_14 : decode cb_Chain_appendResampler 14 = .ok (.iconst 1, 1) := by decide +kernel
theorem dc_Chain_appendResampler_15 : decode cb_Chain_appendResampler 15 = .ok (.iadd, 1) := by decide +kernel
theorem dc_Chain_appendResampler_16 : decode cb_Chain_appendResampler 16 = .ok (.putfield 37, 3) := by decide +kernel
theorem dc_Chain_appendResampler_19 : decode cb_Chain_appendResampler 19 = .ok (.return_, 1) := by decide +kernel
theorem yk_Chain_appendResampler : fq_Y my_Chain_appendResampler cb_Chain_appendResampler 2 none 1 := ⟨wd_449, wd_27, by decide +kernel⟩
set_option maxHeartbeats 4000000 in
set_option maxRecDepth 100000 in
theorem ct_Chain_length (l : Launch) (D : va_G) (cI cO : ClassId) (tE : Nat) (h hL hR : Nat) (rs : Int32) (sts : List ch_T) (wl : va_W) (hal : al_W tE cO hL sts wl) (sz : Nat) : Met l my_Chain_length (fq_w my_Chain_length cb_Chain_length 1 (some .int)) ({ frames := 1, cells := 0, slots := 0, locals := 20 }) (va_Pc ([.ref h]) (fq_Pre D cI cO tE sz ([(h, .inr (6, [.ref hL, .ref hR, .int rs]))] ++ wl))) (va_Qi (S := va_W) (fun r w => w = [(h, .inr (6, [.ref hL, .ref hR, .int rs]))] ++ wl ∧ r = nI sts.length) (fq_Bw D (va_A ([(h, .inr (6, [.ref hL, .ref hR, .int rs]))] ++ wl) sz)) (va_A ([(h, .inr (6, [.ref hL, .ref hR, .int rs]))] ++ wl) sz)) (0) (0) (va_A ([(h, .inr (6, [.ref hL, .ref hR, .int rs]))] ++ wl) sz) := by
  refine fq_open (by decide +kernel) (Nat.le_of_ble_eq_true rfl) ?_
  intro pg ev s mt below meth cd ls K hret hlk hin hK hZ hP hD hA hS hl
  generalize va_A ([(h, .inr (6, [.ref hL, .ref hR, .int rs]))] ++ wl) sz = A at hZ hD hA hS ⊢
  have K : fq_Ctx pg mt cd cb_Chain_length 1 s _ cn_Chain := K
  have hl : lv_has ls 1 [(0, .ref h)] := hl
  rcases hal with ⟨hnil, mo, rfl⟩ | ⟨eE, mo, fE, rfl, hle, hfE⟩
  · skip
    have hP : va_P D fq_cl ([(h, .inr (6, [.ref hL, .ref hR, .int rs])), (hL, .inr (11, [.ref tE, .int (nI 0), .int mo]))]) _ := hP
    have hD : va_D A ([(h, .inr (6, [.ref hL, .ref hR, .int rs])), (hL, .inr (11, [.ref tE, .int (nI 0), .int mo]))]) := hD
    refine lv_aload_n K.1 K.2.1 dc_Chain_length_0 rfl (lv_at hl 0 rfl) ?_
    refine fq_get K hK cl_Chain hP 0 0 rfl (by decide) wd_105 rfl dc_Chain_length_1 ?_
    have hc := fq_cut.of (wc := [(hL, .inr (11, [.ref tE, .int (nI 0), .int mo]))]) hP hD hS hA [1] (by decide) rfl
    refine fq_ci (wr := [(h, .inr (6, [.ref hL, .ref hR, .int rs]))]) (fq_rV K hK hZ hS hc (ct_AL_size l D cI cO tE hL tE (nI 0) mo _) yk_AL_size wd_229 wd_230 wd_228 0 rfl rfl rfl ⟨⟨rfl, rfl⟩, ⟨Nat.le_of_ble_eq_true rfl, Nat.le_of_ble_eq_true rfl⟩, ⟨Nat.le_of_ble_eq_true rfl, Nat.le_of_ble_eq_true rfl⟩⟩ hl.1 rfl (Nat.le_of_ble_eq_true rfl) dc_Chain_length_4) hP hD hS hc [1] [0] rfl rfl (by decide) (by decide) (fun r1 w H locs hw1 hP hD hS => ?_)
    obtain ⟨rfl, rfl⟩ := hw1
    have hP : va_P D fq_cl ([(h, .inr (6, [.ref hL, .ref hR, .int rs])), (hL, .inr (11, [.ref tE, .int (nI 0), .int mo]))]) _ := hP
    have hD : va_D A ([(h, .inr (6, [.ref hL, .ref hR, .int rs])), (hL, .inr (11, [.ref tE, .int (nI 0), .int mo]))]) := hD
    have hP : va_P D fq_cl ([(h, .inr (6, [.ref hL, .ref hR, .int rs]))] ++ [(hL, .inr (11, [.ref tE, .int (nI 0), .int mo]))]) _ := hP
    have hD : va_D A ([(h, .inr (6, [.ref hL, .ref hR, .int rs]))] ++ [(hL, .inr (11, [.ref tE, .int (nI 0), .int mo]))]) := hD
    exact fq_reti K hret hlk hS hP hD ⟨rfl, by rw [hnil]; rfl⟩ dc_Chain_length_7 (Nat.le_of_ble_eq_true rfl) (Nat.le_of_ble_eq_true rfl)
  · skip
    have hP : va_P D fq_cl ([(h, .inr (6, [.ref hL, .ref hR, .int rs])), (hL, .inr (11, [.ref eE, .int (nI sts.length), .int mo])), (eE, .inl (cO, 10, .inr (.inr (.inr (.inr fE)))))]) _ := hP
    have hD : va_D A ([(h, .inr (6, [.ref hL, .ref hR, .int rs])), (hL, .inr (11, [.ref eE, .int (nI sts.length), .int mo])), (eE, .inl (cO, 10, .inr (.inr (.inr (.inr fE)))))]) := hD
    refine lv_aload_n K.1 K.2.1 dc_Chain_length_0 rfl (lv_at hl 0 rfl) ?_
    refine fq_get K hK cl_Chain hP 0 0 rfl (by decide) wd_105 rfl dc_Chain_length_1 ?_
    have hc := fq_cut.of (wc := [(hL, .inr (11, [.ref eE, .int (nI sts.length), .int mo]))]) hP hD hS hA [1] (by decide) rfl
    refine fq_ci (wr := [(h, .inr (6, [.ref hL, .ref hR, .int rs])), (eE, .inl (cO, 10, .inr (.inr (.inr (.inr fE)))))]) (fq_rV K hK hZ hS hc (ct_AL_size l D cI cO tE hL eE (nI sts.length) mo _) yk_AL_size wd_229 wd_230 wd_228 0 rfl rfl rfl ⟨⟨rfl, rfl⟩, ⟨Nat.le_of_ble_eq_true rfl, Nat.le_of_ble_eq_true rfl⟩, ⟨Nat.le_of_ble_eq_true rfl, Nat.le_of_ble_eq_true rfl⟩⟩ hl.1 rfl (Nat.le_of_ble_eq_true rfl) dc_Chain_length_4) hP hD hS hc [1] [0, 2] rfl rfl (by decide) (by decide) (fun r2 w H locs hw2 hP hD hS => ?_)
    obtain ⟨rfl, rfl⟩ := hw2
    have hP : va_P D fq_cl ([(h, .inr (6, [.ref hL, .ref hR, .int rs])), (eE, .inl (cO, 10, .inr (.inr (.inr (.inr fE))))), (hL, .inr (11, [.ref eE, .int (nI sts.length), .int mo]))]) _ := hP
    have hD : va_D A ([(h, .inr (6, [.ref hL, .ref hR, .int rs])), (eE, .inl (cO, 10, .inr (.inr (.inr (.inr fE))))), (hL, .inr (11, [.ref eE, .int (nI sts.length), .int mo]))]) := hD
    have hP := hP.sub (ws' := [(h, .inr (6, [.ref hL, .ref hR, .int rs])), (hL, .inr (11, [.ref eE, .int (nI sts.length), .int mo])), (eE, .inl (cO, 10, .inr (.inr (.inr (.inr fE)))))]) [0, 2, 1] rfl
    have hD := hD.sub (ws' := [(h, .inr (6, [.ref hL, .ref hR, .int rs])), (hL, .inr (11, [.ref eE, .int (nI sts.length), .int mo])), (eE, .inl (cO, 10, .inr (.inr (.inr (.inr fE)))))]) [0, 2, 1] (by decide) rfl
    have hP : va_P D fq_cl ([(h, .inr (6, [.ref hL, .ref hR, .int rs]))] ++ [(hL, .inr (11, [.ref eE, .int (nI sts.length), .int mo])), (eE, .inl (cO, 10, .inr (.inr (.inr (.inr fE)))))]) _ := hP
    have hD : va_D A ([(h, .inr (6, [.ref hL, .ref hR, .int rs]))] ++ [(hL, .inr (11, [.ref eE, .int (nI sts.length), .int mo])), (eE, .inl (cO, 10, .inr (.inr (.inr (.inr fE)))))]) := hD
    exact fq_reti K hret hlk hS hP hD ⟨rfl, rfl⟩ dc_Chain_length_7 (Nat.le_of_ble_eq_true rfl) (Nat.le_of_ble_eq_true rfl)
set_option maxHeartbeats 4000000 in
set_option maxRecDepth 100000 in
theorem ct_Chain_stage (l : Launch) (D : va_G) (cI cO : ClassId) (tE : Nat) (h hL hR : Nat) (rs : Int32) (x : Int32) (sts : List ch_T) (wl : va_W) (Ls : List va_W) (hal : al_W tE cO hL sts wl) (hch : ch_ok cI Ls sts) (sz : Nat) : Met l my_Chain_stage (fq_w my_Chain_stage cb_Chain_stage 2 (some (.object "FilterPipe$Stage"))) ({ frames := 3, cells := 0, slots := 0, locals := 64 }) (va_Pc ([.ref h, .int x]) (fq_Pre D cI cO tE sz ([(h, .inr (6, [.ref hL, .ref hR, .int rs]))] ++ (wl :: Ls).flatten))) (va_Qq (S := va_W) (fun r w => w = [(h, .inr (6, [.ref hL, .ref hR, .int rs]))] ++ (wl :: Ls).flatten ∧ r = st_ad sts x) (fq_Bw D (va_A ([(h, .inr (6, [.ref hL, .ref hR, .int rs]))] ++ (wl :: Ls).flatten) sz)) (va_A ([(h, .inr (6, [.ref hL, .ref hR, .int rs]))] ++ (wl :: Ls).flatten) sz)) (0) (0) (va_A ([(h, .inr (6, [.ref hL, .ref hR, .int rs]))] ++ (wl :: Ls).flatten) sz) := by
  refine fq_open (by decide +kernel) (Nat.le_of_ble_eq_true rfl) ?_
  intro pg ev s mt below meth cd ls K hret hlk hin hK hZ hP hD hA hS hl
  generalize va_A ([(h, .inr (6, [.ref hL, .ref hR, .int rs]))] ++ (wl :: Ls).flatten) sz = A at hZ hD hA hS ⊢
  have K : fq_Ctx pg mt cd cb_Chain_stage 2 s _ cn_Chain := K
  have hl : lv_has ls 2 [(0, .ref h), (1, .int x)] := hl
  rcases hal with ⟨hnil, mo, rfl⟩ | ⟨eE, mo, fE, rfl, hle, hfE⟩
  · skip
    have hP : va_P D fq_cl ([(h, .inr (6, [.ref hL, .ref hR, .int rs])), (hL, .inr (11, [.ref tE, .int (nI 0), .int mo]))] ++ Ls.flatten) _ := hP
    have hD : va_D A ([(h, .inr (6, [.ref hL, .ref hR, .int rs])), (hL, .inr (11, [.ref tE, .int (nI 0), .int mo]))] ++ Ls.flatten) := hD
    refine lv_iload_n K.1 K.2.1 dc_Chain_stage_0 rfl (lv_at hl 1 rfl) ?_
    refine lv_if_lt (tgt := 15) K.1 K.2.1 dc_Chain_stage_1 rfl (fun b1 => ?_) (fun b1 => ?_)
    · skip
      refine lv_null K.1 K.2.1 dc_Chain_stage_15 ?_
      refine lv_goto (tgt := 30) K.1 K.2.1 dc_Chain_stage_16 rfl ?_
      have hP : va_P D fq_cl ([(h, .inr (6, [.ref hL, .ref hR, .int rs]))] ++ ([(hL, .inr (11, [.ref tE, .int (nI 0), .int mo]))] :: Ls).flatten) _ := hP
      have hD : va_D A ([(h, .inr (6, [.ref hL, .ref hR, .int rs]))] ++ ([(hL, .inr (11, [.ref tE, .int (nI 0), .int mo]))] :: Ls).flatten) := hD
      exact fq_retq (r := none) K hret (Or.inl ⟨_, rfl⟩) hlk hS hP hD ⟨rfl, by rw [hnil]; exact (st_ad0 x).symm⟩ dc_Chain_stage_30 (Nat.le_of_ble_eq_true rfl) (Nat.le_of_ble_eq_true rfl)
    · skip
      refine lv_iload_n K.1 K.2.1 dc_Chain_stage_4 rfl (lv_at hl 1 rfl) ?_
      refine lv_aload_n K.1 K.2.1 dc_Chain_stage_5 rfl (lv_at hl 0 rfl) ?_
      refine fq_get K hK cl_Chain hP 0 0 rfl (by decide) wd_105 rfl dc_Chain_stage_6 ?_
      have hc := fq_cutT (X := [(h, .inr (6, [.ref hL, .ref hR, .int rs])), (hL, .inr (11, [.ref tE, .int (nI 0), .int mo]))]) (T := Ls.flatten) (cx := [(hL, .inr (11, [.ref tE, .int (nI 0), .int mo]))]) hP hD hS hA [1] (by decide) rfl
      refine fq_ciT (wr := [(h, .inr (6, [.ref hL, .ref hR, .int rs]))]) (fq_rV K hK hZ hS hc (ct_AL_size l D cI cO tE hL tE (nI 0) mo _) yk_AL_size wd_229 wd_230 wd_228 0 rfl rfl rfl ⟨⟨rfl, rfl⟩, ⟨Nat.le_of_ble_eq_true rfl, Nat.le_of_ble_eq_true rfl⟩, ⟨Nat.le_of_ble_eq_true rfl, Nat.le_of_ble_eq_true rfl⟩⟩ hl.1 rfl (Nat.le_of_ble_eq_true rfl) dc_Chain_stage_9) hP hD hS hc [1] [0] rfl rfl (by decide) (by decide) (fun r1 w H locs hw1 hP hD hS => ?_)
      obtain ⟨rfl, rfl⟩ := hw1
      have hP : va_P D fq_cl ([(h, .inr (6, [.ref hL, .ref hR, .int rs])), (hL, .inr (11, [.ref tE, .int (nI 0), .int mo]))] ++ Ls.flatten) _ := hP
      have hD : va_D A ([(h, .inr (6, [.ref hL, .ref hR, .int rs])), (hL, .inr (11, [.ref tE, .int (nI 0), .int mo]))] ++ Ls.flatten) := hD
      refine lv_icmp_lt (tgt := 19) K.1 K.2.1 dc_Chain_stage_12 rfl (fun b12 => absurd b12 (by rw [nI_0]; exact b1)) (fun b12 => ?_)
      refine lv_null K.1 K.2.1 dc_Chain_stage_15 ?_
      refine lv_goto (tgt := 30) K.1 K.2.1 dc_Chain_stage_16 rfl ?_
      have hP : va_P D fq_cl ([(h, .inr (6, [.ref hL, .ref hR, .int rs]))] ++ ([(hL, .inr (11, [.ref tE, .int (nI 0), .int mo]))] :: Ls).flatten) _ := hP
      have hD : va_D A ([(h, .inr (6, [.ref hL, .ref hR, .int rs]))] ++ ([(hL, .inr (11, [.ref tE, .int (nI 0), .int mo]))] :: Ls).flatten) := hD
      exact fq_retq (r := none) K hret (Or.inl ⟨_, rfl⟩) hlk hS hP hD ⟨rfl, by rw [hnil]; exact (st_ad0 x).symm⟩ dc_Chain_stage_30 (Nat.le_of_ble_eq_true rfl) (Nat.le_of_ble_eq_true rfl)
  · skip
    have hP : va_P D fq_cl ([(h, .inr (6, [.ref hL, .ref hR, .int rs])), (hL, .inr (11, [.ref eE, .int (nI sts.length), .int mo])), (eE, .inl (cO, 10, .inr (.inr (.inr (.inr fE)))))] ++ Ls.flatten) _ := hP
    have hD : va_D A ([(h, .inr (6, [.ref hL, .ref hR, .int rs])), (hL, .inr (11, [.ref eE, .int (nI sts.length), .int mo])), (eE, .inl (cO, 10, .inr (.inr (.inr (.inr fE)))))] ++ Ls.flatten) := hD
    refine lv_iload_n K.1 K.2.1 dc_Chain_stage_0 rfl (lv_at hl 1 rfl) ?_
    refine lv_if_lt (tgt := 15) K.1 K.2.1 dc_Chain_stage_1 rfl (fun b1 => ?_) (fun b1 => ?_)
    · skip
      refine lv_null K.1 K.2.1 dc_Chain_stage_15 ?_
      refine lv_goto (tgt := 30) K.1 K.2.1 dc_Chain_stage_16 rfl ?_
      have hP : va_P D fq_cl ([(h, .inr (6, [.ref hL, .ref hR, .int rs]))] ++ ([(hL, .inr (11, [.ref eE, .int (nI sts.length), .int mo])), (eE, .inl (cO, 10, .inr (.inr (.inr (.inr fE)))))] :: Ls).flatten) _ := hP
      have hD : va_D A ([(h, .inr (6, [.ref hL, .ref hR, .int rs]))] ++ ([(hL, .inr (11, [.ref eE, .int (nI sts.length), .int mo])), (eE, .inl (cO, 10, .inr (.inr (.inr (.inr fE)))))] :: Ls).flatten) := hD
      exact fq_retq (r := none) K hret (Or.inl ⟨_, rfl⟩) hlk hS hP hD ⟨rfl, (st_ad1 (by omega) (by first | exact Or.inl b1 | exact Or.inr b12)).symm⟩ dc_Chain_stage_30 (Nat.le_of_ble_eq_true rfl) (Nat.le_of_ble_eq_true rfl)
    · skip
      refine lv_iload_n K.1 K.2.1 dc_Chain_stage_4 rfl (lv_at hl 1 rfl) ?_
      refine lv_aload_n K.1 K.2.1 dc_Chain_stage_5 rfl (lv_at hl 0 rfl) ?_
      refine fq_get K hK cl_Chain hP 0 0 rfl (by decide) wd_105 rfl dc_Chain_stage_6 ?_
      have hc := fq_cutT (X := [(h, .inr (6, [.ref hL, .ref hR, .int rs])), (hL, .inr (11, [.ref eE, .int (nI sts.length), .int mo])), (eE, .inl (cO, 10, .inr (.inr (.inr (.inr fE)))))]) (T := Ls.flatten) (cx := [(hL, .inr (11, [.ref eE, .int (nI sts.length), .int mo]))]) hP hD hS hA [1] (by decide) rfl
      refine fq_ciT (wr := [(h, .inr (6, [.ref hL, .ref hR, .int rs])), (eE, .inl (cO, 10, .inr (.inr (.inr (.inr fE)))))]) (fq_rV K hK hZ hS hc (ct_AL_size l D cI cO tE hL eE (nI sts.length) mo _) yk_AL_size wd_229 wd_230 wd_228 0 rfl rfl rfl ⟨⟨rfl, rfl⟩, ⟨Nat.le_of_ble_eq_true rfl, Nat.le_of_ble_eq_true rfl⟩, ⟨Nat.le_of_ble_eq_true rfl, Nat.le_of_ble_eq_true rfl⟩⟩ hl.1 rfl (Nat.le_of_ble_eq_true rfl) dc_Chain_stage_9) hP hD hS hc [1] [0, 2] rfl rfl (by decide) (by decide) (fun r2 w H locs hw2 hP hD hS => ?_)
      obtain ⟨rfl, rfl⟩ := hw2
      have hP : va_P D fq_cl ([(h, .inr (6, [.ref hL, .ref hR, .int rs])), (eE, .inl (cO, 10, .inr (.inr (.inr (.inr fE))))), (hL, .inr (11, [.ref eE, .int (nI sts.length), .int mo]))] ++ Ls.flatten) _ := hP
      have hD : va_D A ([(h, .inr (6, [.ref hL, .ref hR, .int rs])), (eE, .inl (cO, 10, .inr (.inr (.inr (.inr fE))))), (hL, .inr (11, [.ref eE, .int (nI sts.length), .int mo]))] ++ Ls.flatten) := hD
      refine lv_icmp_lt (tgt := 19) K.1 K.2.1 dc_Chain_stage_12 rfl (fun b12 => ?_) (fun b12 => ?_)
      · skip
        obtain ⟨k, hk, hx⟩ := nI_of b1
        have hkl : k < sts.length := (nI_ltI hk (by omega)).mp (hx ▸ b12)
        obtain ⟨⟨hS0, sp, xs, m0⟩, hset0⟩ := ps_some hkl
        obtain ⟨gc, hgc, hsgc⟩ := ch_get hch hset0
        refine lv_aload_n K.1 K.2.1 dc_Chain_stage_19 rfl (lv_at hl 0 rfl) ?_
        refine fq_get K hK cl_Chain hP 0 0 rfl (by decide) wd_105 rfl dc_Chain_stage_20 ?_
        refine lv_iload_n K.1 K.2.1 dc_Chain_stage_23 rfl (lv_at hl 1 rfl) ?_
        refine fq_asi (y := nI k) hx ?_
        have hc := fq_cutT (X := [(h, .inr (6, [.ref hL, .ref hR, .int rs])), (eE, .inl (cO, 10, .inr (.inr (.inr (.inr fE))))), (hL, .inr (11, [.ref eE, .int (nI sts.length), .int mo]))]) (T := Ls.flatten) (cx := [(hL, .inr (11, [.ref eE, .int (nI sts.length), .int mo])), (eE, .inl (cO, 10, .inr (.inr (.inr (.inr fE)))))]) hP hD hS hA [2, 1] (by decide) rfl
        refine fq_cqT (wr := [(h, .inr (6, [.ref hL, .ref hR, .int rs]))]) (fq_rV K hK hZ hS hc (ct_AL_get l D cI cO tE hL eE sts.length mo fE k hS0 hkl (by omega) (hfE k _ hset0) _) yk_AL_get wd_467 wd_468 wd_466 0 rfl rfl rfl ⟨⟨rfl, rfl⟩, ⟨Nat.le_of_ble_eq_true rfl, Nat.le_of_ble_eq_true rfl⟩, ⟨Nat.le_of_ble_eq_true rfl, Nat.le_of_ble_eq_true rfl⟩⟩ hl.1 rfl (Nat.le_of_ble_eq_true rfl) dc_Chain_stage_24) hP hD hS hc [2, 1] [0] rfl rfl (by decide) (by decide) (fun r3 w H locs hw3 hP hD hS => ?_)
        obtain ⟨rfl, rfl⟩ := hw3
        have hP : va_P D fq_cl ([(h, .inr (6, [.ref hL, .ref hR, .int rs])), (hL, .inr (11, [.ref eE, .int (nI sts.length), .int mo])), (eE, .inl (cO, 10, .inr (.inr (.inr (.inr fE)))))] ++ Ls.flatten) _ := hP
        have hD : va_D A ([(h, .inr (6, [.ref hL, .ref hR, .int rs])), (hL, .inr (11, [.ref eE, .int (nI sts.length), .int mo])), (eE, .inl (cO, 10, .inr (.inr (.inr (.inr fE)))))] ++ Ls.flatten) := hD
        refine W.eq (g2 := F0 mt 27 ls [.ref hS0]) rfl ?_
        refine sg_cast K hK hsgc (fq_Pl (fq_permP (fq_gone hgc) hP)) (K.2.2.2.2 _ wd_480) dc_Chain_stage_27 ?_
        have hP : va_P D fq_cl ([(h, .inr (6, [.ref hL, .ref hR, .int rs]))] ++ ([(hL, .inr (11, [.ref eE, .int (nI sts.length), .int mo])), (eE, .inl (cO, 10, .inr (.inr (.inr (.inr fE)))))] :: Ls).flatten) _ := hP
        have hD : va_D A ([(h, .inr (6, [.ref hL, .ref hR, .int rs]))] ++ ([(hL, .inr (11, [.ref eE, .int (nI sts.length), .int mo])), (eE, .inl (cO, 10, .inr (.inr (.inr (.inr fE)))))] :: Ls).flatten) := hD
        exact fq_retq (r := some hS0) K hret (Or.inl ⟨_, rfl⟩) hlk hS hP hD ⟨rfl, (st_ad2 hk hx hset0).symm⟩ dc_Chain_stage_30 (Nat.le_of_ble_eq_true rfl) (Nat.le_of_ble_eq_true rfl)
      · skip
        refine lv_null K.1 K.2.1 dc_Chain_stage_15 ?_
        refine lv_goto (tgt := 30) K.1 K.2.1 dc_Chain_stage_16 rfl ?_
        have hP := va_P.part (X := [(h, .inr (6, [.ref hL, .ref hR, .int rs])), (eE, .inl (cO, 10, .inr (.inr (.inr (.inr fE))))), (hL, .inr (11, [.ref eE, .int (nI sts.length), .int mo]))]) (cx := [(h, .inr (6, [.ref hL, .ref hR, .int rs])), (hL, .inr (11, [.ref eE, .int (nI sts.length), .int mo])), (eE, .inl (cO, 10, .inr (.inr (.inr (.inr fE)))))]) hP [0, 2, 1] rfl
        have hD := va_D.part (X := [(h, .inr (6, [.ref hL, .ref hR, .int rs])), (eE, .inl (cO, 10, .inr (.inr (.inr (.inr fE))))), (hL, .inr (11, [.ref eE, .int (nI sts.length), .int mo]))]) (cx := [(h, .inr (6, [.ref hL, .ref hR, .int rs])), (hL, .inr (11, [.ref eE, .int (nI sts.length), .int mo])), (eE, .inl (cO, 10, .inr (.inr (.inr (.inr fE)))))]) hD [0, 2, 1] (by decide) rfl
        have hP : va_P D fq_cl ([(h, .inr (6, [.ref hL, .ref hR, .int rs]))] ++ ([(hL, .inr (11, [.ref eE, .int (nI sts.length), .int mo])), (eE, .inl (cO, 10, .inr (.inr (.inr (.inr fE)))))] :: Ls).flatten) _ := hP
        have hD : va_D A ([(h, .inr (6, [.ref hL, .ref hR, .int rs]))] ++ ([(hL, .inr (11, [.ref eE, .int (nI sts.length), .int mo])), (eE, .inl (cO, 10, .inr (.inr (.inr (.inr fE)))))] :: Ls).flatten) := hD
        exact fq_retq (r := none) K hret (Or.inl ⟨_, rfl⟩) hlk hS hP hD ⟨rfl, (st_ad1 (by omega) (by first | exact Or.inl b1 | exact Or.inr b12)).symm⟩ dc_Chain_stage_30 (Nat.le_of_ble_eq_true rfl) (Nat.le_of_ble_eq_true rfl)
set_option maxHeartbeats 4000000 in
set_option maxRecDepth 100000 in
theorem ct_Chain_append (l : Launch) (D : va_G) (cI cO : ClassId) (tE : Nat) (h hL hR : Nat) (rs : Int32) (q ci : Nat) (vs : List Value) (rc : vw_C) (s0 : ch_T) (sts : List ch_T) (wl : va_W) (hci : fq_cl[ci]? = some rc) (hcs : Cond.castable rc.1 cn_Oj ∈ lw_tbl) (hsq : s0.1 = q) (hlt : sts.length < 5) (hal : al_W tE cO hL sts wl) (sz : Nat) : Met l my_Chain_append (fq_w my_Chain_append cb_Chain_append 2 none) ({ frames := 5, cells := 1, slots := 10, locals := 101 }) (va_Pc ([.ref h, .ref q]) (fq_Pre D cI cO tE sz ([(h, .inr (6, [.ref hL, .ref hR, .int rs])), (q, .inr (ci, vs))] ++ wl))) (va_Qv (S := va_W) (fun w => ∃ wl2 : va_W, w = [(h, .inr (6, [.ref hL, .ref hR, .int rs])), (q, .inr (ci, vs))] ++ wl2 ∧ al_W tE cO hL (sts ++ [s0]) wl2) (fq_Bw D (va_A ([(h, .inr (6, [.ref hL, .ref hR, .int rs])), (q, .inr (ci, vs))] ++ wl) sz)) (va_A ([(h, .inr (6, [.ref hL, .ref hR, .int rs])), (q, .inr (ci, vs))] ++ wl) sz)) (1) (10) (va_A ([(h, .inr (6, [.ref hL, .ref hR, .int rs])), (q, .inr (ci, vs))] ++ wl) sz) := by
  refine fq_open (by decide +kernel) (Nat.le_of_ble_eq_true rfl) ?_
  intro pg ev s mt below meth cd ls K hret hlk hin hK hZ hP hD hA hS hl
  generalize va_A ([(h, .inr (6, [.ref hL, .ref hR, .int rs])), (q, .inr (ci, vs))] ++ wl) sz = A at hZ hD hA hS ⊢
  have K : fq_Ctx pg mt cd cb_Chain_append 2 s _ cn_Chain := K
  have hl : lv_has ls 2 [(0, .ref h), (1, .ref q)] := hl
  rcases hal with ⟨hnil, mo, rfl⟩ | ⟨eE, mo, fE, rfl, hle, hfE⟩
  · skip
    have hP : va_P D fq_cl ([(h, .inr (6, [.ref hL, .ref hR, .int rs])), (q, .inr (ci, vs)), (hL, .inr (11, [.ref tE, .int (nI 0), .int mo]))]) _ := hP
    have hD : va_D A ([(h, .inr (6, [.ref hL, .ref hR, .int rs])), (q, .inr (ci, vs)), (hL, .inr (11, [.ref tE, .int (nI 0), .int mo]))]) := hD
    refine lv_aload_n K.1 K.2.1 dc_Chain_append_0 rfl (lv_at hl 0 rfl) ?_
    refine fq_get K hK cl_Chain hP 0 0 rfl (by decide) wd_105 rfl dc_Chain_append_1 ?_
    refine lv_aload_n K.1 K.2.1 dc_Chain_append_4 rfl (lv_at hl 1 rfl) ?_
    have hc := fq_cut.of (wc := [(hL, .inr (11, [.ref tE, .int (nI 0), .int mo])), (q, .inr (ci, vs))]) hP hD hS hA [2, 1] (by decide) rfl
    refine fq_ci (wr := [(h, .inr (6, [.ref hL, .ref hR, .int rs]))]) (fq_rV K hK hZ hS hc (ct_AL_addA l D cI cO tE hL mo q ci vs rc hci hcs _) yk_AL_add wd_277 wd_278 wd_276 0 rfl rfl rfl ⟨⟨rfl, rfl⟩, ⟨Nat.le_of_ble_eq_true rfl, Nat.le_of_ble_eq_true rfl⟩, ⟨Nat.le_of_ble_eq_true rfl, Nat.le_of_ble_eq_true rfl⟩⟩ hl.1 rfl (Nat.le_of_ble_eq_true rfl) dc_Chain_append_5) hP hD hS hc [2, 1] [0] rfl rfl (by decide) (by decide) (fun r1 w H locs hw1 hP hD hS => ?_)
    obtain ⟨mo21, qe1, rfl, rfl⟩ := hw1
    have hP : va_P D fq_cl ([(h, .inr (6, [.ref hL, .ref hR, .int rs])), (hL, .inr (11, [.ref qe1, .int (nI 1), .int mo21])), (q, .inr (ci, vs)), (qe1, .inl (cO, 10, .inr (.inr (.inr (.inr (va_up (fun _ => none) 0 (some q)))))))]) _ := hP
    have hD : va_D A ([(h, .inr (6, [.ref hL, .ref hR, .int rs])), (hL, .inr (11, [.ref qe1, .int (nI 1), .int mo21])), (q, .inr (ci, vs)), (qe1, .inl (cO, 10, .inr (.inr (.inr (.inr (va_up (fun _ => none) 0 (some q)))))))]) := hD
    refine lv_pop K.1 K.2.1 dc_Chain_append_8 rfl ?_
    have hP := hP.sub (ws' := [(h, .inr (6, [.ref hL, .ref hR, .int rs])), (q, .inr (ci, vs)), (hL, .inr (11, [.ref qe1, .int (nI 1), .int mo21])), (qe1, .inl (cO, 10, .inr (.inr (.inr (.inr (va_up (fun _ => none) 0 (some q)))))))]) [0, 2, 1, 3] rfl
    have hD := hD.sub (ws' := [(h, .inr (6, [.ref hL, .ref hR, .int rs])), (q, .inr (ci, vs)), (hL, .inr (11, [.ref qe1, .int (nI 1), .int mo21])), (qe1, .inl (cO, 10, .inr (.inr (.inr (.inr (va_up (fun _ => none) 0 (some q)))))))]) [0, 2, 1, 3] (by decide) rfl
    have hP : va_P D fq_cl ([(h, .inr (6, [.ref hL, .ref hR, .int rs])), (q, .inr (ci, vs))] ++ [(hL, .inr (11, [.ref qe1, .int (nI 1), .int mo21])), (qe1, .inl (cO, 10, .inr (.inr (.inr (.inr (va_up (fun _ => none) 0 (some q)))))))]) _ := hP
    have hD : va_D A ([(h, .inr (6, [.ref hL, .ref hR, .int rs])), (q, .inr (ci, vs))] ++ [(hL, .inr (11, [.ref qe1, .int (nI 1), .int mo21])), (qe1, .inl (cO, 10, .inr (.inr (.inr (.inr (va_up (fun _ => none) 0 (some q)))))))]) := hD
    exact fq_retv K hret hlk hS hP hD ⟨_, rfl, al_addA hnil hsq⟩ dc_Chain_append_9 (Nat.le_of_ble_eq_true rfl) (Nat.le_of_ble_eq_true rfl)
  · skip
    have hP : va_P D fq_cl ([(h, .inr (6, [.ref hL, .ref hR, .int rs])), (q, .inr (ci, vs)), (hL, .inr (11, [.ref eE, .int (nI sts.length), .int mo])), (eE, .inl (cO, 10, .inr (.inr (.inr (.inr fE)))))]) _ := hP
    have hD : va_D A ([(h, .inr (6, [.ref hL, .ref hR, .int rs])), (q, .inr (ci, vs)), (hL, .inr (11, [.ref eE, .int (nI sts.length), .int mo])), (eE, .inl (cO, 10, .inr (.inr (.inr (.inr fE)))))]) := hD
    refine lv_aload_n K.1 K.2.1 dc_Chain_append_0 rfl (lv_at hl 0 rfl) ?_
    refine fq_get K hK cl_Chain hP 0 0 rfl (by decide) wd_105 rfl dc_Chain_append_1 ?_
    refine lv_aload_n K.1 K.2.1 dc_Chain_append_4 rfl (lv_at hl 1 rfl) ?_
    have hc := fq_cut.of (wc := [(hL, .inr (11, [.ref eE, .int (nI sts.length), .int mo])), (q, .inr (ci, vs)), (eE, .inl (cO, 10, .inr (.inr (.inr (.inr fE)))))]) hP hD hS hA [2, 1, 3] (by decide) rfl
    refine fq_ci (wr := [(h, .inr (6, [.ref hL, .ref hR, .int rs]))]) (fq_rV K hK hZ hS hc (ct_AL_addB l D cI cO tE hL eE sts.length mo fE q ci vs rc hci hcs (by omega) _) yk_AL_add wd_277 wd_278 wd_276 0 rfl rfl rfl ⟨⟨rfl, rfl⟩, ⟨Nat.le_of_ble_eq_true rfl, Nat.le_of_ble_eq_true rfl⟩, ⟨Nat.le_of_ble_eq_true rfl, Nat.le_of_ble_eq_true rfl⟩⟩ hl.1 rfl (Nat.le_of_ble_eq_true rfl) dc_Chain_append_5) hP hD hS hc [2, 1, 3] [0] rfl rfl (by decide) (by decide) (fun r2 w H locs hw2 hP hD hS => ?_)
    obtain ⟨mo22, rfl, rfl⟩ := hw2
    have hP : va_P D fq_cl ([(h, .inr (6, [.ref hL, .ref hR, .int rs])), (hL, .inr (11, [.ref eE, .int (nI (sts.length + 1)), .int mo22])), (q, .inr (ci, vs)), (eE, .inl (cO, 10, .inr (.inr (.inr (.inr (va_up fE sts.length (some q)))))))]) _ := hP
    have hD : va_D A ([(h, .inr (6, [.ref hL, .ref hR, .int rs])), (hL, .inr (11, [.ref eE, .int (nI (sts.length + 1)), .int mo22])), (q, .inr (ci, vs)), (eE, .inl (cO, 10, .inr (.inr (.inr (.inr (va_up fE sts.length (some q)))))))]) := hD
    refine lv_pop K.1 K.2.1 dc_Chain_append_8 rfl ?_
    have hP := hP.sub (ws' := [(h, .inr (6, [.ref hL, .ref hR, .int rs])), (q, .inr (ci, vs)), (hL, .inr (11, [.ref eE, .int (nI (sts.length + 1)), .int mo22])), (eE, .inl (cO, 10, .inr (.inr (.inr (.inr (va_up fE sts.length (some q)))))))]) [0, 2, 1, 3] rfl
    have hD := hD.sub (ws' := [(h, .inr (6, [.ref hL, .ref hR, .int rs])), (q, .inr (ci, vs)), (hL, .inr (11, [.ref eE, .int (nI (sts.length + 1)), .int mo22])), (eE, .inl (cO, 10, .inr (.inr (.inr (.inr (va_up fE sts.length (some q)))))))]) [0, 2, 1, 3] (by decide) rfl
    have hP : va_P D fq_cl ([(h, .inr (6, [.ref hL, .ref hR, .int rs])), (q, .inr (ci, vs))] ++ [(hL, .inr (11, [.ref eE, .int (nI (sts.length + 1)), .int mo22])), (eE, .inl (cO, 10, .inr (.inr (.inr (.inr (va_up fE sts.length (some q)))))))]) _ := hP
    have hD : va_D A ([(h, .inr (6, [.ref hL, .ref hR, .int rs])), (q, .inr (ci, vs))] ++ [(hL, .inr (11, [.ref eE, .int (nI (sts.length + 1)), .int mo22])), (eE, .inl (cO, 10, .inr (.inr (.inr (.inr (va_up fE sts.length (some q)))))))]) := hD
    exact fq_retv K hret hlk hS hP hD ⟨_, rfl, al_addB hlt hsq hfE⟩ dc_Chain_append_9 (Nat.le_of_ble_eq_true rfl) (Nat.le_of_ble_eq_true rfl)
set_option maxHeartbeats 4000000 in
set_option maxRecDepth 100000 in
theorem ct_Chain_appendResampler (l : Launch) (D : va_G) (cI cO : ClassId) (tE : Nat) (h hL hR : Nat) (rs : Int32) (q ci : Nat) (vs : List Value) (rc : vw_C) (s0 : ch_T) (sts : List ch_T) (wl : va_W) (hci : fq_cl[ci]? = some rc) (hcs : Cond.castable rc.1 cn_Oj ∈ lw_tbl) (hsq : s0.1 = q) (hlt : sts.length < 5) (hal : al_W tE cO hL sts wl) (sz : Nat) : Met l my_Chain_appendResampler (fq_w my_Chain_appendResampler cb_Chain_appendResampler 2 none) ({ frames := 5, cells := 1, slots := 10, locals := 101 }) (va_Pc ([.ref h, .ref q]) (fq_Pre D cI cO tE sz ([(h, .inr (6, [.ref hL, .ref hR, .int rs])), (q, .inr (ci, vs))] ++ wl))) (va_Qv (S := va_W) (fun w => ∃ wl2 : va_W, w = [(h, .inr (6, [.ref hL, .ref hR, .int (rs + 1)])), (q, .inr (ci, vs))] ++ wl2 ∧ al_W tE cO hL (sts ++ [s0]) wl2) (fq_Bw D (va_A ([(h, .inr (6, [.ref hL, .ref hR, .int rs])), (q, .inr (ci, vs))] ++ wl) sz)) (va_A ([(h, .inr (6, [.ref hL, .ref hR, .int rs])), (q, .inr (ci, vs))] ++ wl) sz)) (1) (10) (va_A ([(h, .inr (6, [.ref hL, .ref hR, .int rs])), (q, .inr (ci, vs))] ++ wl) sz) := by
  refine fq_open (by decide +kernel) (Nat.le_of_ble_eq_true rfl) ?_
  intro pg ev s mt below meth cd ls K hret hlk hin hK hZ hP hD hA hS hl
  generalize va_A ([(h, .inr (6, [.ref hL, .ref hR, .int rs])), (q, .inr (ci, vs))] ++ wl) sz = A at hZ hD hA hS ⊢
  have K : fq_Ctx pg mt cd cb_Chain_appendResampler 2 s _ cn_Chain := K
  have hl : lv_has ls 2 [(0, .ref h), (1, .ref q)] := hl
  rcases hal with ⟨hnil, mo, rfl⟩ | ⟨eE, mo, fE, rfl, hle, hfE⟩
  · skip
    have hP : va_P D fq_cl ([(h, .inr (6, [.ref hL, .ref hR, .int rs])), (q, .inr (ci, vs)), (hL, .inr (11, [.ref tE, .int (nI 0), .int mo]))]) _ := hP
    have hD : va_D A ([(h, .inr (6, [.ref hL, .ref hR, .int rs])), (q, .inr (ci, vs)), (hL, .inr (11, [.ref tE, .int (nI 0), .int mo]))]) := hD
    refine lv_aload_n K.1 K.2.1 dc_Chain_appendResampler_0 rfl (lv_at hl 0 rfl) ?_
    refine fq_get K hK cl_Chain hP 0 0 rfl (by decide) wd_105 rfl dc_Chain_appendResampler_1 ?_
    refine lv_aload_n K.1 K.2.1 dc_Chain_appendResampler_4 rfl (lv_at hl 1 rfl) ?_
    have hc := fq_cut.of (wc := [(hL, .inr (11, [.ref tE, .int (nI 0), .int mo])), (q, .inr (ci, vs))]) hP hD hS hA [2, 1] (by decide) rfl
    refine fq_ci (wr := [(h, .inr (6, [.ref hL, .ref hR, .int rs]))]) (fq_rV K hK hZ hS hc (ct_AL_addA l D cI cO tE hL mo q ci vs rc hci hcs _) yk_AL_add wd_277 wd_278 wd_276 0 rfl rfl rfl ⟨⟨rfl, rfl⟩, ⟨Nat.le_of_ble_eq_true rfl, Nat.le_of_ble_eq_true rfl⟩, ⟨Nat.le_of_ble_eq_true rfl, Nat.le_of_ble_eq_true rfl⟩⟩ hl.1 rfl (Nat.le_of_ble_eq_true rfl) dc_Chain_appendResampler_5) hP hD hS hc [2, 1] [0] rfl rfl (by decide) (by decide) (fun r1 w H locs hw1 hP hD hS => ?_)
    obtain ⟨mo21, qe1, rfl, rfl⟩ := hw1
    have hP : va_P D fq_cl ([(h, .inr (6, [.ref hL, .ref hR, .int rs])), (hL, .inr (11, [.ref qe1, .int (nI 1), .int mo21])), (q, .inr (ci, vs)), (qe1, .inl (cO, 10, .inr (.inr (.inr (.inr (va_up (fun _ => none) 0 (some q)))))))]) _ := hP
    have hD : va_D A ([(h, .inr (6, [.ref hL, .ref hR, .int rs])), (hL, .inr (11, [.ref qe1, .int (nI 1), .int mo21])), (q, .inr (ci, vs)), (qe1, .inl (cO, 10, .inr (.inr (.inr (.inr (va_up (fun _ => none) 0 (some q)))))))]) := hD
    refine lv_pop K.1 K.2.1 dc_Chain_appendResampler_8 rfl ?_
    refine lv_aload_n K.1 K.2.1 dc_Chain_appendResampler_9 rfl (lv_at hl 0 rfl) ?_
    refine lv_dup K.1 K.2.1 dc_Chain_appendResampler_10 rfl ?_
    refine fq_get K hK cl_Chain hP 0 2 rfl (by decide) wd_107 rfl dc_Chain_appendResampler_11 ?_
    refine lv_iconst (v := 1) K.1 K.2.1 dc_Chain_appendResampler_14 (by decide) ?_
    refine lv_iadd K.1 K.2.1 dc_Chain_appendResampler_15 ?_
    refine lv_topi (fun v1 e_v1 => ?_)
    refine fq_put K hK cl_Chain hP hD hS 0 2 rfl (by decide) wd_107 rfl rfl rfl (Nat.le_of_ble_eq_true rfl) dc_Chain_appendResampler_16 (fun H locs hP hD hS => ?_)
    have hP : va_P D fq_cl ([(h, .inr (6, [.ref hL, .ref hR, .int v1])), (hL, .inr (11, [.ref qe1, .int (nI 1), .int mo21])), (q, .inr (ci, vs)), (qe1, .inl (cO, 10, .inr (.inr (.inr (.inr (va_up (fun _ => none) 0 (some q)))))))]) _ := hP
    have hD : va_D A ([(h, .inr (6, [.ref hL, .ref hR, .int v1])), (hL, .inr (11, [.ref qe1, .int (nI 1), .int mo21])), (q, .inr (ci, vs)), (qe1, .inl (cO, 10, .inr (.inr (.inr (.inr (va_up (fun _ => none) 0 (some q)))))))]) := hD
    have hP := hP.sub (ws' := [(h, .inr (6, [.ref hL, .ref hR, .int v1])), (q, .inr (ci, vs)), (hL, .inr (11, [.ref qe1, .int (nI 1), .int mo21])), (qe1, .inl (cO, 10, .inr (.inr (.inr (.inr (va_up (fun _ => none) 0 (some q)))))))]) [0, 2, 1, 3] rfl
    have hD := hD.sub (ws' := [(h, .inr (6, [.ref hL, .ref hR, .int v1])), (q, .inr (ci, vs)), (hL, .inr (11, [.ref qe1, .int (nI 1), .int mo21])), (qe1, .inl (cO, 10, .inr (.inr (.inr (.inr (va_up (fun _ => none) 0 (some q)))))))]) [0, 2, 1, 3] (by decide) rfl
    have hP : va_P D fq_cl ([(h, .inr (6, [.ref hL, .ref hR, .int v1])), (q, .inr (ci, vs))] ++ [(hL, .inr (11, [.ref qe1, .int (nI 1), .int mo21])), (qe1, .inl (cO, 10, .inr (.inr (.inr (.inr (va_up (fun _ => none) 0 (some q)))))))]) _ := hP
    have hD : va_D A ([(h, .inr (6, [.ref hL, .ref hR, .int v1])), (q, .inr (ci, vs))] ++ [(hL, .inr (11, [.ref qe1, .int (nI 1), .int mo21])), (qe1, .inl (cO, 10, .inr (.inr (.inr (.inr (va_up (fun _ => none) 0 (some q)))))))]) := hD
    exact fq_retv K hret hlk hS hP hD ⟨_, by rw [e_v1], al_addA hnil hsq⟩ dc_Chain_appendResampler_19 (Nat.le_of_ble_eq_true rfl) (Nat.le_of_ble_eq_true rfl)
  · skip
    have hP : va_P D fq_cl ([(h, .inr (6, [.ref hL, .ref hR, .int rs])), (q, .inr (ci, vs)), (hL, .inr (11, [.ref eE, .int (nI sts.length), .int mo])), (eE, .inl (cO, 10, .inr (.inr (.inr (.inr fE)))))]) _ := hP
    have hD : va_D A ([(h, .inr (6, [.ref hL, .ref hR, .int rs])), (q, .inr (ci, vs)), (hL, .inr (11, [.ref eE, .int (nI sts.length), .int mo])), (eE, .inl (cO, 10, .inr (.inr (.inr (.inr fE)))))]) := hD
    refine lv_aload_n K.1 K.2.1 dc_Chain_appendResampler_0 rfl (lv_at hl 0 rfl) ?_
    refine fq_get K hK cl_Chain hP 0 0 rfl (by decide) wd_105 rfl dc_Chain_appendResampler_1 ?_
    refine lv_aload_n K.1 K.2.1 dc_Chain_appendResampler_4 rfl (lv_at hl 1 rfl) ?_
    have hc := fq_cut.of (wc := [(hL, .inr (11, [.ref eE, .int (nI sts.length), .int mo])), (q, .inr (ci, vs)), (eE, .inl (cO, 10, .inr (.inr (.inr (.inr fE)))))]) hP hD hS hA [2, 1, 3] (by decide) rfl
    refine fq_ci (wr := [(h, .inr (6, [.ref hL, .ref hR, .int rs]))]) (fq_rV K hK hZ hS hc (ct_AL_addB l D cI cO tE hL eE sts.length mo fE q ci vs rc hci hcs (by omega) _) yk_AL_add wd_277 wd_278 wd_276 0 rfl rfl rfl ⟨⟨rfl, rfl⟩, ⟨Nat.le_of_ble_eq_true rfl, Nat.le_of_ble_eq_true rfl⟩, ⟨Nat.le_of_ble_eq_true rfl, Nat.le_of_ble_eq_true rfl⟩⟩ hl.1 rfl (Nat.le_of_ble_eq_true rfl) dc_Chain_appendResampler_5) hP hD hS hc [2, 1, 3] [0] rfl rfl (by decide) (by decide) (fun r2 w H locs hw2 hP hD hS => ?_)
    obtain ⟨mo22, rfl, rfl⟩ := hw2
    have hP : va_P D fq_cl ([(h, .inr (6, [.ref hL, .ref hR, .int rs])), (hL, .inr (11, [.ref eE, .int (nI (sts.length + 1)), .int mo22])), (q, .inr (ci, vs)), (eE, .inl (cO, 10, .inr (.inr (.inr (.inr (va_up fE sts.length (some q)))))))]) _ := hP
    have hD : va_D A ([(h, .inr (6, [.ref hL, .ref hR, .int rs])), (hL, .inr (11, [.ref eE, .int (nI (sts.length + 1)), .int mo22])), (q, .inr (ci, vs)), (eE, .inl (cO, 10, .inr (.inr (.inr (.inr (va_up fE sts.length (some q)))))))]) := hD
    refine lv_pop K.1 K.2.1 dc_Chain_appendResampler_8 rfl ?_
    refine lv_aload_n K.1 K.2.1 dc_Chain_appendResampler_9 rfl (lv_at hl 0 rfl) ?_
    refine lv_dup K.1 K.2.1 dc_Chain_appendResampler_10 rfl ?_
    refine fq_get K hK cl_Chain hP 0 2 rfl (by decide) wd_107 rfl dc_Chain_appendResampler_11 ?_
    refine lv_iconst (v := 1) K.1 K.2.1 dc_Chain_appendResampler_14 (by decide) ?_
    refine lv_iadd K.1 K.2.1 dc_Chain_appendResampler_15 ?_
    refine lv_topi (fun v2 e_v2 => ?_)
    refine fq_put K hK cl_Chain hP hD hS 0 2 rfl (by decide) wd_107 rfl rfl rfl (Nat.le_of_ble_eq_true rfl) dc_Chain_appendResampler_16 (fun H locs hP hD hS => ?_)
    have hP : va_P D fq_cl ([(h, .inr (6, [.ref hL, .ref hR, .int v2])), (hL, .inr (11, [.ref eE, .int (nI (sts.length + 1)), .int mo22])), (q, .inr (ci, vs)), (eE, .inl (cO, 10, .inr (.inr (.inr (.inr (va_up fE sts.length (some q)))))))]) _ := hP
    have hD : va_D A ([(h, .inr (6, [.ref hL, .ref hR, .int v2])), (hL, .inr (11, [.ref eE, .int (nI (sts.length + 1)), .int mo22])), (q, .inr (ci, vs)), (eE, .inl (cO, 10, .inr (.inr (.inr (.inr (va_up fE sts.length (some q)))))))]) := hD
    have hP := hP.sub (ws' := [(h, .inr (6, [.ref hL, .ref hR, .int v2])), (q, .inr (ci, vs)), (hL, .inr (11, [.ref eE, .int (nI (sts.length + 1)), .int mo22])), (eE, .inl (cO, 10, .inr (.inr (.inr (.inr (va_up fE sts.length (some q)))))))]) [0, 2, 1, 3] rfl
    have hD := hD.sub (ws' := [(h, .inr (6, [.ref hL, .ref hR, .int v2])), (q, .inr (ci, vs)), (hL, .inr (11, [.ref eE, .int (nI (sts.length + 1)), .int mo22])), (eE, .inl (cO, 10, .inr (.inr (.inr (.inr (va_up fE sts.length (some q)))))))]) [0, 2, 1, 3] (by decide) rfl
    have hP : va_P D fq_cl ([(h, .inr (6, [.ref hL, .ref hR, .int v2])), (q, .inr (ci, vs))] ++ [(hL, .inr (11, [.ref eE, .int (nI (sts.length + 1)), .int mo22])), (eE, .inl (cO, 10, .inr (.inr (.inr (.inr (va_up fE sts.length (some q)))))))]) _ := hP
    have hD : va_D A ([(h, .inr (6, [.ref hL, .ref hR, .int v2])), (q, .inr (ci, vs))] ++ [(hL, .inr (11, [.ref eE, .int (nI (sts.length + 1)), .int mo22])), (eE, .inl (cO, 10, .inr (.inr (.inr (.inr (va_up fE sts.length (some q)))))))]) := hD
    exact fq_retv K hret hlk hS hP hD ⟨_, by rw [e_v2], al_addB hlt hsq hfE⟩ dc_Chain_appendResampler_19 (Nat.le_of_ble_eq_true rfl) (Nat.le_of_ble_eq_true rfl)
end
section
theorem wd_32 : Cond.initialized cn_Source ∈ fq_TB := fq_in 32 (by decide +kernel) rfl
theorem wd_34 : Cond.initialized cn_Sink ∈ fq_TB := fq_in 34 (by decide +kernel) rfl
theorem wd_118 : Cond.instanceMethod my_Source_init ∈ fq_TB := fq_in 118 (by decide +kernel) rfl
theorem wd_119 : Cond.code my_Source_init cb_Source_init 1 none ∈ fq_TB := fq_in 119 (by decide +kernel) rfl
theorem wd_120 : Cond.methodLink cn_Source 3 my_Oj_init ∈ fq_TB := fq_in 120 (by decide +kernel) rfl
theorem wd_121 : Cond.classLink cn_Source 9 cn_Layout ∈ fq_TB := fq_in 121 (by decide +kernel) rfl
theorem wd_122 : Cond.instantiable cn_Layout 2 ∈ fq_TB := fq_in 122 (by decide +kernel) rfl
theorem wn_123 : Cond.methodLinkNest cn_Source 11 my_Layout_init cn_FP ∈ lw_tbl := List.mem_of_getElem? (i := 123) (by decide +kernel)
theorem wn_129 : Cond.fieldLinkNest cn_Source 45 cn_Layout "width" "I" cn_FP ∈ lw_tbl := List.mem_of_getElem? (i := 129) (by decide +kernel)
theorem wd_136 : Cond.classLink cn_Source 18 cn_Row ∈ fq_TB := fq_in 136 (by decide +kernel) rfl
theorem wd_137 : Cond.methodLink cn_Source 20 my_Row_init ∈ fq_TB := fq_in 137 (by decide +kernel) rfl
theorem wd_138 : Cond.fieldLink cn_Source 12 cn_Source "layout" "LFilterPipe$Layout;" ∈ fq_TB := fq_in 138 (by decide +kernel) rfl
theorem wd_140 : Cond.fieldLink cn_Source 23 cn_Source "waitingBytes" "LFilterPipe$Row;" ∈ fq_TB := fq_in 140 (by decide +kernel) rfl
theorem wd_142 : Cond.fieldLink cn_Source 30 cn_Source "came" "I" ∈ fq_TB := fq_in 142 (by decide +kernel) rfl
theorem wd_143 : Cond.fieldLink cn_Source 34 cn_Source "closed" "Z" ∈ fq_TB := fq_in 143 (by decide +kernel) rfl
theorem wd_159 : Cond.instanceMethod my_Sink_init ∈ fq_TB := fq_in 159 (by decide +kernel) rfl
theorem wd_160 : Cond.code my_Sink_init cb_Sink_init 1 none ∈ fq_TB := fq_in 160 (by decide +kernel) rfl
theorem wd_161 : Cond.methodLink cn_Sink 3 my_Oj_init ∈ fq_TB := fq_in 161 (by decide +kernel) rfl
theorem wd_162 : Cond.classLink cn_Sink 9 cn_Layout ∈ fq_TB := fq_in 162 (by decide +kernel) rfl
theorem wn_163 : Cond.methodLinkNest cn_Sink 11 my_Layout_init cn_FP ∈ lw_tbl := List.mem_of_getElem? (i := 163) (by decide +kernel)
theorem wd_164 : Cond.classLink cn_Sink 18 cn_Row ∈ fq_TB := fq_in 164 (by decide +kernel) rfl
theorem wd_165 : Cond.methodLink cn_Sink 20 my_Row_init ∈ fq_TB := fq_in 165 (by decide +kernel) rfl
theorem wd_166 : Cond.fieldLink cn_Sink 12 cn_Sink "layout" "LFilterPipe$Layout;" ∈ fq_TB := fq_in 166 (by decide +kernel) rfl
theorem wd_168 : Cond.fieldLink cn_Sink 23 cn_Sink "samples" "LFilterPipe$Row;" ∈ fq_TB := fq_in 168 (by decide +kernel) rfl
theorem wd_505 : Cond.instanceMethod my_Source_reopen ∈ fq_TB := fq_in 505 (by decide +kernel) rfl
theorem wd_506 : Cond.selects cn_Source my_Source_reopen my_Source_reopen ∈ fq_TB := fq_in 506 (by decide +kernel) rfl
theorem wd_507 : Cond.code my_Source_reopen cb_Source_reopen 1 none ∈ fq_TB := fq_in 507 (by decide +kernel) rfl
theorem wd_508 : Cond.methodLink cn_Source 27 my_Row_empty ∈ fq_TB := fq_in 508 (by decide +kernel) rfl
theorem wd_546 : Cond.instanceMethod my_Source_takes ∈ fq_TB := fq_in 546 (by decide +kernel) rfl
theorem wd_547 : Cond.selects cn_Source my_Source_takes my_Source_takes ∈ fq_TB := fq_in 547 (by decide +kernel) rfl
theorem wd_548 : Cond.code my_Source_takes cb_Source_takes 2 (some .boolean) ∈ fq_TB := fq_in 548 (by decide +kernel) rfl
theorem wd_550 : Cond.instanceMethod my_Source_addByte ∈ fq_TB := fq_in 550 (by decide +kernel) rfl
theorem wd_551 : Cond.selects cn_Source my_Source_addByte my_Source_addByte ∈ fq_TB := fq_in 551 (by decide +kernel) rfl
theorem wd_552 : Cond.code my_Source_addByte cb_Source_addByte 2 none ∈ fq_TB := fq_in 552 (by decide +kernel) rfl
theorem wd_553 : Cond.methodLink cn_Source 38 my_Row_add ∈ fq_TB := fq_in 553 (by decide +kernel) rfl
theorem wd_588 : Cond.instanceMethod my_Source_hasSample ∈ fq_TB := fq_in 588 (by decide +kernel) rfl
theorem wd_589 : Cond.selects cn_Source my_Source_hasSample my_Source_hasSample ∈ fq_TB := fq_in 589 (by decide +kernel) rfl
theorem wd_590 : Cond.code my_Source_hasSample cb_Source_hasSample 1 (some .boolean) ∈ fq_TB := fq_in 590 (by decide +kernel) rfl
theorem wd_591 : Cond.methodLink cn_Source 41 my_Row_size ∈ fq_TB := fq_in 591 (by decide +kernel) rfl
theorem wd_593 : Cond.instanceMethod my_Source_nextSample ∈ fq_TB := fq_in 593 (by decide +kernel) rfl
theorem wd_594 : Cond.selects cn_Source my_Source_nextSample my_Source_nextSample ∈ fq_TB := fq_in 594 (by decide +kernel) rfl
theorem wd_595 : Cond.code my_Source_nextSample cb_Source_nextSample 3 (some .int) ∈ fq_TB := fq_in 595 (by decide +kernel) rfl
theorem wd_596 : Cond.methodLink cn_Source 48 my_Row_takeOldest ∈ fq_TB := fq_in 596 (by decide +kernel) rfl
theorem wd_597 : Cond.methodLink cn_Source 51 my_Layout_shiftOf ∈ fq_TB := fq_in 597 (by decide +kernel) rfl
theorem wd_601 : Cond.constant cn_Source 55 65536 ∈ fq_TB := fq_in 601 (by decide +kernel) rfl

/-- the bytes as one number -/
def ns_v (w : Nat) (b : Bool) (L : List Int32) : Nat → Nat
  | 0 => 0
  | k + 1 => ns_v w b L k + (L.getD k 0).toInt.toNat * 2 ^ ly_sh w b k
/-- the sample that the number stands for -/
def ns_s (w v : Nat) : Int := if w = 1 then ((v : Int) - 128) * 65536 else if w = 2 then 256 * (v : Int).bmod 65536 else if w = 3 then (v : Int).bmod 16777216 else (v : Int).bmod 4294967296 / 256
theorem nx_or (a b : Nat) : nI a ||| nI b = nI (a ||| b) := by
  apply Int32.toBitVec.inj
  show BitVec.ofNat 32 a ||| BitVec.ofNat 32 b = BitVec.ofNat 32 (a ||| b)
  exact BitVec.ofNat_or.symm

theorem ns_sm : ∀ n, n < 32 → ((nI n &&& 31).toBitVec.smod 32).toNat = n := by decide +kernel
/-- where the bytes that came lie: below 2^hi, and no lower than 2^lo -/
theorem ns_lo {w : Nat} {L : List Int32} (hw : w ≤ 4) (hb : ∀ k, k < w → (L.getD k 0).toInt.toNat < 256) : ∀ k, k ≤ w → ns_v w false L k < 2 ^ (8 * k)
  | 0, _ => (by decide : 0 < 2 ^ 0)
  | k + 1, h => by
    have ih := ns_lo hw hb k (by omega)
    have h1 := hb k (by omega)
    show ns_v w false L k + (L.getD k 0).toInt.toNat * 2 ^ (8 * (if false then w - 1 - k else k)) < _
    rw [if_neg (by decide), show 8 * (k + 1) = 8 * k + 8 by omega, Nat.pow_add]
    have h2 : (L.getD k 0).toInt.toNat * 2 ^ (8 * k) ≤ 255 * 2 ^ (8 * k) := Nat.mul_le_mul_right _ (by omega)
    omega
theorem ns_hi {w : Nat} {L : List Int32} (hw : w ≤ 4) (hb : ∀ k, k < w → (L.getD k 0).toInt.toNat < 256) : ∀ k, k ≤ w → ∃ c, ns_v w true L k = 2 ^ (8 * (w - k)) * c ∧ c < 2 ^ (8 * k)
  | 0, _ => ⟨0, rfl, by decide⟩
  | k + 1, h => by
    obtain ⟨c, hc, hl⟩ := ns_hi hw hb k (by omega)
    have h1 := hb k (by omega)
    refine ⟨2 ^ 8 * c + (L.getD k 0).toInt.toNat, ?_, ?_⟩
    · show ns_v w true L k + (L.getD k 0).toInt.toNat * 2 ^ (8 * (if true then w - 1 - k else k)) = _
      rw [if_pos rfl, hc, Nat.mul_add, ← Nat.mul_assoc, ← Nat.pow_add, show 8 * (w - (k + 1)) + 8 = 8 * (w - k) by omega, show 8 * (w - 1 - k) = 8 * (w - (k + 1)) by omega, Nat.mul_comm (L.getD k 0).toInt.toNat]
    · rw [show 8 * (k + 1) = 8 + 8 * k by omega, Nat.pow_add]
      have : 2 ^ 8 * (c + 1) ≤ 2 ^ 8 * 2 ^ (8 * k) := Nat.mul_le_mul_left _ hl
      omega
theorem ns_lt {w : Nat} {b : Bool} {L : List Int32} (hw : w ≤ 4) (hb : ∀ k, k < w → (L.getD k 0).toInt.toNat < 256) {k : Nat} (hk : k ≤ w) : ns_v w b L k < 2 ^ (8 * w) := by
  cases b with
  | false => exact Nat.lt_of_lt_of_le (ns_lo hw hb k hk) (Nat.pow_le_pow_right (by decide) (by omega))
  | true =>
    obtain ⟨c, hc, hl⟩ := ns_hi hw hb k hk
    rw [hc, show 8 * w = 8 * (w - k) + 8 * k by omega, Nat.pow_add]
    exact Nat.mul_lt_mul_of_pos_left hl (Nat.pow_pos (by decide))
theorem ns_or {w : Nat} {b : Bool} {L : List Int32} (hw : w ≤ 4) (hb : ∀ k, k < w → (L.getD k 0).toInt.toNat < 256) {k : Nat} (hk : k < w) : ns_v w b L k ||| (L.getD k 0).toInt.toNat * 2 ^ ly_sh w b k = ns_v w b L (k + 1) := by
  have h1 := hb k hk
  show _ = ns_v w b L k + (L.getD k 0).toInt.toNat * 2 ^ ly_sh w b k
  cases b with
  | false =>
    have h := ns_lo hw hb k (by omega)
    have e : ly_sh w false k = 8 * k := by unfold ly_sh; rw [if_neg (by decide)]
    rw [e, Nat.mul_comm, Nat.add_comm, Nat.two_pow_add_eq_or_of_lt h, Nat.or_comm]
  | true =>
    obtain ⟨c, hc, hl⟩ := ns_hi hw hb k (by omega)
    have e : ly_sh w true k = 8 * (w - 1 - k) := by unfold ly_sh; rw [if_pos rfl]
    have h2 : (L.getD k 0).toInt.toNat * 2 ^ (8 * (w - 1 - k)) < 2 ^ (8 * (w - k)) := by
      rw [show 8 * (w - k) = 8 + 8 * (w - 1 - k) by omega, Nat.pow_add]
      exact Nat.mul_lt_mul_of_pos_right h1 (Nat.pow_pos (by decide))
    rw [e, hc, Nat.two_pow_add_eq_or_of_lt h2]
theorem ns_sh {w : Nat} {b : Bool} {k : Nat} (hw : w ≤ 4) (hk : k < w) : ly_sh w b k ≤ 24 := by
  unfold ly_sh; split <;> omega
theorem ns_step {w : Nat} {b : Bool} {L L2 : List Int32} {f : Nat → Int32} {k i2 i3 : Nat} {bt v : Int32} (h : k ≤ w ∧ rw_ok 120 f i2 L2 ∧ L2 = L.drop k ∧ bt = nI (ns_v w b L k)) (hk : k < w) (hw : w ≤ 4) (hl : w ≤ L.length) (hby : ∀ x ∈ L, 0 ≤ x.toInt ∧ x.toInt < 256) (hr : rw_ok 120 f i3 L2.tail)
    (hv : v = bt ||| L2.headD 0 <<< (nI (ly_sh w b k) &&& 31)) : k + 1 ≤ w ∧ rw_ok 120 f i3 L2.tail ∧ L2.tail = L.drop (k + 1) ∧ v = nI (ns_v w b L (k + 1)) := by
  obtain ⟨h1, h2, h3, h4⟩ := h
  have hkl : k < L.length := by omega
  have hhd : L2.headD 0 = L.getD k 0 := by
    rw [h3, List.drop_eq_getElem_cons hkl, List.getD_eq_getElem?_getD, List.getElem?_eq_getElem hkl]; rfl
  have hbs : ∀ j, j < w → (L.getD j 0).toInt.toNat < 256 := fun j hj => by
    have hj' : j < L.length := by omega
    have := hby (L[j]) (List.getElem_mem hj')
    rw [List.getD_eq_getElem?_getD, List.getElem?_eq_getElem hj']
    show (L[j]).toInt.toNat < 256
    omega
  have hx : L.getD k 0 = nI (L.getD k 0).toInt.toNat := by
    have := hby (L[k]) (List.getElem_mem hkl)
    have e : L.getD k 0 = L[k] := by rw [List.getD_eq_getElem?_getD, List.getElem?_eq_getElem hkl]; rfl
    rw [e]
    apply Int32.toInt.inj
    rw [nI_toInt (by omega)]
    omega
  have hs := ns_sh (b := b) hw hk
  have hlt : (L.getD k 0).toInt.toNat * 2 ^ ly_sh w b k < 2 ^ 32 := by
    have h5 : (L.getD k 0).toInt.toNat * 2 ^ ly_sh w b k ≤ 255 * 2 ^ 24 := Nat.mul_le_mul (by have := hbs k hk; omega) (Nat.pow_le_pow_right (by decide) hs)
    omega
  refine ⟨hk, hr, by rw [h3, List.tail_drop], ?_⟩
  rw [hv, hhd, hx, pk_shlN _ (ly_sh w b k) (ns_sm _ (by omega)) hlt, h4, nx_or]
  congr 1
  exact ns_or hw hbs hk
theorem ns_out {w : Nat} (hw : 1 ≤ w) (h1 : ¬ nI w = 1) (h2 : ¬ nI w = 2) (h3 : ¬ nI w = 3) : (3 : Int) < (w : Int) := by
  have e1 : w ≠ 1 := fun z => h1 (by rw [z]; rfl)
  have e2 : w ≠ 2 := fun z => h2 (by rw [z]; rfl)
  have e3 : w ≠ 3 := fun z => h3 (by rw [z]; rfl)
  omega
theorem ns_bm (v : Nat) : (nI v).toInt = (v : Int).bmod 4294967296 := Int32.toInt_ofNat'
theorem ns_bs {w : Nat} {L : List Int32} (hby : ∀ x ∈ L, 0 ≤ x.toInt ∧ x.toInt < 256) (hl : w ≤ L.length) : ∀ j, j < w → (L.getD j 0).toInt.toNat < 256 := fun j hj => by
  have hj' : j < L.length := by omega
  have := hby (L[j]) (List.getElem_mem hj')
  rw [List.getD_eq_getElem?_getD, List.getElem?_eq_getElem hj']
  show (L[j]).toInt.toNat < 256
  omega
theorem ns_w {w n : Nat} (hw : w ≤ 4) (hn : n < 2 ^ 31) (h : nI w = nI n) : w = n := (nI_eq (by omega) hn).mp h
theorem ns_1 {w k : Nat} {b : Bool} {L : List Int32} {bt : Int32} (hw : w ≤ 4) (hby : ∀ x ∈ L, 0 ≤ x.toInt ∧ x.toInt < 256) (hl : w ≤ L.length) (h : bt = nI (ns_v w b L k)) (hk : k = w) (hc : nI w = 1) : ((bt - 128) * 65536).toInt = ns_s w (ns_v w b L w) := by
  have e : w = 1 := ns_w hw (by decide) hc
  subst hk
  have hv := ns_lt (b := b) hw (ns_bs hby hl) (Nat.le_refl k)
  generalize ns_v k b L k = V at h hv ⊢
  subst e
  have e1 : (128 : Int32).toInt = 128 := by decide
  have e2 : (65536 : Int32).toInt = 65536 := by decide
  have hb : bt.toInt = V := by rw [h, nI_toInt (by omega)]
  have e3 : (bt - 128).toInt = (V : Int) - 128 := by rw [Kit.i32_sub (by rw [hb, e1]; omega) (by rw [hb, e1]; omega), hb, e1]
  rw [Kit.i32_mul (by rw [e3, e2]; omega) (by rw [e3, e2]; omega), e3, e2]
  rfl
theorem ns_2 {w k : Nat} {b : Bool} {L : List Int32} {bt : Int32} (hw : w ≤ 4) (hby : ∀ x ∈ L, 0 ≤ x.toInt ∧ x.toInt < 256) (hl : w ≤ L.length) (h : bt = nI (ns_v w b L k)) (hk : k = w) (hc : nI w = 2) : (bt.toInt16.toInt32 * 256).toInt = ns_s w (ns_v w b L w) := by
  have e : w = 2 := ns_w hw (by decide) hc
  subst hk
  have hv := ns_lt (b := b) hw (ns_bs hby hl) (Nat.le_refl k)
  generalize ns_v k b L k = V at h hv ⊢
  subst e
  have e2 : (256 : Int32).toInt = 256 := by decide
  have hb : bt.toInt = V := by rw [h, nI_toInt (by omega)]
  have e5 : (2 : Nat) ^ 16 = 65536 := by decide
  have e3 := lg_i2s_toInt bt
  rw [hb, e5] at e3
  have h1 := lg_i2s_range bt
  rw [Kit.i32_mul (by rw [e2]; omega) (by rw [e2]; omega), e3, e2]
  unfold ns_s
  rw [if_neg (by decide), if_pos rfl, Int.mul_comm]
theorem ns_3 {w k : Nat} {b : Bool} {L : List Int32} {bt : Int32} (hw : w ≤ 4) (hby : ∀ x ∈ L, 0 ≤ x.toInt ∧ x.toInt < 256) (hl : w ≤ L.length) (h : bt = nI (ns_v w b L k)) (hk : k = w) (hc : nI w = 3) : (bt <<< ((8 : Int32) &&& 31) >>> ((8 : Int32) &&& 31)).toInt = ns_s w (ns_v w b L w) := by
  have e : w = 3 := ns_w hw (by decide) hc
  subst hk
  have hv := ns_lt (b := b) hw (ns_bs hby hl) (Nat.le_refl k)
  generalize ns_v k b L k = V at h hv ⊢
  subst e
  rw [h, pk_shlN _ 8 (by decide) (by omega), pk_shr _ _ 8 (by decide), ns_bm, Int.shiftRight_eq_div_pow]
  unfold ns_s
  rw [if_neg (by decide), if_neg (by decide), if_pos rfl, Int.bmod_def, Int.bmod_def]
  omega
theorem ns_4 {w k : Nat} {b : Bool} {L : List Int32} {bt : Int32} (hw : w ≤ 4) (hw1 : 1 ≤ w) (h : bt = nI (ns_v w b L k)) (hk : k = w) (h1 : ¬ nI w = 1) (h2 : ¬ nI w = 2) (h3 : ¬ nI w = 3) : (bt >>> ((8 : Int32) &&& 31)).toInt = ns_s w (ns_v w b L w) := by
  have e := ns_out hw1 h1 h2 h3
  subst hk
  rw [h, pk_shr _ _ 8 (by decide), ns_bm, Int.shiftRight_eq_div_pow]
  unfold ns_s
  rw [if_neg (by omega), if_neg (by omega), if_neg (by omega)]
  rfl

theorem dc_Source_init_0 : decode cb_Source_init 0 = .ok (.aload_n 0, 1) := by decide +kernel
theorem dc_Source_init_1 : decode cb_Source_init 1 = .ok (.invokespecial 3, 3) := by decide +kernel
theorem dc_Source_init_4 : decode cb_Source_init 4 = .ok (.aload_n 0, 1) := by decide +kernel
theorem dc_Source_init_5 : decode cb_Source_init 5 = .ok (.new 9, 3) := by decide +kernel
theorem dc_Source_init_8 : decode cb_Source_init 8 = .ok (.dup, 1) := by decide +kernel
theorem dc_Source_init_9 : decode cb_Source_init 9 = .ok (.invokespecial 11, 3) := by decide +kernel
theorem dc_Source_init_12 : decode cb_Source_init 12 = .ok (.putfield 12, 3) := by decide +kernel
theorem dc_Source_init_15 : decode cb_Source_init 15 = .ok (.aload_n 0, 1) := by decide +kernel
theorem dc_Source_init_16 : decode cb_Source_init 16 = .ok (.new 18, 3) := by decide +kernel
theorem dc_Source_init_19 : decode cb_Source_init 19 = .ok (.dup, 1) := by decide +kernel
theorem dc_Source_init_20 : decode cb_Source_init 20 = .ok (.bipush 120, 2) := by decide +kernel
theorem dc_Source_init_22 : decode cb_Source_init 22 = .ok (.invokespecial 20, 3) := by decide +kernel
theorem dc_Source_init_25 : decode cb_Source_init 25 = .ok (.putfield 23, 3) := by decide +kernel
theorem dc_Source_init_28 : decode cb_Source_init 28 = .ok (.return_, 1) := by decide +kernel
theorem yk_Source_init : fq_Y my_Source_init cb_Source_init 1 none 0 := ⟨wd_119, wd_32, by decide +kernel⟩
theorem dc_Source_reopen_0 : decode cb_Source_reopen 0 = .ok (.aload_n 0, 1) := by decide +kernel
theorem dc_Source_reopen_1 : decode cb_Source_reopen 1 = .ok (.getfield 23, 3) := by decide +kernel
theorem dc_Source_reopen_4 : decode cb_Source_reopen 4 = .ok (.invokevirtual 27, 3) := by decide +kernel
theorem dc_Source_reopen_7 : decode cb_Source_reopen 7 = .ok (.aload_n 0, 1) := by decide +kernel
theorem dc_Source_reopen_8 : decode cb_Source_reopen 8 = .ok (.iconst 0, 1) := by decide +kernel
theorem dc_Source_reopen_9 : decode cb_Source_reopen 9 = .ok (.putfield 30, 3) := by decide +kernel
theorem dc_Source_reopen_12 : decode cb_Source_reopen 12 = .ok (.aload_n 0, 1) := by decide +kernel
theorem dc_Source_reopen_13 : decode cb_Source_reopen 13 = .ok (.iconst 0, 1) := by decide +kernel
theorem dc_Source_reopen_14 : decode cb_Source_reopen 14 = .ok (.putfield 34, 3) := by decide +kernel
theorem dc_Source_reopen_17 : decode cb_Source_reopen 17 = .ok (.return_, 1) := by decide +kernel
theorem yk_Source_reopen : fq_Y my_Source_reopen cb_Source_reopen 1 none 0 := ⟨wd_507, wd_32, by decide +kernel⟩
theorem dc_Source_takes_0 : decode cb_Source_takes 0 = .ok (.aload_n 0, 1) := by decide +kernel
theorem dc_Source_takes_1 : decode cb_Source_takes 1 = .ok (.getfield 34, 3) := by decide +kernel
theorem dc_Source_takes_4 : decode cb_Source_takes 4 = .ok (.ifCond .ne 18, 3) := by decide +kernel
theorem dc_Source_takes_7 : decode cb_Source_takes 7 = .ok (.aload_n 0, 1) := by decide +kernel
theorem dc_Source_takes_8 : decode cb_Source_takes 8 = .ok (.getfield 30, 3) := by decide +kernel
theorem dc_Source_takes_11 : decode cb_Source_takes 11 = .ok (.iload_n 1, 1) := by decide +kernel
theorem dc_Source_takes_12 : decode cb_Source_takes 12 = .ok (.iadd, 1) := by decide +kernel
theorem dc_Source_takes_13 : decode cb_Source_takes 13 = .ok (.bipush 120, 2) := by decide +kernel
theorem dc_Source_takes_15 : decode cb_Source_takes 15 = .ok (.if_icmp .gt 7, 3) := by decide +kernel
theorem dc_Source_takes_18 : decode cb_Source_takes 18 = .ok (.iconst 1, 1) := by decide +kernel
theorem dc_Source_takes_19 : decode cb_Source_takes 19 = .ok (.goto 4, 3) := by decide +kernel
theorem dc_Source_takes_22 : decode cb_Source_takes 22 = .ok (.iconst 0, 1) := by decide +kernel
theorem dc_Source_takes_23 : decode cb_Source_takes 23 = .ok (.ireturn, 1) := by decide +kernel
theorem yk_Source_takes : fq_Y my_Source_takes cb_Source_takes 2 (some .boolean) 1 := ⟨wd_548, wd_32, by decide +kernel⟩
theorem dc_Source_addByte_0 : decode cb_Source_addByte 0 = .ok (.aload_n 0, 1) := by decide +kernel
theorem dc_Source_addByte_1 : decode cb_Source_addByte 1 = .ok (.getfield 23, 3) := by decide +kernel
theorem dc_Source_addByte_4 : decode cb_Source_addByte 4 = .ok (.iload_n 1, 1) := by decide +kernel
theorem dc_Source_addByte_5 : decode cb_Source_addByte 5 = .ok (.invokevirtual 38, 3) := by decide +kernel
theorem dc_Source_addByte_8 : decode cb_Source_addByte 8 = .ok (.aload_n 0, 1) := by decide +kernel
theorem dc_Source_addByte_9 : decode cb_Source_addByte 9 = .ok (.dup, 1) := by decide +kernel
theorem dc_Source_addByte_10 : decode cb_Source_addByte 10 = .ok (.getfield 30, 3) := by decide +kernel
theorem dc_Source_addByte_13 : decode cb_Source_addByte 13 = .ok (.iconst 1, 1) := by decide +kernel
theorem dc_Source_addByte_14 : decode cb_Source_addByte 14 = .ok (.iadd, 1) := by decide +kernel
theorem dc_Source_addByte_15 : decode cb_Source_addByte 15 = .ok (.putfield 30, 3) := by decide +kernel
theorem dc_Source_addByte_18 : decode cb_Source_addByte 18 = .ok (.return_, 1) := by decide +kernel
theorem yk_Source_addByte : fq_Y my_Source_addByte cb_Source_addByte 2 none 1 := ⟨wd_552, wd_32, by decide +kernel⟩
theorem dc_Source_hasSample_0 : decode cb_Source_hasSample 0 = .ok (.aload_n 0, 1) := by decide +kernel
theorem dc_Source_hasSample_1 : decode cb_Source_hasSample 1 = .ok (.getfield 23, 3) := by decide +kernel
theorem dc_Source_hasSample_4 : decode cb_Source_hasSample 4 = .ok (.invokevirtual 41, 3) := by decide +kernel
theorem dc_Source_hasSample_7 : decode cb_Source_hasSample 7 = .ok (.aload_n 0, 1) := by decide +kernel
theorem dc_Source_hasSample_8 : decode cb_Source_hasSample 8 = .ok (.getfield 12, 3) := by decide +kernel
theorem dc_Source_hasSample_11 : decode cb_Source_hasSample 11 = .ok (.getfield 45, 3) := by decide +kernel
theorem dc_Source_hasSample_14 : decode cb_Source_hasSample 14 = .ok (.if_icmp .lt 7, 3) := by decide +kernel
theorem dc_Source_hasSample_17 : decode cb_Source_hasSample 17 = .ok (.iconst 1, 1) := by decide +kernel
theorem dc_Source_hasSample_18 : decode cb_Source_hasSample 18 = .ok (.goto 4, 3) := by decide +kernel
theorem dc_Source_hasSample_21 : decode cb_Source_hasSample 21 = .ok (.iconst 0, 1) := by decide +kernel
theorem dc_Source_hasSample_22 : decode cb_Source_hasSample 22 = .ok (.ireturn, 1) := by decide +kernel
theorem yk_Source_hasSample : fq_Y my_Source_hasSample cb_Source_hasSample 1 (some .boolean) 0 := ⟨wd_590, wd_32, by decide +kernel⟩
theorem dc_Source_nextSample_0 : decode cb_Source_nextSample 0 = .ok (.iconst 0, 1) := by decide +kernel
theorem dc_Source_nextSample_1 : decode cb_Source_nextSample 1 = .ok (.istore_n 1, 1) := by decide +kernel
theorem dc_Source_nextSample_2 : decode cb_Source_nextSample 2 = .ok (.iconst 0, 1) := by decide +kernel
theorem dc_Source_nextSample_3 : decode cb_Source_nextSample 3 = .ok (.istore_n 2, 1) := by decide +kernel
theorem dc_Source_nextSample_4 : decode cb_Source_nextSample 4 = .ok (.iload_n 2, 1) := by decide +kernel
theorem dc_Source_nextSample_5 : decode cb_Source_nextSample 5 = .ok (.aload_n 0, 1) := by decide +kernel
theorem dc_Source_nextSample_6 : decode cb_Source_nextSample 6 = .ok (.getfield 12, 3) := by decide +kernel
theorem dc_Source_nextSample_9 : decode cb_Source_nextSample 9 = .ok (.getfield 45, 3) := by decide +kernel
theorem dc_Source_nextSample_12 : decode cb_Source_nextSample 12 = .ok (.if_icmp .ge 28, 3) := by decide +kernel
theorem dc_Source_nextSample_15 : decode cb_Source_nextSample 15 = .ok (.iload_n 1, 1) := by decide +kernel
theorem dc_Source_nextSample_16 : decode cb_Source_nextSample 16 = .ok (.aload_n 0, 1) := by decide +kernel
theorem dc_Source_nextSample_17 : decode cb_Source_nextSample 17 = .ok (.getfield 23, 3) := by decide +kernel
theorem dc_Source_nextSample_20 : decode cb_Source_nextSample 20 = .ok (.invokevirtual 48, 3) := by decide +kernel
theorem dc_Source_nextSample_23 : decode cb_Source_nextSample 23 = .ok (.aload_n 0, 1) := by decide +kernel
theorem dc_Source_nextSample_24 : decode cb_Source_nextSample 24 = .ok (.getfield 12, 3) := by decide +kernel
theorem dc_Source_nextSample_27 : decode cb_Source_nextSample 27 = .ok (.iload_n 2, 1) := by decide +kernel
theorem dc_Source_nextSample_28 : decode cb_Source_nextSample 28 = .ok (.invokevirtual 51, 3) := by decide +kernel
theorem dc_Source_nextSample_31 : decode cb_Source_nextSample 31 = .ok (.ishl, 1) := by decide +kernel
theorem dc_Source_nextSample_32 : decode cb_Source_nextSample 32 = .ok (.ior, 1) := by decide +kernel
theorem dc_Source_nextSample_33 : decode cb_Source_nextSample 33 = .ok (.istore_n 1, 1) := by decide +kernel
theorem dc_Source_nextSample_34 : decode cb_Source_nextSample 34 = .ok (.iinc 2 1, 3) := by decide +kernel
theorem dc_Source_nextSample_37 : decode cb_Source_nextSample 37 = .ok (.goto (-33), 3) := by decide +kernel
theorem dc_Source_nextSample_40 : decode cb_Source_nextSample 40 = .ok (.aload_n 0, 1) := by decide +kernel
theorem dc_Source_nextSample_41 : decode cb_Source_nextSample 41 = .ok (.getfield 12, 3) := by decide +kernel
theorem dc_Source_nextSample_44 : decode cb_Source_nextSample 44 = .ok (.getfield 45, 3) := by decide +kernel
theorem dc_Source_nextSample_47 : decode cb_Source_nextSample 47 = .ok (.tableswitch 49 1 3 #[25, 34, 41], 25) := by decide +kernel
theorem dc_Source_nextSample_72 : decode cb_Source_nextSample 72 = .ok (.iload_n 1, 1) := by decide +kernel
theorem dc_Source_nextSample_73 : decode cb_Source_nextSample 73 = .ok (.sipush 128, 3) := by decide +kernel
theorem dc_Source_nextSample_76 : decode cb_Source_nextSample 76 = .ok (.isub, 1) := by decide +kernel
theorem dc_Source_nextSample_77 : decode cb_Source_nextSample 77 = .ok (.ldc 55, 2) := by decide +kernel
theorem dc_Source_nextSample_79 : decode cb_Source_nextSample 79 = .ok (.imul, 1) := by decide +kernel
theorem dc_Source_nextSample_80 : decode cb_Source_nextSample 80 = .ok (.ireturn, 1) := by decide +kernel
theorem dc_Source_nextSample_81 : decode cb_Source_nextSample 81 = .ok (.iload_n 1, 1) := by decide +kernel
theorem dc_Source_nextSample_82 : decode cb_Source_nextSample 82 = .ok (.i2s, 1) := by decide +kernel
theorem dc_Source_nextSample_83 : decode cb_Source_nextSample 83 = .ok (.sipush 256, 3) := by decide +kernel
theorem dc_Source_nextSample_86 : decode cb_Source_nextSample 86 = .ok (.imul, 1) := by decide +kernel
theorem dc_Source_nextSample_87 : decode cb_Source_nextSample 87 = .ok (.ireturn, 1) := by decide +kernel
theorem dc_Source_nextSample_88 : decode cb_Source_nextSample 88 = .ok (.iload_n 1, 1) := by decide +kernel
theorem dc_Source_nextSample_89 : decode cb_Source_nextSample 89 = .ok (.bipush 8, 2) := by decide +kernel
theorem dc_Source_nextSample_91 : decode cb_Source_nextSample 91 = .ok (.ishl, 1) := by decide +kernel
theorem dc_Source_nextSample_92 : decode cb_Source_nextSample 92 = .ok (.bipush 8, 2) := by decide +kernel
theorem dc_Source_nextSample_94 : decode cb_Source_nextSample 94 = .ok (.ishr, 1) := by decide +kernel
theorem dc_Source_nextSample_95 : decode cb_Source_nextSample 95 = .ok (.ireturn, 1) := by decide +kernel
theorem dc_Source_nextSample_96 : decode cb_Source_nextSample 96 = .ok (.iload_n 1, 1) := by decide +kernel
theorem dc_Source_nextSample_97 : decode cb_Source_nextSample 97 = .ok (.bipush 8, 2) := by decide +kernel
theorem dc_Source_nextSample_99 : decode cb_Source_nextSample 99 = .ok (.ishr, 1) := by decide +kernel
theorem dc_Source_nextSample_100 : decode cb_Source_nextSample 100 = .ok (.ireturn, 1) := by decide +kernel
theorem yk_Source_nextSample : fq_Y my_Source_nextSample cb_Source_nextSample 3 (some .int) 0 := ⟨wd_595, wd_32, by decide +kernel⟩
theorem dc_Sink_init_0 : decode cb_Sink_init 0 = .ok (.aload_n 0, 1) := by decide +kernel
theorem dc_Sink_init_1 : decode cb_Sink_init 1 = .ok (.invokespecial 3, 3) := by decide +kernel
theorem dc_Sink_init_4 : decode cb_Sink_init 4 = .ok (.aload_n 0, 1) := by decide +kernel
theorem dc_Sink_init_5 : decode cb_Sink_init 5 = .ok (.new 9, 3) := by decide +kernel
theorem dc_Sink_init_8 : decode cb_Sink_init 8 = .ok (.dup, 1) := by decide +kernel
theorem dc_Sink_init_9 : decode cb_Sink_init 9 = .ok (.invokespecial 11, 3) := by decide +kernel
theorem dc_Sink_init_12 : decode cb_Sink_init 12 = .ok (.putfield 12, 3) := by decide +kernel
theorem dc_Sink_init_15 : decode cb_Sink_init 15 = .ok (.aload_n 0, 1) := by decide +kernel
theorem dc_Sink_init_16 : decode cb_Sink_init 16 = .ok (.new 18, 3) := by decide +kernel
theorem dc_Sink_init_19 : decode cb_Sink_init 19 = .ok (.dup, 1) := by decide +kernel
theorem dc_Sink_init_20 : decode cb_Sink_init 20 = .ok (.sipush 2286, 3) := by decide +kernel
theorem dc_Sink_init_23 : decode cb_Sink_init 23 = .ok (.invokespecial 20, 3) := by decide +kernel
theorem dc_Sink_init_26 : decode cb_Sink_init 26 = .ok (.putfield 23, 3) := by decide +kernel
theorem dc_Sink_init_29 : decode cb_Sink_init 29 = .ok (.return_, 1) := by decide +kernel
theorem yk_Sink_init : fq_Y my_Sink_init cb_Sink_init 1 none 0 := ⟨wd_160, wd_34, by decide +kernel⟩
set_option maxHeartbeats 4000000 in
set_option maxRecDepth 100000 in
theorem ct_Source_init (l : Launch) (D : va_G) (cI cO : ClassId) (tE : Nat) (h : Nat) (sz : Nat) : Met l my_Source_init (fq_w my_Source_init cb_Source_init 1 none) ({ frames := 2, cells := 3, slots := 125, locals := 33 }) (va_Pc ([.ref h]) (fq_Pre D cI cO tE sz ([(h, .inr (8, [.null, .null, .int 0, .int 0]))]))) (va_Qv (S := va_W) (fun w => ∃ qy qw qa : Nat, w = [(h, .inr (8, [.ref qy, .ref qw, .int 0, .int 0])), (qy, .inr (7, [.int 2, .int 0])), (qw, .inr (0, [.ref qa, .int 0, .int 0])), (qa, .inl (cI, 120, .inl (fun _ => 0)))]) (fq_Bw D (va_A ([(h, .inr (8, [.null, .null, .int 0, .int 0]))]) sz)) (va_A ([(h, .inr (8, [.null, .null, .int 0, .int 0]))]) sz)) (3) (125) (va_A ([(h, .inr (8, [.null, .null, .int 0, .int 0]))]) sz) := by
  refine fq_open (by decide +kernel) (Nat.le_of_ble_eq_true rfl) ?_
  intro pg ev s mt below meth cd ls K hret hlk hin hK hZ hP hD hA hS hl
  generalize va_A ([(h, .inr (8, [.null, .null, .int 0, .int 0]))]) sz = A at hZ hD hA hS ⊢
  have K : fq_Ctx pg mt cd cb_Source_init 1 s _ cn_Source := K
  have hin : meth.name = "<init>" := hin
  have hl : lv_has ls 1 [(0, .ref h)] := hl
  refine lv_aload_n K.1 K.2.1 dc_Source_init_0 rfl (lv_at hl 0 rfl) ?_
  refine W.objInit K.1 K.2.1 K.2.2.2.1 (K.2.2.2.2 _ wd_120) (K.2.2.2.2 _ wd_54) (K.2.2.2.2 _ wd_55) rfl (by rw [K.2.2.1]; exact hl.1) rfl dc_Source_init_1 (Nat.le_of_ble_eq_true rfl) (Nat.le_of_ble_eq_true rfl) ?_
  refine W.eq (g2 := F0 mt 4 ls []) rfl ?_
  refine lv_aload_n K.1 K.2.1 dc_Source_init_4 rfl (lv_at hl 0 rfl) ?_
  refine fq_new (fs := [.int 0, .int 0]) K hK cl_Layout wd_121 wd_122 wd_33 hP hD hS hA (by decide) (Nat.le_of_ble_eq_true rfl) (Nat.le_of_ble_eq_true rfl) dc_Source_init_5 (fun q1 H hP hD hS => ?_)
  have hP : va_P D fq_cl ([(h, .inr (8, [.null, .null, .int 0, .int 0])), (q1, .inr (7, [.int 0, .int 0]))]) _ := hP
  have hD : va_D A ([(h, .inr (8, [.null, .null, .int 0, .int 0])), (q1, .inr (7, [.int 0, .int 0]))]) := hD
  refine lv_dup K.1 K.2.1 dc_Source_init_8 rfl ?_
  have hc := fq_cut.of (wc := [(q1, .inr (7, [.int 0, .int 0]))]) hP hD hS hA [1] (by decide) rfl
  refine fq_cv (wr := [(h, .inr (8, [.null, .null, .int 0, .int 0]))]) (fq_rIN K hK hZ hS hc (ct_Layout_init l D cI cO tE q1 _) yk_Layout_init wd_124 rfl wn_123 ⟨⟨rfl, rfl⟩, ⟨Nat.le_of_ble_eq_true rfl, Nat.le_of_ble_eq_true rfl⟩, ⟨Nat.le_of_ble_eq_true rfl, Nat.le_of_ble_eq_true rfl⟩⟩ hl.1 rfl (Nat.le_of_ble_eq_true rfl) dc_Source_init_9) hP hD hS hc [1] [0] rfl rfl (by decide) (by decide) (fun  w H locs hw1 hP hD hS => ?_)
  subst hw1
  have hP : va_P D fq_cl ([(h, .inr (8, [.null, .null, .int 0, .int 0])), (q1, .inr (7, [.int 2, .int 0]))]) _ := hP
  have hD : va_D A ([(h, .inr (8, [.null, .null, .int 0, .int 0])), (q1, .inr (7, [.int 2, .int 0]))]) := hD
  refine fq_putF K hK cl_Source hP hD hS hin 0 0 rfl (by decide) wd_138 rfl rfl rfl rfl (Nat.le_of_ble_eq_true rfl) dc_Source_init_12 (fun H locs hP hD hS => ?_)
  have hP : va_P D fq_cl ([(h, .inr (8, [.ref q1, .null, .int 0, .int 0])), (q1, .inr (7, [.int 2, .int 0]))]) _ := hP
  have hD : va_D A ([(h, .inr (8, [.ref q1, .null, .int 0, .int 0])), (q1, .inr (7, [.int 2, .int 0]))]) := hD
  refine lv_aload_n K.1 K.2.1 dc_Source_init_15 rfl (lv_at hl 0 rfl) ?_
  refine fq_new (fs := [.null, .int 0, .int 0]) K hK cl_Row wd_136 wd_89 wd_31 hP hD hS hA (by decide) (Nat.le_of_ble_eq_true rfl) (Nat.le_of_ble_eq_true rfl) dc_Source_init_16 (fun q2 H hP hD hS => ?_)
  have hP : va_P D fq_cl ([(h, .inr (8, [.ref q1, .null, .int 0, .int 0])), (q1, .inr (7, [.int 2, .int 0])), (q2, .inr (0, [.null, .int 0, .int 0]))]) _ := hP
  have hD : va_D A ([(h, .inr (8, [.ref q1, .null, .int 0, .int 0])), (q1, .inr (7, [.int 2, .int 0])), (q2, .inr (0, [.null, .int 0, .int 0]))]) := hD
  refine lv_dup K.1 K.2.1 dc_Source_init_19 rfl ?_
  refine lv_bipush (v := 120) K.1 K.2.1 dc_Source_init_20 (by decide) ?_
  refine fq_asi (y := nI 120) (by decide) ?_
  have hc := fq_cut.of (wc := [(q2, .inr (0, [.null, .int 0, .int 0]))]) hP hD hS hA [2] (by decide) rfl
  refine fq_cv (wr := [(h, .inr (8, [.ref q1, .null, .int 0, .int 0])), (q1, .inr (7, [.int 2, .int 0]))]) (fq_rI K hK hZ hS hc (ct_Row_init l D cI cO tE q2 120 (by decide) _) yk_Row_init wd_91 rfl wd_137 ⟨⟨rfl, rfl⟩, ⟨Nat.le_of_ble_eq_true rfl, Nat.le_of_ble_eq_true rfl⟩, ⟨Nat.le_of_ble_eq_true rfl, Nat.le_of_ble_eq_true rfl⟩⟩ hl.1 rfl (Nat.le_of_ble_eq_true rfl) dc_Source_init_22) hP hD hS hc [2] [0, 1] rfl rfl (by decide) (by decide) (fun  w H locs hw2 hP hD hS => ?_)
  obtain ⟨q3, rfl⟩ := hw2
  have hP : va_P D fq_cl ([(h, .inr (8, [.ref q1, .null, .int 0, .int 0])), (q1, .inr (7, [.int 2, .int 0])), (q2, .inr (0, [.ref q3, .int 0, .int 0])), (q3, .inl (cI, 120, .inl (fun _ => 0)))]) _ := hP
  have hD : va_D A ([(h, .inr (8, [.ref q1, .null, .int 0, .int 0])), (q1, .inr (7, [.int 2, .int 0])), (q2, .inr (0, [.ref q3, .int 0, .int 0])), (q3, .inl (cI, 120, .inl (fun _ => 0)))]) := hD
  refine fq_putF K hK cl_Source hP hD hS hin 0 1 rfl (by decide) wd_140 rfl rfl rfl rfl (Nat.le_of_ble_eq_true rfl) dc_Source_init_25 (fun H locs hP hD hS => ?_)
  have hP : va_P D fq_cl ([(h, .inr (8, [.ref q1, .ref q2, .int 0, .int 0])), (q1, .inr (7, [.int 2, .int 0])), (q2, .inr (0, [.ref q3, .int 0, .int 0])), (q3, .inl (cI, 120, .inl (fun _ => 0)))]) _ := hP
  have hD : va_D A ([(h, .inr (8, [.ref q1, .ref q2, .int 0, .int 0])), (q1, .inr (7, [.int 2, .int 0])), (q2, .inr (0, [.ref q3, .int 0, .int 0])), (q3, .inl (cI, 120, .inl (fun _ => 0)))]) := hD
  exact fq_retv K hret hlk hS hP hD ⟨_, _, _, rfl⟩ dc_Source_init_28 (Nat.le_of_ble_eq_true rfl) (Nat.le_of_ble_eq_true rfl)
set_option maxHeartbeats 4000000 in
set_option maxRecDepth 100000 in
theorem ct_Sink_init (l : Launch) (D : va_G) (cI cO : ClassId) (tE : Nat) (h : Nat) (sz : Nat) : Met l my_Sink_init (fq_w my_Sink_init cb_Sink_init 1 none) ({ frames := 2, cells := 3, slots := 2291, locals := 33 }) (va_Pc ([.ref h]) (fq_Pre D cI cO tE sz ([(h, .inr (9, [.null, .null]))]))) (va_Qv (S := va_W) (fun w => ∃ qy qw qa : Nat, w = [(h, .inr (9, [.ref qy, .ref qw])), (qy, .inr (7, [.int 2, .int 0])), (qw, .inr (0, [.ref qa, .int 0, .int 0])), (qa, .inl (cI, 2286, .inl (fun _ => 0)))]) (fq_Bw D (va_A ([(h, .inr (9, [.null, .null]))]) sz)) (va_A ([(h, .inr (9, [.null, .null]))]) sz)) (3) (2291) (va_A ([(h, .inr (9, [.null, .null]))]) sz) := by
  refine fq_open (by decide +kernel) (Nat.le_of_ble_eq_true rfl) ?_
  intro pg ev s mt below meth cd ls K hret hlk hin hK hZ hP hD hA hS hl
  generalize va_A ([(h, .inr (9, [.null, .null]))]) sz = A at hZ hD hA hS ⊢
  have K : fq_Ctx pg mt cd cb_Sink_init 1 s _ cn_Sink := K
  have hin : meth.name = "<init>" := hin
  have hl : lv_has ls 1 [(0, .ref h)] := hl
  refine lv_aload_n K.1 K.2.1 dc_Sink_init_0 rfl (lv_at hl 0 rfl) ?_
  refine W.objInit K.1 K.2.1 K.2.2.2.1 (K.2.2.2.2 _ wd_161) (K.2.2.2.2 _ wd_54) (K.2.2.2.2 _ wd_55) rfl (by rw [K.2.2.1]; exact hl.1) rfl dc_Sink_init_1 (Nat.le_of_ble_eq_true rfl) (Nat.le_of_ble_eq_true rfl) ?_
  refine W.eq (g2 := F0 mt 4 ls []) rfl ?_
  refine lv_aload_n K.1 K.2.1 dc_Sink_init_4 rfl (lv_at hl 0 rfl) ?_
  refine fq_new (fs := [.int 0, .int 0]) K hK cl_Layout wd_162 wd_122 wd_33 hP hD hS hA (by decide) (Nat.le_of_ble_eq_true rfl) (Nat.le_of_ble_eq_true rfl) dc_Sink_init_5 (fun q1 H hP hD hS => ?_)
  have hP : va_P D fq_cl ([(h, .inr (9, [.null, .null])), (q1, .inr (7, [.int 0, .int 0]))]) _ := hP
  have hD : va_D A ([(h, .inr (9, [.null, .null])), (q1, .inr (7, [.int 0, .int 0]))]) := hD
  refine lv_dup K.1 K.2.1 dc_Sink_init_8 rfl ?_
  have hc := fq_cut.of (wc := [(q1, .inr (7, [.int 0, .int 0]))]) hP hD hS hA [1] (by decide) rfl
  refine fq_cv (wr := [(h, .inr (9, [.null, .null]))]) (fq_rIN K hK hZ hS hc (ct_Layout_init l D cI cO tE q1 _) yk_Layout_init wd_124 rfl wn_163 ⟨⟨rfl, rfl⟩, ⟨Nat.le_of_ble_eq_true rfl, Nat.le_of_ble_eq_true rfl⟩, ⟨Nat.le_of_ble_eq_true rfl, Nat.le_of_ble_eq_true rfl⟩⟩ hl.1 rfl (Nat.le_of_ble_eq_true rfl) dc_Sink_init_9) hP hD hS hc [1] [0] rfl rfl (by decide) (by decide) (fun  w H locs hw1 hP hD hS => ?_)
  subst hw1
  have hP : va_P D fq_cl ([(h, .inr (9, [.null, .null])), (q1, .inr (7, [.int 2, .int 0]))]) _ := hP
  have hD : va_D A ([(h, .inr (9, [.null, .null])), (q1, .inr (7, [.int 2, .int 0]))]) := hD
  refine fq_putF K hK cl_Sink hP hD hS hin 0 0 rfl (by decide) wd_166 rfl rfl rfl rfl (Nat.le_of_ble_eq_true rfl) dc_Sink_init_12 (fun H locs hP hD hS => ?_)
  have hP : va_P D fq_cl ([(h, .inr (9, [.ref q1, .null])), (q1, .inr (7, [.int 2, .int 0]))]) _ := hP
  have hD : va_D A ([(h, .inr (9, [.ref q1, .null])), (q1, .inr (7, [.int 2, .int 0]))]) := hD
  refine lv_aload_n K.1 K.2.1 dc_Sink_init_15 rfl (lv_at hl 0 rfl) ?_
  refine fq_new (fs := [.null, .int 0, .int 0]) K hK cl_Row wd_164 wd_89 wd_31 hP hD hS hA (by decide) (Nat.le_of_ble_eq_true rfl) (Nat.le_of_ble_eq_true rfl) dc_Sink_init_16 (fun q2 H hP hD hS => ?_)
  have hP : va_P D fq_cl ([(h, .inr (9, [.ref q1, .null])), (q1, .inr (7, [.int 2, .int 0])), (q2, .inr (0, [.null, .int 0, .int 0]))]) _ := hP
  have hD : va_D A ([(h, .inr (9, [.ref q1, .null])), (q1, .inr (7, [.int 2, .int 0])), (q2, .inr (0, [.null, .int 0, .int 0]))]) := hD
  refine lv_dup K.1 K.2.1 dc_Sink_init_19 rfl ?_
  refine lv_sipush (v := 2286) K.1 K.2.1 dc_Sink_init_20 (by decide) ?_
  refine fq_asi (y := nI 2286) (by decide) ?_
  have hc := fq_cut.of (wc := [(q2, .inr (0, [.null, .int 0, .int 0]))]) hP hD hS hA [2] (by decide) rfl
  refine fq_cv (wr := [(h, .inr (9, [.ref q1, .null])), (q1, .inr (7, [.int 2, .int 0]))]) (fq_rI K hK hZ hS hc (ct_Row_init l D cI cO tE q2 2286 (by decide) _) yk_Row_init wd_91 rfl wd_165 ⟨⟨rfl, rfl⟩, ⟨Nat.le_of_ble_eq_true rfl, Nat.le_of_ble_eq_true rfl⟩, ⟨Nat.le_of_ble_eq_true rfl, Nat.le_of_ble_eq_true rfl⟩⟩ hl.1 rfl (Nat.le_of_ble_eq_true rfl) dc_Sink_init_23) hP hD hS hc [2] [0, 1] rfl rfl (by decide) (by decide) (fun  w H locs hw2 hP hD hS => ?_)
  obtain ⟨q3, rfl⟩ := hw2
  have hP : va_P D fq_cl ([(h, .inr (9, [.ref q1, .null])), (q1, .inr (7, [.int 2, .int 0])), (q2, .inr (0, [.ref q3, .int 0, .int 0])), (q3, .inl (cI, 2286, .inl (fun _ => 0)))]) _ := hP
  have hD : va_D A ([(h, .inr (9, [.ref q1, .null])), (q1, .inr (7, [.int 2, .int 0])), (q2, .inr (0, [.ref q3, .int 0, .int 0])), (q3, .inl (cI, 2286, .inl (fun _ => 0)))]) := hD
  refine fq_putF K hK cl_Sink hP hD hS hin 0 1 rfl (by decide) wd_168 rfl rfl rfl rfl (Nat.le_of_ble_eq_true rfl) dc_Sink_init_26 (fun H locs hP hD hS => ?_)
  have hP : va_P D fq_cl ([(h, .inr (9, [.ref q1, .ref q2])), (q1, .inr (7, [.int 2, .int 0])), (q2, .inr (0, [.ref q3, .int 0, .int 0])), (q3, .inl (cI, 2286, .inl (fun _ => 0)))]) _ := hP
  have hD : va_D A ([(h, .inr (9, [.ref q1, .ref q2])), (q1, .inr (7, [.int 2, .int 0])), (q2, .inr (0, [.ref q3, .int 0, .int 0])), (q3, .inl (cI, 2286, .inl (fun _ => 0)))]) := hD
  exact fq_retv K hret hlk hS hP hD ⟨_, _, _, rfl⟩ dc_Sink_init_29 (Nat.le_of_ble_eq_true rfl) (Nat.le_of_ble_eq_true rfl)
set_option maxHeartbeats 4000000 in
set_option maxRecDepth 100000 in
theorem ct_Source_reopen (l : Launch) (D : va_G) (cI cO : ClassId) (tE : Nat) (h hy hw aw w : Nat) (b : Bool) (f : Nat → Int32) (i : Nat) (L : List Int32) (ca : Nat) (cl : Bool) (sz : Nat) : Met l my_Source_reopen (fq_w my_Source_reopen cb_Source_reopen 1 none) ({ frames := 1, cells := 0, slots := 0, locals := 20 }) (va_Pc ([.ref h]) (fq_Pre D cI cO tE sz ([(h, .inr (8, [.ref hy, .ref hw, .int (nI ca), .int (fq_b cl)])), (hy, .inr (7, [.int (nI w), .int (fq_b b)])), (hw, .inr (0, [.ref aw, .int (nI i), .int (nI L.length)])), (aw, .inl (cI, 120, .inl f))]))) (va_Qv (S := va_W) (fun w' => w' = [(h, .inr (8, [.ref hy, .ref hw, .int (nI 0), .int (fq_b false)])), (hy, .inr (7, [.int (nI w), .int (fq_b b)])), (hw, .inr (0, [.ref aw, .int (nI 0), .int (nI ([] : List Int32).length)])), (aw, .inl (cI, 120, .inl f))]) (fq_Bw D (va_A ([(h, .inr (8, [.ref hy, .ref hw, .int (nI ca), .int (fq_b cl)])), (hy, .inr (7, [.int (nI w), .int (fq_b b)])), (hw, .inr (0, [.ref aw, .int (nI i), .int (nI L.length)])), (aw, .inl (cI, 120, .inl f))]) sz)) (va_A ([(h, .inr (8, [.ref hy, .ref hw, .int (nI ca), .int (fq_b cl)])), (hy, .inr (7, [.int (nI w), .int (fq_b b)])), (hw, .inr (0, [.ref aw, .int (nI i), .int (nI L.length)])), (aw, .inl (cI, 120, .inl f))]) sz)) (0) (0) (va_A ([(h, .inr (8, [.ref hy, .ref hw, .int (nI ca), .int (fq_b cl)])), (hy, .inr (7, [.int (nI w), .int (fq_b b)])), (hw, .inr (0, [.ref aw, .int (nI i), .int (nI L.length)])), (aw, .inl (cI, 120, .inl f))]) sz) := by
  refine fq_open (by decide +kernel) (Nat.le_of_ble_eq_true rfl) ?_
  intro pg ev s mt below meth cd ls K hret hlk hin hK hZ hP hD hA hS hl
  generalize va_A ([(h, .inr (8, [.ref hy, .ref hw, .int (nI ca), .int (fq_b cl)])), (hy, .inr (7, [.int (nI w), .int (fq_b b)])), (hw, .inr (0, [.ref aw, .int (nI i), .int (nI L.length)])), (aw, .inl (cI, 120, .inl f))]) sz = A at hZ hD hA hS ⊢
  have K : fq_Ctx pg mt cd cb_Source_reopen 1 s _ cn_Source := K
  have hl : lv_has ls 1 [(0, .ref h)] := hl
  refine lv_aload_n K.1 K.2.1 dc_Source_reopen_0 rfl (lv_at hl 0 rfl) ?_
  refine fq_get K hK cl_Source hP 0 1 rfl (by decide) wd_140 rfl dc_Source_reopen_1 ?_
  have hc := fq_cut.of (wc := [(hw, .inr (0, [.ref aw, .int (nI i), .int (nI L.length)])), (aw, .inl (cI, 120, .inl f))]) hP hD hS hA [2, 3] (by decide) rfl
  refine fq_cv (wr := [(h, .inr (8, [.ref hy, .ref hw, .int (nI ca), .int (fq_b cl)])), (hy, .inr (7, [.int (nI w), .int (fq_b b)]))]) (fq_rV K hK hZ hS hc (ct_Row_empty l D cI cO tE hw aw 120 f i L _) yk_Row_empty wd_509 wd_510 wd_508 0 rfl rfl rfl ⟨⟨rfl, rfl⟩, ⟨Nat.le_of_ble_eq_true rfl, Nat.le_of_ble_eq_true rfl⟩, ⟨Nat.le_of_ble_eq_true rfl, Nat.le_of_ble_eq_true rfl⟩⟩ hl.1 rfl (Nat.le_of_ble_eq_true rfl) dc_Source_reopen_4) hP hD hS hc [2, 3] [0, 1] rfl rfl (by decide) (by decide) (fun  w H locs hw1 hP hD hS => ?_)
  subst hw1
  have hP : va_P D fq_cl ([(h, .inr (8, [.ref hy, .ref hw, .int (nI ca), .int (fq_b cl)])), (hy, .inr (7, [.int (nI w), .int (fq_b b)])), (hw, .inr (0, [.ref aw, .int 0, .int 0])), (aw, .inl (cI, 120, .inl f))]) _ := hP
  have hD : va_D A ([(h, .inr (8, [.ref hy, .ref hw, .int (nI ca), .int (fq_b cl)])), (hy, .inr (7, [.int (nI w), .int (fq_b b)])), (hw, .inr (0, [.ref aw, .int 0, .int 0])), (aw, .inl (cI, 120, .inl f))]) := hD
  refine lv_aload_n K.1 K.2.1 dc_Source_reopen_7 rfl (lv_at hl 0 rfl) ?_
  refine lv_iconst (v := 0) K.1 K.2.1 dc_Source_reopen_8 (by decide) ?_
  refine fq_put K hK cl_Source hP hD hS 0 2 rfl (by decide) wd_142 rfl rfl rfl (Nat.le_of_ble_eq_true rfl) dc_Source_reopen_9 (fun H locs hP hD hS => ?_)
  have hP : va_P D fq_cl ([(h, .inr (8, [.ref hy, .ref hw, .int 0, .int (fq_b cl)])), (hy, .inr (7, [.int (nI w), .int (fq_b b)])), (hw, .inr (0, [.ref aw, .int 0, .int 0])), (aw, .inl (cI, 120, .inl f))]) _ := hP
  have hD : va_D A ([(h, .inr (8, [.ref hy, .ref hw, .int 0, .int (fq_b cl)])), (hy, .inr (7, [.int (nI w), .int (fq_b b)])), (hw, .inr (0, [.ref aw, .int 0, .int 0])), (aw, .inl (cI, 120, .inl f))]) := hD
  refine lv_aload_n K.1 K.2.1 dc_Source_reopen_12 rfl (lv_at hl 0 rfl) ?_
  refine lv_iconst (v := 0) K.1 K.2.1 dc_Source_reopen_13 (by decide) ?_
  refine fq_put K hK cl_Source hP hD hS 0 3 rfl (by decide) wd_143 rfl rfl rfl (Nat.le_of_ble_eq_true rfl) dc_Source_reopen_14 (fun H locs hP hD hS => ?_)
  have hP : va_P D fq_cl ([(h, .inr (8, [.ref hy, .ref hw, .int 0, .int 0])), (hy, .inr (7, [.int (nI w), .int (fq_b b)])), (hw, .inr (0, [.ref aw, .int 0, .int 0])), (aw, .inl (cI, 120, .inl f))]) _ := hP
  have hD : va_D A ([(h, .inr (8, [.ref hy, .ref hw, .int 0, .int 0])), (hy, .inr (7, [.int (nI w), .int (fq_b b)])), (hw, .inr (0, [.ref aw, .int 0, .int 0])), (aw, .inl (cI, 120, .inl f))]) := hD
  exact fq_retv K hret hlk hS hP hD rfl dc_Source_reopen_17 (Nat.le_of_ble_eq_true rfl) (Nat.le_of_ble_eq_true rfl)
set_option maxHeartbeats 4000000 in
set_option maxRecDepth 100000 in
theorem ct_Source_takes (l : Launch) (D : va_G) (cI cO : ClassId) (tE : Nat) (h hy hw ca : Nat) (cl : Bool) (n : Nat) (hca : ca ≤ 120) (hn : n ≤ 1000) (sz : Nat) : Met l my_Source_takes (fq_w my_Source_takes cb_Source_takes 2 (some .boolean)) ({ frames := 0, cells := 0, slots := 0, locals := 0 }) (va_Pc ([.ref h, .int (nI n)]) (fq_Pre D cI cO tE sz ([(h, .inr (8, [.ref hy, .ref hw, .int (nI ca), .int (fq_b cl)]))]))) (va_Qi (S := va_W) (fun r w => w = [(h, .inr (8, [.ref hy, .ref hw, .int (nI ca), .int (fq_b cl)]))] ∧ r = if cl = false ∧ ca + n ≤ 120 then 1 else 0) (fq_Bw D (va_A ([(h, .inr (8, [.ref hy, .ref hw, .int (nI ca), .int (fq_b cl)]))]) sz)) (va_A ([(h, .inr (8, [.ref hy, .ref hw, .int (nI ca), .int (fq_b cl)]))]) sz)) (0) (0) (va_A ([(h, .inr (8, [.ref hy, .ref hw, .int (nI ca), .int (fq_b cl)]))]) sz) := by
  refine fq_open (by decide +kernel) (Nat.le_of_ble_eq_true rfl) ?_
  intro pg ev s mt below meth cd ls K hret hlk hin hK hZ hP hD hA hS hl
  generalize va_A ([(h, .inr (8, [.ref hy, .ref hw, .int (nI ca), .int (fq_b cl)]))]) sz = A at hZ hD hA hS ⊢
  have K : fq_Ctx pg mt cd cb_Source_takes 2 s _ cn_Source := K
  have hl : lv_has ls 2 [(0, .ref h), (1, .int (nI n))] := hl
  refine lv_aload_n K.1 K.2.1 dc_Source_takes_0 rfl (lv_at hl 0 rfl) ?_
  refine fq_get K hK cl_Source hP 0 3 rfl (by decide) wd_143 rfl dc_Source_takes_1 ?_
  refine lv_if_ne (tgt := 22) K.1 K.2.1 dc_Source_takes_4 rfl (fun b4 => ?_) (fun b4 => ?_)
  · skip
    have hx : ¬ (cl = false ∧ ca + n ≤ 120) := fun z => by rw [fq_b1 b4] at z; exact absurd z.1 (by decide)
    refine lv_iconst (v := 0) K.1 K.2.1 dc_Source_takes_22 (by decide) ?_
    exact fq_retz K hret hlk hS hP hD (by first | exact Or.inl rfl | exact Or.inr rfl) ⟨rfl, by rw [if_neg hx]⟩ dc_Source_takes_23 (Nat.le_of_ble_eq_true rfl) (Nat.le_of_ble_eq_true rfl)
  · skip
    have hc := fq_b0 b4
    refine lv_aload_n K.1 K.2.1 dc_Source_takes_7 rfl (lv_at hl 0 rfl) ?_
    refine fq_get K hK cl_Source hP 0 2 rfl (by decide) wd_142 rfl dc_Source_takes_8 ?_
    refine lv_iload_n K.1 K.2.1 dc_Source_takes_11 rfl (lv_at hl 1 rfl) ?_
    refine lv_iadd K.1 K.2.1 dc_Source_takes_12 ?_
    refine fq_asi (y := nI (ca + n)) (nI_add _ _) ?_
    refine lv_bipush (v := 120) K.1 K.2.1 dc_Source_takes_13 (by decide) ?_
    refine fq_asi (y := nI 120) (by decide) ?_
    refine lv_icmp_gt (tgt := 22) K.1 K.2.1 dc_Source_takes_15 rfl (fun b15 => ?_) (fun b15 => ?_)
    · skip
      rw [nI_ltI (by omega) (by omega)] at b15
      have hx : ¬ (cl = false ∧ ca + n ≤ 120) := fun z => absurd z.2 (by omega)
      refine lv_iconst (v := 0) K.1 K.2.1 dc_Source_takes_22 (by decide) ?_
      exact fq_retz K hret hlk hS hP hD (by first | exact Or.inl rfl | exact Or.inr rfl) ⟨rfl, by rw [if_neg hx]⟩ dc_Source_takes_23 (Nat.le_of_ble_eq_true rfl) (Nat.le_of_ble_eq_true rfl)
    · skip
      rw [nI_ltI (by omega) (by omega)] at b15
      have hx : cl = false ∧ ca + n ≤ 120 := ⟨hc, by omega⟩
      refine lv_iconst (v := 1) K.1 K.2.1 dc_Source_takes_18 (by decide) ?_
      refine lv_goto (tgt := 23) K.1 K.2.1 dc_Source_takes_19 rfl ?_
      exact fq_retz K hret hlk hS hP hD (by first | exact Or.inl rfl | exact Or.inr rfl) ⟨rfl, by rw [if_pos hx]⟩ dc_Source_takes_23 (Nat.le_of_ble_eq_true rfl) (Nat.le_of_ble_eq_true rfl)
set_option maxHeartbeats 4000000 in
set_option maxRecDepth 100000 in
theorem ct_Source_addByte (l : Launch) (D : va_G) (cI cO : ClassId) (tE : Nat) (h hy hw aw w : Nat) (b : Bool) (f : Nat → Int32) (i : Nat) (L : List Int32) (ca : Nat) (cl : Bool) (x : Int32) (hrow : rw_ok 120 f i L) (sz : Nat) : Met l my_Source_addByte (fq_w my_Source_addByte cb_Source_addByte 2 none) ({ frames := 2, cells := 0, slots := 0, locals := 41 }) (va_Pc ([.ref h, .int x]) (fq_Pre D cI cO tE sz ([(h, .inr (8, [.ref hy, .ref hw, .int (nI ca), .int (fq_b cl)])), (hy, .inr (7, [.int (nI w), .int (fq_b b)])), (hw, .inr (0, [.ref aw, .int (nI i), .int (nI L.length)])), (aw, .inl (cI, 120, .inl f))]))) (va_Qv (S := va_W) (fun w' => ∃ g : Nat → Int32, w' = [(h, .inr (8, [.ref hy, .ref hw, .int (nI (ca + 1)), .int (fq_b cl)])), (hy, .inr (7, [.int (nI w), .int (fq_b b)])), (hw, .inr (0, [.ref aw, .int (nI i), .int (nI (rw_put 120 L x).length)])), (aw, .inl (cI, 120, .inl g))] ∧ rw_ok 120 g i (rw_put 120 L x)) (fq_Bw D (va_A ([(h, .inr (8, [.ref hy, .ref hw, .int (nI ca), .int (fq_b cl)])), (hy, .inr (7, [.int (nI w), .int (fq_b b)])), (hw, .inr (0, [.ref aw, .int (nI i), .int (nI L.length)])), (aw, .inl (cI, 120, .inl f))]) sz)) (va_A ([(h, .inr (8, [.ref hy, .ref hw, .int (nI ca), .int (fq_b cl)])), (hy, .inr (7, [.int (nI w), .int (fq_b b)])), (hw, .inr (0, [.ref aw, .int (nI i), .int (nI L.length)])), (aw, .inl (cI, 120, .inl f))]) sz)) (0) (0) (va_A ([(h, .inr (8, [.ref hy, .ref hw, .int (nI ca), .int (fq_b cl)])), (hy, .inr (7, [.int (nI w), .int (fq_b b)])), (hw, .inr (0, [.ref aw, .int (nI i), .int (nI L.length)])), (aw, .inl (cI, 120, .inl f))]) sz) := by
  refine fq_open (by decide +kernel) (Nat.le_of_ble_eq_true rfl) ?_
  intro pg ev s mt below meth cd ls K hret hlk hin hK hZ hP hD hA hS hl
  generalize va_A ([(h, .inr (8, [.ref hy, .ref hw, .int (nI ca), .int (fq_b cl)])), (hy, .inr (7, [.int (nI w), .int (fq_b b)])), (hw, .inr (0, [.ref aw, .int (nI i), .int (nI L.length)])), (aw, .inl (cI, 120, .inl f))]) sz = A at hZ hD hA hS ⊢
  have K : fq_Ctx pg mt cd cb_Source_addByte 2 s _ cn_Source := K
  have hl : lv_has ls 2 [(0, .ref h), (1, .int x)] := hl
  refine lv_aload_n K.1 K.2.1 dc_Source_addByte_0 rfl (lv_at hl 0 rfl) ?_
  refine fq_get K hK cl_Source hP 0 1 rfl (by decide) wd_140 rfl dc_Source_addByte_1 ?_
  refine lv_iload_n K.1 K.2.1 dc_Source_addByte_4 rfl (lv_at hl 1 rfl) ?_
  have hc := fq_cut.of (wc := [(hw, .inr (0, [.ref aw, .int (nI i), .int (nI L.length)])), (aw, .inl (cI, 120, .inl f))]) hP hD hS hA [2, 3] (by decide) rfl
  refine fq_cv (wr := [(h, .inr (8, [.ref hy, .ref hw, .int (nI ca), .int (fq_b cl)])), (hy, .inr (7, [.int (nI w), .int (fq_b b)]))]) (fq_rV K hK hZ hS hc (ct_Row_add l D cI cO tE hw aw 120 f i L x hrow _) yk_Row_add wd_554 wd_555 wd_553 0 rfl rfl rfl ⟨⟨rfl, rfl⟩, ⟨Nat.le_of_ble_eq_true rfl, Nat.le_of_ble_eq_true rfl⟩, ⟨Nat.le_of_ble_eq_true rfl, Nat.le_of_ble_eq_true rfl⟩⟩ hl.1 rfl (Nat.le_of_ble_eq_true rfl) dc_Source_addByte_5) hP hD hS hc [2, 3] [0, 1] rfl rfl (by decide) (by decide) (fun  w H locs hw1 hP hD hS => ?_)
  obtain ⟨g1, rfl, hrow1⟩ := hw1
  have hP : va_P D fq_cl ([(h, .inr (8, [.ref hy, .ref hw, .int (nI ca), .int (fq_b cl)])), (hy, .inr (7, [.int (nI w), .int (fq_b b)])), (hw, .inr (0, [.ref aw, .int (nI i), .int (nI (rw_put 120 L x).length)])), (aw, .inl (cI, 120, .inl g1))]) _ := hP
  have hD : va_D A ([(h, .inr (8, [.ref hy, .ref hw, .int (nI ca), .int (fq_b cl)])), (hy, .inr (7, [.int (nI w), .int (fq_b b)])), (hw, .inr (0, [.ref aw, .int (nI i), .int (nI (rw_put 120 L x).length)])), (aw, .inl (cI, 120, .inl g1))]) := hD
  refine lv_aload_n K.1 K.2.1 dc_Source_addByte_8 rfl (lv_at hl 0 rfl) ?_
  refine lv_dup K.1 K.2.1 dc_Source_addByte_9 rfl ?_
  refine fq_get K hK cl_Source hP 0 2 rfl (by decide) wd_142 rfl dc_Source_addByte_10 ?_
  refine lv_iconst (v := 1) K.1 K.2.1 dc_Source_addByte_13 (by decide) ?_
  refine lv_iadd K.1 K.2.1 dc_Source_addByte_14 ?_
  refine fq_asi (y := nI (ca + 1)) (nI_1 ca) ?_
  refine fq_put K hK cl_Source hP hD hS 0 2 rfl (by decide) wd_142 rfl rfl rfl (Nat.le_of_ble_eq_true rfl) dc_Source_addByte_15 (fun H locs hP hD hS => ?_)
  have hP : va_P D fq_cl ([(h, .inr (8, [.ref hy, .ref hw, .int (nI (ca + 1)), .int (fq_b cl)])), (hy, .inr (7, [.int (nI w), .int (fq_b b)])), (hw, .inr (0, [.ref aw, .int (nI i), .int (nI (rw_put 120 L x).length)])), (aw, .inl (cI, 120, .inl g1))]) _ := hP
  have hD : va_D A ([(h, .inr (8, [.ref hy, .ref hw, .int (nI (ca + 1)), .int (fq_b cl)])), (hy, .inr (7, [.int (nI w), .int (fq_b b)])), (hw, .inr (0, [.ref aw, .int (nI i), .int (nI (rw_put 120 L x).length)])), (aw, .inl (cI, 120, .inl g1))]) := hD
  exact fq_retv K hret hlk hS hP hD ⟨_, rfl, hrow1⟩ dc_Source_addByte_18 (Nat.le_of_ble_eq_true rfl) (Nat.le_of_ble_eq_true rfl)
set_option maxHeartbeats 4000000 in
set_option maxRecDepth 100000 in
theorem ct_Source_hasSample (l : Launch) (D : va_G) (cI cO : ClassId) (tE : Nat) (h hy hw aw w : Nat) (b : Bool) (f : Nat → Int32) (i : Nat) (L : List Int32) (ca : Nat) (cl : Bool) (hrow : rw_ok 120 f i L) (hw4 : w ≤ 4) (sz : Nat) : Met l my_Source_hasSample (fq_w my_Source_hasSample cb_Source_hasSample 1 (some .boolean)) ({ frames := 1, cells := 0, slots := 0, locals := 20 }) (va_Pc ([.ref h]) (fq_Pre D cI cO tE sz ([(h, .inr (8, [.ref hy, .ref hw, .int (nI ca), .int (fq_b cl)])), (hy, .inr (7, [.int (nI w), .int (fq_b b)])), (hw, .inr (0, [.ref aw, .int (nI i), .int (nI L.length)])), (aw, .inl (cI, 120, .inl f))]))) (va_Qi (S := va_W) (fun r w' => w' = [(h, .inr (8, [.ref hy, .ref hw, .int (nI ca), .int (fq_b cl)])), (hy, .inr (7, [.int (nI w), .int (fq_b b)])), (hw, .inr (0, [.ref aw, .int (nI i), .int (nI L.length)])), (aw, .inl (cI, 120, .inl f))] ∧ r = if L.length < w then 0 else 1) (fq_Bw D (va_A ([(h, .inr (8, [.ref hy, .ref hw, .int (nI ca), .int (fq_b cl)])), (hy, .inr (7, [.int (nI w), .int (fq_b b)])), (hw, .inr (0, [.ref aw, .int (nI i), .int (nI L.length)])), (aw, .inl (cI, 120, .inl f))]) sz)) (va_A ([(h, .inr (8, [.ref hy, .ref hw, .int (nI ca), .int (fq_b cl)])), (hy, .inr (7, [.int (nI w), .int (fq_b b)])), (hw, .inr (0, [.ref aw, .int (nI i), .int (nI L.length)])), (aw, .inl (cI, 120, .inl f))]) sz)) (0) (0) (va_A ([(h, .inr (8, [.ref hy, .ref hw, .int (nI ca), .int (fq_b cl)])), (hy, .inr (7, [.int (nI w), .int (fq_b b)])), (hw, .inr (0, [.ref aw, .int (nI i), .int (nI L.length)])), (aw, .inl (cI, 120, .inl f))]) sz) := by
  refine fq_open (by decide +kernel) (Nat.le_of_ble_eq_true rfl) ?_
  intro pg ev s mt below meth cd ls K hret hlk hin hK hZ hP hD hA hS hl
  generalize va_A ([(h, .inr (8, [.ref hy, .ref hw, .int (nI ca), .int (fq_b cl)])), (hy, .inr (7, [.int (nI w), .int (fq_b b)])), (hw, .inr (0, [.ref aw, .int (nI i), .int (nI L.length)])), (aw, .inl (cI, 120, .inl f))]) sz = A at hZ hD hA hS ⊢
  have K : fq_Ctx pg mt cd cb_Source_hasSample 1 s _ cn_Source := K
  have hl : lv_has ls 1 [(0, .ref h)] := hl
  have hLn := hrow.2.2.2.1
  refine lv_aload_n K.1 K.2.1 dc_Source_hasSample_0 rfl (lv_at hl 0 rfl) ?_
  refine fq_get K hK cl_Source hP 0 1 rfl (by decide) wd_140 rfl dc_Source_hasSample_1 ?_
  have hc := fq_cut.of (wc := [(hw, .inr (0, [.ref aw, .int (nI i), .int (nI L.length)])), (aw, .inl (cI, 120, .inl f))]) hP hD hS hA [2, 3] (by decide) rfl
  refine fq_ci (wr := [(h, .inr (8, [.ref hy, .ref hw, .int (nI ca), .int (fq_b cl)])), (hy, .inr (7, [.int (nI w), .int (fq_b b)]))]) (fq_rV K hK hZ hS hc (ct_Row_size l D cI cO tE hw aw 120 f i L hrow _) yk_Row_size wd_574 wd_575 wd_591 0 rfl rfl rfl ⟨⟨rfl, rfl⟩, ⟨Nat.le_of_ble_eq_true rfl, Nat.le_of_ble_eq_true rfl⟩, ⟨Nat.le_of_ble_eq_true rfl, Nat.le_of_ble_eq_true rfl⟩⟩ hl.1 rfl (Nat.le_of_ble_eq_true rfl) dc_Source_hasSample_4) hP hD hS hc [2, 3] [0, 1] rfl rfl (by decide) (by decide) (fun r1 w H locs hw1 hP hD hS => ?_)
  obtain ⟨rfl, rfl⟩ := hw1
  have hP : va_P D fq_cl ([(h, .inr (8, [.ref hy, .ref hw, .int (nI ca), .int (fq_b cl)])), (hy, .inr (7, [.int (nI w), .int (fq_b b)])), (hw, .inr (0, [.ref aw, .int (nI i), .int (nI L.length)])), (aw, .inl (cI, 120, .inl f))]) _ := hP
  have hD : va_D A ([(h, .inr (8, [.ref hy, .ref hw, .int (nI ca), .int (fq_b cl)])), (hy, .inr (7, [.int (nI w), .int (fq_b b)])), (hw, .inr (0, [.ref aw, .int (nI i), .int (nI L.length)])), (aw, .inl (cI, 120, .inl f))]) := hD
  refine lv_aload_n K.1 K.2.1 dc_Source_hasSample_7 rfl (lv_at hl 0 rfl) ?_
  refine fq_get K hK cl_Source hP 0 0 rfl (by decide) wd_138 rfl dc_Source_hasSample_8 ?_
  refine fq_getN K hK cl_Layout hP 1 0 rfl (by decide) wn_129 rfl dc_Source_hasSample_11 ?_
  refine lv_icmp_lt (tgt := 21) K.1 K.2.1 dc_Source_hasSample_14 rfl (fun b14 => ?_) (fun b14 => ?_)
  · skip
    rw [nI_ltI (by omega) (by omega)] at b14
    refine lv_iconst (v := 0) K.1 K.2.1 dc_Source_hasSample_21 (by decide) ?_
    exact fq_retz K hret hlk hS hP hD (by first | exact Or.inl rfl | exact Or.inr rfl) ⟨rfl, by first | rw [if_pos b14] | rw [if_neg b14]⟩ dc_Source_hasSample_22 (Nat.le_of_ble_eq_true rfl) (Nat.le_of_ble_eq_true rfl)
  · skip
    rw [nI_ltI (by omega) (by omega)] at b14
    refine lv_iconst (v := 1) K.1 K.2.1 dc_Source_hasSample_17 (by decide) ?_
    refine lv_goto (tgt := 22) K.1 K.2.1 dc_Source_hasSample_18 rfl ?_
    exact fq_retz K hret hlk hS hP hD (by first | exact Or.inl rfl | exact Or.inr rfl) ⟨rfl, by first | rw [if_pos b14] | rw [if_neg b14]⟩ dc_Source_hasSample_22 (Nat.le_of_ble_eq_true rfl) (Nat.le_of_ble_eq_true rfl)
set_option maxHeartbeats 4000000 in
set_option maxRecDepth 100000 in
theorem ct_Source_nextSample (l : Launch) (D : va_G) (cI cO : ClassId) (tE : Nat) (h hy hw aw w : Nat) (b : Bool) (f : Nat → Int32) (i : Nat) (L : List Int32) (ca : Nat) (cl : Bool) (hrow : rw_ok 120 f i L) (hw1 : 1 ≤ w) (hw4 : w ≤ 4) (hwl : w ≤ L.length) (hby : ∀ x ∈ L, 0 ≤ x.toInt ∧ x.toInt < 256) (sz : Nat) : Met l my_Source_nextSample (fq_w my_Source_nextSample cb_Source_nextSample 3 (some .int)) ({ frames := 1, cells := 0, slots := 0, locals := 21 }) (va_Pc ([.ref h]) (fq_Pre D cI cO tE sz ([(h, .inr (8, [.ref hy, .ref hw, .int (nI ca), .int (fq_b cl)])), (hy, .inr (7, [.int (nI w), .int (fq_b b)])), (hw, .inr (0, [.ref aw, .int (nI i), .int (nI L.length)])), (aw, .inl (cI, 120, .inl f))]))) (va_Qi (S := va_W) (fun r w' => ∃ (j : Nat) (L3 : List Int32), w' = [(h, .inr (8, [.ref hy, .ref hw, .int (nI ca), .int (fq_b cl)])), (hy, .inr (7, [.int (nI w), .int (fq_b b)])), (hw, .inr (0, [.ref aw, .int (nI j), .int (nI L3.length)])), (aw, .inl (cI, 120, .inl f))] ∧ L3 = L.drop w ∧ rw_ok 120 f j L3 ∧ r.toInt = ns_s w (ns_v w b L w)) (fq_Bw D (va_A ([(h, .inr (8, [.ref hy, .ref hw, .int (nI ca), .int (fq_b cl)])), (hy, .inr (7, [.int (nI w), .int (fq_b b)])), (hw, .inr (0, [.ref aw, .int (nI i), .int (nI L.length)])), (aw, .inl (cI, 120, .inl f))]) sz)) (va_A ([(h, .inr (8, [.ref hy, .ref hw, .int (nI ca), .int (fq_b cl)])), (hy, .inr (7, [.int (nI w), .int (fq_b b)])), (hw, .inr (0, [.ref aw, .int (nI i), .int (nI L.length)])), (aw, .inl (cI, 120, .inl f))]) sz)) (0) (0) (va_A ([(h, .inr (8, [.ref hy, .ref hw, .int (nI ca), .int (fq_b cl)])), (hy, .inr (7, [.int (nI w), .int (fq_b b)])), (hw, .inr (0, [.ref aw, .int (nI i), .int (nI L.length)])), (aw, .inl (cI, 120, .inl f))]) sz) := by
  refine fq_open (by decide +kernel) (Nat.le_of_ble_eq_true rfl) ?_
  intro pg ev s mt below meth cd ls K hret hlk hin hK hZ hP hD hA hS hl
  generalize va_A ([(h, .inr (8, [.ref hy, .ref hw, .int (nI ca), .int (fq_b cl)])), (hy, .inr (7, [.int (nI w), .int (fq_b b)])), (hw, .inr (0, [.ref aw, .int (nI i), .int (nI L.length)])), (aw, .inl (cI, 120, .inl f))]) sz = A at hZ hD hA hS ⊢
  have K : fq_Ctx pg mt cd cb_Source_nextSample 3 s _ cn_Source := K
  have hl : lv_has ls 3 [(0, .ref h)] := hl
  refine lv_iconst (v := 0) K.1 K.2.1 dc_Source_nextSample_0 (by decide) ?_
  refine lv_istore_n K.1 K.2.1 dc_Source_nextSample_1 rfl hl (by decide) rfl (fun ls hl => ?_)
  have hl : lv_has ls 3 [(1, .int 0), (0, .ref h)] := hl
  refine lv_iconst (v := 0) K.1 K.2.1 dc_Source_nextSample_2 (by decide) ?_
  refine lv_istore_n K.1 K.2.1 dc_Source_nextSample_3 rfl hl (by decide) rfl (fun ls hl => ?_)
  have hl : lv_has ls 3 [(2, .int 0), (1, .int 0), (0, .ref h)] := hl
  refine fq_lp (σ := Nat × Nat × List Int32 × Int32) (fun x => w - x.1) (fun x H locs ls => (x.1 ≤ w ∧ rw_ok 120 f x.2.1 x.2.2.1 ∧ x.2.2.1 = L.drop x.1 ∧ x.2.2.2 = nI (ns_v w b L x.1)) ∧ lv_has ls 3 [(0, .ref h), (1, .int x.2.2.2), (2, .int (nI x.1))] ∧ va_P D fq_cl ([(h, .inr (8, [.ref hy, .ref hw, .int (nI ca), .int (fq_b cl)])), (hy, .inr (7, [.int (nI w), .int (fq_b b)])), (hw, .inr (0, [.ref aw, .int (nI x.2.1), .int (nI x.2.2.1.length)])), (aw, .inl (cI, 120, .inl f))]) H ∧ va_D A ([(h, .inr (8, [.ref hy, .ref hw, .int (nI ca), .int (fq_b cl)])), (hy, .inr (7, [.int (nI w), .int (fq_b b)])), (hw, .inr (0, [.ref aw, .int (nI x.2.1), .int (nI x.2.2.1.length)])), (aw, .inl (cI, 120, .inl f))]) ∧ va_S A s.heap H locs) ?_ (0, i, L, 0) _ _ _ ⟨⟨Nat.zero_le _, hrow, rfl, rfl⟩, lv_sub hl [2, 1, 0] rfl, hP, hD, hS⟩
  rintro ⟨k, i2, L2, bt⟩ H locs ls ⟨hI4, hl, hP, hD, hS⟩ ih4
  have hI4 : k ≤ w ∧ rw_ok 120 f i2 L2 ∧ L2 = L.drop k ∧ bt = nI (ns_v w b L k) := hI4
  have hl : lv_has ls 3 [(0, .ref h), (1, .int bt), (2, .int (nI k))] := hl
  have hP : va_P D fq_cl ([(h, .inr (8, [.ref hy, .ref hw, .int (nI ca), .int (fq_b cl)])), (hy, .inr (7, [.int (nI w), .int (fq_b b)])), (hw, .inr (0, [.ref aw, .int (nI i2), .int (nI L2.length)])), (aw, .inl (cI, 120, .inl f))]) _ := hP
  have hD : va_D A ([(h, .inr (8, [.ref hy, .ref hw, .int (nI ca), .int (fq_b cl)])), (hy, .inr (7, [.int (nI w), .int (fq_b b)])), (hw, .inr (0, [.ref aw, .int (nI i2), .int (nI L2.length)])), (aw, .inl (cI, 120, .inl f))]) := hD
  refine lv_iload_n K.1 K.2.1 dc_Source_nextSample_4 rfl (lv_at hl 2 rfl) ?_
  refine lv_aload_n K.1 K.2.1 dc_Source_nextSample_5 rfl (lv_at hl 0 rfl) ?_
  refine fq_get K hK cl_Source hP 0 0 rfl (by decide) wd_138 rfl dc_Source_nextSample_6 ?_
  refine fq_getN K hK cl_Layout hP 1 0 rfl (by decide) wn_129 rfl dc_Source_nextSample_9 ?_
  refine lv_icmp_ge (tgt := 40) K.1 K.2.1 dc_Source_nextSample_12 rfl (fun b12 => ?_) (fun b12 => ?_)
  · skip
    have hk : k = w := by rw [nI_leI (by omega) (by omega)] at b12; omega
    refine lv_aload_n K.1 K.2.1 dc_Source_nextSample_40 rfl (lv_at hl 0 rfl) ?_
    refine fq_get K hK cl_Source hP 0 0 rfl (by decide) wd_138 rfl dc_Source_nextSample_41 ?_
    refine fq_getN K hK cl_Layout hP 1 0 rfl (by decide) wn_129 rfl dc_Source_nextSample_44 ?_
    by_cases c47_1 : nI w = 1
    · skip
      refine lv_tableIn (off := 25) (tgt := 72) K.1 K.2.1 dc_Source_nextSample_47 (by rw [c47_1]; decide) (by rw [c47_1]; decide) (by rw [c47_1]; decide) rfl ?_
      refine lv_iload_n K.1 K.2.1 dc_Source_nextSample_72 rfl (lv_at hl 1 rfl) ?_
      refine lv_sipush (v := 128) K.1 K.2.1 dc_Source_nextSample_73 (by decide) ?_
      refine lv_isub K.1 K.2.1 dc_Source_nextSample_76 ?_
      refine lv_ldc (v := 65536) K.1 K.2.1 K.2.2.2.1 (K.2.2.2.2 _ wd_601) dc_Source_nextSample_77 ?_
      refine lv_imul K.1 K.2.1 dc_Source_nextSample_79 ?_
      exact fq_reti K hret hlk hS hP hD ⟨_, _, rfl, hk ▸ hI4.2.2.1, hI4.2.1, ns_1 hw4 hby hwl hI4.2.2.2 hk c47_1⟩ dc_Source_nextSample_80 (Nat.le_of_ble_eq_true rfl) (Nat.le_of_ble_eq_true rfl)
    by_cases c47_2 : nI w = 2
    · skip
      refine lv_tableIn (off := 34) (tgt := 81) K.1 K.2.1 dc_Source_nextSample_47 (by rw [c47_2]; decide) (by rw [c47_2]; decide) (by rw [c47_2]; decide) rfl ?_
      refine lv_iload_n K.1 K.2.1 dc_Source_nextSample_81 rfl (lv_at hl 1 rfl) ?_
      refine lv_i2s K.1 K.2.1 dc_Source_nextSample_82 rfl ?_
      refine lv_sipush (v := 256) K.1 K.2.1 dc_Source_nextSample_83 (by decide) ?_
      refine lv_imul K.1 K.2.1 dc_Source_nextSample_86 ?_
      exact fq_reti K hret hlk hS hP hD ⟨_, _, rfl, hk ▸ hI4.2.2.1, hI4.2.1, ns_2 hw4 hby hwl hI4.2.2.2 hk c47_2⟩ dc_Source_nextSample_87 (Nat.le_of_ble_eq_true rfl) (Nat.le_of_ble_eq_true rfl)
    by_cases c47_3 : nI w = 3
    · skip
      refine lv_tableIn (off := 41) (tgt := 88) K.1 K.2.1 dc_Source_nextSample_47 (by rw [c47_3]; decide) (by rw [c47_3]; decide) (by rw [c47_3]; decide) rfl ?_
      refine lv_iload_n K.1 K.2.1 dc_Source_nextSample_88 rfl (lv_at hl 1 rfl) ?_
      refine lv_bipush (v := 8) K.1 K.2.1 dc_Source_nextSample_89 (by decide) ?_
      refine lv_ishl K.1 K.2.1 dc_Source_nextSample_91 ?_
      refine lv_bipush (v := 8) K.1 K.2.1 dc_Source_nextSample_92 (by decide) ?_
      refine lv_ishr K.1 K.2.1 dc_Source_nextSample_94 ?_
      exact fq_reti K hret hlk hS hP hD ⟨_, _, rfl, hk ▸ hI4.2.2.1, hI4.2.1, ns_3 hw4 hby hwl hI4.2.2.2 hk c47_3⟩ dc_Source_nextSample_95 (Nat.le_of_ble_eq_true rfl) (Nat.le_of_ble_eq_true rfl)
    refine lv_tableOut (tgt := 96) K.1 K.2.1 dc_Source_nextSample_47 ((by have e1 := nI_toInt (n := w) (by omega); have h1 : ¬ nI w = 1 := c47_1; have h2 : ¬ nI w = 2 := c47_2; have h3 : ¬ nI w = 3 := c47_3; right; rw [e1]; exact ns_out hw1 c47_1 c47_2 c47_3)) rfl ?_
    refine lv_iload_n K.1 K.2.1 dc_Source_nextSample_96 rfl (lv_at hl 1 rfl) ?_
    refine lv_bipush (v := 8) K.1 K.2.1 dc_Source_nextSample_97 (by decide) ?_
    refine lv_ishr K.1 K.2.1 dc_Source_nextSample_99 ?_
    exact fq_reti K hret hlk hS hP hD ⟨_, _, rfl, hk ▸ hI4.2.2.1, hI4.2.1, ns_4 hw4 hw1 hI4.2.2.2 hk c47_1 c47_2 c47_3⟩ dc_Source_nextSample_100 (Nat.le_of_ble_eq_true rfl) (Nat.le_of_ble_eq_true rfl)
  · skip
    have hk : k < w := by rw [nI_leI (by omega) (by omega)] at b12; omega
    refine lv_iload_n K.1 K.2.1 dc_Source_nextSample_15 rfl (lv_at hl 1 rfl) ?_
    refine lv_aload_n K.1 K.2.1 dc_Source_nextSample_16 rfl (lv_at hl 0 rfl) ?_
    refine fq_get K hK cl_Source hP 0 1 rfl (by decide) wd_140 rfl dc_Source_nextSample_17 ?_
    have hc := fq_cut.of (wc := [(hw, .inr (0, [.ref aw, .int (nI i2), .int (nI L2.length)])), (aw, .inl (cI, 120, .inl f))]) hP hD hS hA [2, 3] (by decide) rfl
    refine fq_ci (wr := [(h, .inr (8, [.ref hy, .ref hw, .int (nI ca), .int (fq_b cl)])), (hy, .inr (7, [.int (nI w), .int (fq_b b)]))]) (fq_rV K hK hZ hS hc (ct_Row_takeOldest l D cI cO tE hw aw 120 f i2 L2 hI4.2.1 _) yk_Row_takeOldest wd_583 wd_584 wd_596 0 rfl rfl rfl ⟨⟨rfl, rfl⟩, ⟨Nat.le_of_ble_eq_true rfl, Nat.le_of_ble_eq_true rfl⟩, ⟨Nat.le_of_ble_eq_true rfl, Nat.le_of_ble_eq_true rfl⟩⟩ hl.1 rfl (Nat.le_of_ble_eq_true rfl) dc_Source_nextSample_20) hP hD hS hc [2, 3] [0, 1] rfl rfl (by decide) (by decide) (fun r1 w H locs hw1 hP hD hS => ?_)
    obtain ⟨j1, rfl, rfl, hrow1⟩ := hw1
    have hP : va_P D fq_cl ([(h, .inr (8, [.ref hy, .ref hw, .int (nI ca), .int (fq_b cl)])), (hy, .inr (7, [.int (nI w), .int (fq_b b)])), (hw, .inr (0, [.ref aw, .int (nI j1), .int (nI L2.tail.length)])), (aw, .inl (cI, 120, .inl f))]) _ := hP
    have hD : va_D A ([(h, .inr (8, [.ref hy, .ref hw, .int (nI ca), .int (fq_b cl)])), (hy, .inr (7, [.int (nI w), .int (fq_b b)])), (hw, .inr (0, [.ref aw, .int (nI j1), .int (nI L2.tail.length)])), (aw, .inl (cI, 120, .inl f))]) := hD
    refine lv_aload_n K.1 K.2.1 dc_Source_nextSample_23 rfl (lv_at hl 0 rfl) ?_
    refine fq_get K hK cl_Source hP 0 0 rfl (by decide) wd_138 rfl dc_Source_nextSample_24 ?_
    refine lv_iload_n K.1 K.2.1 dc_Source_nextSample_27 rfl (lv_at hl 2 rfl) ?_
    have hc := fq_cut.of (wc := [(hy, .inr (7, [.int (nI w), .int (fq_b b)]))]) hP hD hS hA [1] (by decide) rfl
    refine fq_ci (wr := [(h, .inr (8, [.ref hy, .ref hw, .int (nI ca), .int (fq_b cl)])), (hw, .inr (0, [.ref aw, .int (nI j1), .int (nI L2.tail.length)])), (aw, .inl (cI, 120, .inl f))]) (fq_rV K hK hZ hS hc (ct_Layout_shiftOf l D cI cO tE hy w b k hk (by omega) _) yk_Layout_shiftOf wd_598 wd_599 wd_597 0 rfl rfl rfl ⟨⟨rfl, rfl⟩, ⟨Nat.le_of_ble_eq_true rfl, Nat.le_of_ble_eq_true rfl⟩, ⟨Nat.le_of_ble_eq_true rfl, Nat.le_of_ble_eq_true rfl⟩⟩ hl.1 rfl (Nat.le_of_ble_eq_true rfl) dc_Source_nextSample_28) hP hD hS hc [1] [0, 2, 3] rfl rfl (by decide) (by decide) (fun r2 w H locs hw2 hP hD hS => ?_)
    obtain ⟨rfl, rfl⟩ := hw2
    have hP : va_P D fq_cl ([(h, .inr (8, [.ref hy, .ref hw, .int (nI ca), .int (fq_b cl)])), (hw, .inr (0, [.ref aw, .int (nI j1), .int (nI L2.tail.length)])), (aw, .inl (cI, 120, .inl f)), (hy, .inr (7, [.int (nI w), .int (fq_b b)]))]) _ := hP
    have hD : va_D A ([(h, .inr (8, [.ref hy, .ref hw, .int (nI ca), .int (fq_b cl)])), (hw, .inr (0, [.ref aw, .int (nI j1), .int (nI L2.tail.length)])), (aw, .inl (cI, 120, .inl f)), (hy, .inr (7, [.int (nI w), .int (fq_b b)]))]) := hD
    refine lv_ishl K.1 K.2.1 dc_Source_nextSample_31 ?_
    refine lv_ior K.1 K.2.1 dc_Source_nextSample_32 ?_
    refine lv_topi (fun v1 e_v1 => ?_)
    refine lv_istore_n K.1 K.2.1 dc_Source_nextSample_33 rfl hl (by decide) rfl (fun ls hl => ?_)
    have hl : lv_has ls 3 [(1, .int v1), (0, .ref h), (2, .int (nI k))] := hl
    refine lv_iinc (v := nI (k + 1)) K.1 K.2.1 dc_Source_nextSample_34 hl (k := 2) rfl (nI_1 k) (by decide) rfl (fun ls hl => ?_)
    have hl : lv_has ls 3 [(2, .int (nI (k + 1))), (1, .int v1), (0, .ref h)] := hl
    refine lv_goto (tgt := 4) K.1 K.2.1 dc_Source_nextSample_37 rfl ?_
    have hP := hP.sub (ws' := [(h, .inr (8, [.ref hy, .ref hw, .int (nI ca), .int (fq_b cl)])), (hy, .inr (7, [.int (nI w), .int (fq_b b)])), (hw, .inr (0, [.ref aw, .int (nI j1), .int (nI L2.tail.length)])), (aw, .inl (cI, 120, .inl f))]) [0, 3, 1, 2] rfl
    have hD := hD.sub (ws' := [(h, .inr (8, [.ref hy, .ref hw, .int (nI ca), .int (fq_b cl)])), (hy, .inr (7, [.int (nI w), .int (fq_b b)])), (hw, .inr (0, [.ref aw, .int (nI j1), .int (nI L2.tail.length)])), (aw, .inl (cI, 120, .inl f))]) [0, 3, 1, 2] (by decide) rfl
    exact ih4 (k + 1, j1, L2.tail, v1) _ _ _ (by show w - (k + 1) < w - k; omega) ⟨ns_step hI4 hk hw4 hwl hby hrow1 e_v1, lv_sub hl [2, 1, 0] rfl, hP, hD, hS⟩
end
section
theorem wd_12 : Cond.selects cn_Sink my_Sink_bitsOf my_Sink_bitsOf ∈ fq_TB := fq_in 12 (by decide +kernel) rfl
theorem wn_128 : Cond.fieldLinkNest cn_Sink 27 cn_Layout "width" "I" cn_FP ∈ lw_tbl := List.mem_of_getElem? (i := 128) (by decide +kernel)
theorem wd_732 : Cond.instanceMethod my_Sink_byteAt ∈ fq_TB := fq_in 732 (by decide +kernel) rfl
theorem wd_733 : Cond.selects cn_Sink my_Sink_byteAt my_Sink_byteAt ∈ fq_TB := fq_in 733 (by decide +kernel) rfl
theorem wd_734 : Cond.code my_Sink_byteAt cb_Sink_byteAt 3 (some .int) ∈ fq_TB := fq_in 734 (by decide +kernel) rfl
theorem wd_735 : Cond.methodLink cn_Sink 31 my_Row_size ∈ fq_TB := fq_in 735 (by decide +kernel) rfl
theorem wd_736 : Cond.methodLink cn_Sink 35 my_Row_get ∈ fq_TB := fq_in 736 (by decide +kernel) rfl
theorem wd_740 : Cond.methodLink cn_Sink 39 my_Sink_bitsOf ∈ fq_TB := fq_in 740 (by decide +kernel) rfl
theorem wd_742 : Cond.instanceMethod my_Sink_bitsOf ∈ fq_TB := fq_in 742 (by decide +kernel) rfl
theorem wd_743 : Cond.code my_Sink_bitsOf cb_Sink_bitsOf 2 (some .int) ∈ fq_TB := fq_in 743 (by decide +kernel) rfl
theorem wd_744 : Cond.constant cn_Sink 45 32768 ∈ fq_TB := fq_in 744 (by decide +kernel) rfl
theorem wd_745 : Cond.constant cn_Sink 46 65536 ∈ fq_TB := fq_in 745 (by decide +kernel) rfl
theorem wd_746 : Cond.methodLink cn_Sink 47 my_Ma_floorDiv2 ∈ fq_TB := fq_in 746 (by decide +kernel) rfl
theorem wd_749 : Cond.methodLink cn_Sink 53 my_Ma_min ∈ fq_TB := fq_in 749 (by decide +kernel) rfl
theorem wd_750 : Cond.methodLink cn_Sink 42 my_Layout_shiftOf ∈ fq_TB := fq_in 750 (by decide +kernel) rfl
theorem wd_757 : Cond.instanceMethod my_Sink_tone ∈ fq_TB := fq_in 757 (by decide +kernel) rfl
theorem wd_758 : Cond.selects cn_Sink my_Sink_tone my_Sink_tone ∈ fq_TB := fq_in 758 (by decide +kernel) rfl
theorem wd_759 : Cond.code my_Sink_tone cb_Sink_tone 12 (some .long) ∈ fq_TB := fq_in 759 (by decide +kernel) rfl
theorem wd_760 : Cond.constantLong cn_Sink 56 (-1) ∈ fq_TB := fq_in 760 (by decide +kernel) rfl

/-- what is cut into bytes -/
def sk_v (w : Nat) (s : Int) : Int := if w = 1 then 128 + (if (s + 32768) / 65536 < 127 then (s + 32768) / 65536 else 127) else if w = 2 then (if (s + 128) / 256 < 32767 then (s + 128) / 256 else 32767) else if w = 3 then s else 256 * s
def sk_b (w : Nat) (b : Bool) (L : List Int) (x : Int32) : Int := if x < 0 then -1 else if L.length ≤ x.toNatClampNeg / w then -1 else sk_v w (L.getD (x.toNatClampNeg / w) 0) / 2 ^ ly_sh w b (x.toNatClampNeg % w) % 256
theorem sk_vb {w : Nat} {s : Int} (h : fm_in s) : -2147483648 ≤ sk_v w s ∧ sk_v w s ≤ 2147483647 := by
  unfold fm_in at h
  unfold sk_v
  split
  · split <;> omega
  · split
    · split <;> omega
    · split <;> omega
theorem sk_1 {w : Nat} {x r : Int32} (hw : w ≤ 4) (hx : fm_in x.toInt) (hc : nI w = 1) (hr : r.toInt = (x + 32768).toInt / (65536 : Int32).toInt) : (128 + (if r < 127 then r else 127)).toInt = sk_v w x.toInt := by
  have e : w = 1 := ns_w hw (by decide) hc
  subst e
  unfold fm_in at hx
  have e1 : (32768 : Int32).toInt = 32768 := by decide
  have e2 : (65536 : Int32).toInt = 65536 := by decide
  have e3 : (128 : Int32).toInt = 128 := by decide
  have e4 : (127 : Int32).toInt = 127 := by decide
  rw [Kit.i32_add (by rw [e1]; omega) (by rw [e1]; omega), e1, e2] at hr
  unfold sk_v
  rw [if_pos rfl]
  by_cases c : r < 127
  · rw [if_pos c]
    rw [Int32.lt_iff_toInt_lt, e4, hr] at c
    rw [Kit.i32_add (by rw [e3, hr]; omega) (by rw [e3, hr]; omega), e3, hr, if_pos c]
  · rw [if_neg c]
    rw [Int32.lt_iff_toInt_lt, e4, hr] at c
    rw [if_neg c]
    decide
theorem sk_2 {w : Nat} {x r : Int32} (hw : w ≤ 4) (hx : fm_in x.toInt) (hc : nI w = 2) (hr : r.toInt = (x + 128).toInt / (256 : Int32).toInt) : (if r < 32767 then r else 32767).toInt = sk_v w x.toInt := by
  have e : w = 2 := ns_w hw (by decide) hc
  subst e
  unfold fm_in at hx
  have e1 : (128 : Int32).toInt = 128 := by decide
  have e2 : (256 : Int32).toInt = 256 := by decide
  have e4 : (32767 : Int32).toInt = 32767 := by decide
  rw [Kit.i32_add (by rw [e1]; omega) (by rw [e1]; omega), e1, e2] at hr
  rw [show sk_v 2 x.toInt = (if (x.toInt + 128) / 256 < 32767 then (x.toInt + 128) / 256 else 32767) from rfl]
  by_cases c : r < 32767
  · rw [if_pos c]
    rw [Int32.lt_iff_toInt_lt, e4, hr] at c
    rw [hr, if_pos c]
  · rw [if_neg c]
    rw [Int32.lt_iff_toInt_lt, e4, hr] at c
    rw [if_neg c, e4]
theorem sk_3 {w : Nat} {x : Int32} (hw : w ≤ 4) (hc : nI w = 3) : x.toInt = sk_v w x.toInt := by
  have e : w = 3 := ns_w hw (by decide) hc
  subst e
  unfold sk_v
  rw [if_neg (by decide), if_neg (by decide), if_pos rfl]
theorem sk_4 {w : Nat} {x : Int32} (hw1 : 1 ≤ w) (hx : fm_in x.toInt) (h1 : ¬ nI w = 1) (h2 : ¬ nI w = 2) (h3 : ¬ nI w = 3) : (256 * x).toInt = sk_v w x.toInt := by
  have e := ns_out hw1 h1 h2 h3
  unfold fm_in at hx
  have e2 : (256 : Int32).toInt = 256 := by decide
  unfold sk_v
  rw [if_neg (by omega), if_neg (by omega), if_neg (by omega), Kit.i32_mul (by rw [e2]; omega) (by rw [e2]; omega), e2]
theorem sk_in {L : List Int32} {j : Nat} (h : ∀ v ∈ L, fm_in v.toInt) : fm_in (L.getD j 0).toInt := by
  rw [List.getD_eq_getElem?_getD]
  cases hq : L[j]? with
  | none => show fm_in (0 : Int32).toInt; unfold fm_in; decide
  | some v => exact h v (List.mem_of_getElem? hq)
theorem sk_bn {w : Nat} {b : Bool} {L : List Int} {x : Int32} (h : x < 0) : (-1 : Int32).toInt = sk_b w b L x := by
  unfold sk_b; rw [if_pos h]; decide
theorem sk_bh {w k : Nat} {b : Bool} {L : List Int32} {x : Int32} (hk : k < 2 ^ 31) (hx : x = nI k) (h : ¬ k / w < L.length) : (-1 : Int32).toInt = sk_b w b (L.map Int32.toInt) x := by
  unfold sk_b
  rw [hx, if_neg (nI_pos hk), nI_clamp hk, List.length_map, if_pos (by omega)]; decide
theorem fm_map {L : List Int32} {j : Nat} : (L.map Int32.toInt).getD j 0 = (L.getD j 0).toInt := by
  rw [List.getD_eq_getElem?_getD, List.getD_eq_getElem?_getD, List.getElem?_map]
  cases L[j]? <;> rfl
theorem sk_bv {w k : Nat} {b : Bool} {L : List Int32} {x r : Int32} (hw : w ≤ 4) (hm : k % w < w) (hk : k < 2 ^ 31) (hx : x = nI k) (h : k / w < L.length) (hr : r.toInt = sk_v w (L.getD (k / w) 0).toInt) : (r >>> (nI (ly_sh w b (k % w)) &&& 31) &&& 255).toInt = sk_b w b (L.map Int32.toInt) x := by
  have hs := ns_sh (b := b) hw hm
  rw [Kit.i32_mask _ _ (k := 8) (by decide) (by decide), Kit.i32_shr _ _ (ns_sm _ (by omega)), hr]
  unfold sk_b
  rw [hx, if_neg (nI_pos hk), nI_clamp hk, List.length_map, if_neg (by omega), fm_map, show (2 : Int) ^ 8 = 256 by decide]
/-- one and other, from the block's end on -/
def tn_h (t : Int64) (L : List Int32) (en : Nat) : Nat → Int64 × Int64
  | 0 => (0, 0)
  | n + 1 => ((L.getD (en - 1 - n) 0).toInt64 - (tn_h t L en n).2, (tn_h t L en n).1 + t * (tn_h t L en n).2)
def tn_v (t : Int64) (p : Int64 × Int64) : Int64 := p.1 * p.1 + t * p.1 * p.2 + p.2 * p.2
def tn_r (t : Int64) (L : List Int32) : Int64 := if L.length - L.length % 12 = 0 then -1 else tn_v t (tn_h t L (L.length - L.length % 12) 12)
theorem tn_en {n : Nat} (h : ¬ n - n % 12 = 0) : 12 ≤ n - n % 12 := by omega
theorem tn_no {t : Int64} {L : List Int32} (h : L.length - L.length % 12 = 0) : (-1 : Int64) = tn_r t L := by unfold tn_r; rw [if_pos h]
theorem tn_ti {a : Nat} (h : a < 2 ^ 30) (c : Nat) (hc : c < 2 ^ 30) {k : Int32} (hk : k = nI c) : (nI a - k).toInt = (a : Int) - c := by rw [hk]; exact pk_sub_toInt h hc
theorem tn_c1 {en n : Nat} (he : en < 2 ^ 30) (hn : n ≤ 12) (h12 : n ≤ en) (h : nI (en - n) - 1 < nI en - 12) : n = 12 := by
  rw [Int32.lt_iff_toInt_lt, tn_ti (k := 1) (by omega) 1 (by decide) rfl, tn_ti (k := 12) he 12 (by decide) rfl] at h
  omega
theorem tn_c2 {en n : Nat} (he : en < 2 ^ 30) (hn : n ≤ 12) (h12 : n ≤ en) (h : ¬ nI (en - n) - 1 < nI en - 12) : n < 12 := by
  rw [Int32.lt_iff_toInt_lt, tn_ti (k := 1) (by omega) 1 (by decide) rfl, tn_ti (k := 12) he 12 (by decide) rfl] at h
  omega
theorem tn_get {L : List Int32} {en n : Nat} (he : en < 2 ^ 30) (hn : n < 12) (h : 12 ≤ en) : rw_get L (nI (en - n) - 1) = L.getD (en - 1 - n) 0 := by
  rw [show nI (en - n) - 1 = nI (en - n - 1) from pk_sub (b := 1) (by omega), rw_getN (by omega), show en - n - 1 = en - 1 - n by omega]
theorem tn_dec {en n : Nat} (hn : n < 12) (h : 12 ≤ en) : nI (en - n) - 1 + Int32.ofInt (-1) = nI (en - (n + 1)) - 1 := by
  have e1 : nI (en - n) - 1 = nI (en - n - 1) := pk_sub (b := 1) (by omega)
  rw [e1, show Int32.ofInt (-1) = (-1 : Int32) by decide, show nI (en - n - 1) + (-1) = nI (en - n - 1) - 1 from (Int32.sub_eq_add_neg _ _).symm, show en - (n + 1) = en - n - 1 by omega]
theorem tn_step {t on ot v2 v3 : Int64} {L : List Int32} {en n : Nat} (h : n ≤ 12 ∧ (on, ot) = tn_h t L en n) (hn : n < 12) (he : 12 ≤ en) (h2 : v2 = (L.getD (en - 1 - n) 0).toInt64 - ot) (h3 : v3 = on + t * ot) : n + 1 ≤ 12 ∧ (v2, v3) = tn_h t L en (n + 1) := by
  refine ⟨hn, ?_⟩
  have e1 := congrArg Prod.fst h.2
  have e2 := congrArg Prod.snd h.2
  have e1 : on = (tn_h t L en n).1 := e1
  have e2 : ot = (tn_h t L en n).2 := e2
  rw [h2, h3, e1, e2]
  rfl
theorem tn_fin {t on ot : Int64} {L : List Int32} {n : Nat} (h : n ≤ 12 ∧ (on, ot) = tn_h t L (L.length - L.length % 12) n) (hn : n = 12) (he : 12 ≤ L.length - L.length % 12) : on * on + t * on * ot + ot * ot = tn_r t L := by
  subst hn
  unfold tn_r
  rw [if_neg (by omega), ← h.2]
  rfl

theorem dc_Sink_bitsOf_0 : decode cb_Sink_bitsOf 0 = .ok (.aload_n 0, 1) := by decide +kernel
theorem dc_Sink_bitsOf_1 : decode cb_Sink_bitsOf 1 = .ok (.getfield 12, 3) := by decide +kernel
theorem dc_Sink_bitsOf_4 : decode cb_Sink_bitsOf 4 = .ok (.getfield 27, 3) := by decide +kernel
theorem dc_Sink_bitsOf_7 : decode cb_Sink_bitsOf 7 = .ok (.tableswitch 64 1 3 #[25, 44, 62], 25) := by decide +kernel
theorem dc_Sink_bitsOf_32 : decode cb_Sink_bitsOf 32 = .ok (.sipush 128, 3) := by decide +kernel
theorem dc_Sink_bitsOf_35 : decode cb_Sink_bitsOf 35 = .ok (.bipush 127, 2) := by decide +kernel
theorem dc_Sink_bitsOf_37 : decode cb_Sink_bitsOf 37 = .ok (.iload_n 1, 1) := by decide +kernel
theorem dc_Sink_bitsOf_38 : decode cb_Sink_bitsOf 38 = .ok (.ldc 45, 2) := by decide +kernel
theorem dc_Sink_bitsOf_40 : decode cb_Sink_bitsOf 40 = .ok (.iadd, 1) := by decide +kernel
theorem dc_Sink_bitsOf_41 : decode cb_Sink_bitsOf 41 = .ok (.ldc 46, 2) := by decide +kernel
theorem dc_Sink_bitsOf_43 : decode cb_Sink_bitsOf 43 = .ok (.invokestatic 47, 3) := by decide +kernel
theorem dc_Sink_bitsOf_46 : decode cb_Sink_bitsOf 46 = .ok (.invokestatic 53, 3) := by decide +kernel
theorem dc_Sink_bitsOf_49 : decode cb_Sink_bitsOf 49 = .ok (.iadd, 1) := by decide +kernel
theorem dc_Sink_bitsOf_50 : decode cb_Sink_bitsOf 50 = .ok (.ireturn, 1) := by decide +kernel
theorem dc_Sink_bitsOf_51 : decode cb_Sink_bitsOf 51 = .ok (.sipush 32767, 3) := by decide +kernel
theorem dc_Sink_bitsOf_54 : decode cb_Sink_bitsOf 54 = .ok (.iload_n 1, 1) := by decide +kernel
theorem dc_Sink_bitsOf_55 : decode cb_Sink_bitsOf 55 = .ok (.sipush 128, 3) := by decide +kernel
theorem dc_Sink_bitsOf_58 : decode cb_Sink_bitsOf 58 = .ok (.iadd, 1) := by decide +kernel
theorem dc_Sink_bitsOf_59 : decode cb_Sink_bitsOf 59 = .ok (.sipush 256, 3) := by decide +kernel
theorem dc_Sink_bitsOf_62 : decode cb_Sink_bitsOf 62 = .ok (.invokestatic 47, 3) := by decide +kernel
theorem dc_Sink_bitsOf_65 : decode cb_Sink_bitsOf 65 = .ok (.invokestatic 53, 3) := by decide +kernel
theorem dc_Sink_bitsOf_68 : decode cb_Sink_bitsOf 68 = .ok (.ireturn, 1) := by decide +kernel
theorem dc_Sink_bitsOf_69 : decode cb_Sink_bitsOf 69 = .ok (.iload_n 1, 1) := by decide +kernel
theorem dc_Sink_bitsOf_70 : decode cb_Sink_bitsOf 70 = .ok (.ireturn, 1) := by decide +kernel
theorem dc_Sink_bitsOf_71 : decode cb_Sink_bitsOf 71 = .ok (.sipush 256, 3) := by decide +kernel
theorem dc_Sink_bitsOf_74 : decode cb_Sink_bitsOf 74 = .ok (.iload_n 1, 1) := by decide +kernel
theorem dc_Sink_bitsOf_75 : decode cb_Sink_bitsOf 75 = .ok (.imul, 1) := by decide +kernel
theorem dc_Sink_bitsOf_76 : decode cb_Sink_bitsOf 76 = .ok (.ireturn, 1) := by decide +kernel
theorem yk_Sink_bitsOf : fq_Y my_Sink_bitsOf cb_Sink_bitsOf 2 (some .int) 1 := ⟨wd_743, wd_34, by decide +kernel⟩
theorem dc_Sink_byteAt_0 : decode cb_Sink_byteAt 0 = .ok (.aload_n 0, 1) := by decide +kernel
theorem dc_Sink_byteAt_1 : decode cb_Sink_byteAt 1 = .ok (.getfield 12, 3) := by decide +kernel
theorem dc_Sink_byteAt_4 : decode cb_Sink_byteAt 4 = .ok (.getfield 27, 3) := by decide +kernel
theorem dc_Sink_byteAt_7 : decode cb_Sink_byteAt 7 = .ok (.istore_n 2, 1) := by decide +kernel
theorem dc_Sink_byteAt_8 : decode cb_Sink_byteAt 8 = .ok (.iload_n 1, 1) := by decide +kernel
theorem dc_Sink_byteAt_9 : decode cb_Sink_byteAt 9 = .ok (.ifCond .lt 16, 3) := by decide +kernel
theorem dc_Sink_byteAt_12 : decode cb_Sink_byteAt 12 = .ok (.iload_n 1, 1) := by decide +kernel
theorem dc_Sink_byteAt_13 : decode cb_Sink_byteAt 13 = .ok (.iload_n 2, 1) := by decide +kernel
theorem dc_Sink_byteAt_14 : decode cb_Sink_byteAt 14 = .ok (.idiv, 1) := by decide +kernel
theorem dc_Sink_byteAt_15 : decode cb_Sink_byteAt 15 = .ok (.aload_n 0, 1) := by decide +kernel
theorem dc_Sink_byteAt_16 : decode cb_Sink_byteAt 16 = .ok (.getfield 23, 3) := by decide +kernel
theorem dc_Sink_byteAt_19 : decode cb_Sink_byteAt 19 = .ok (.invokevirtual 31, 3) := by decide +kernel
theorem dc_Sink_byteAt_22 : decode cb_Sink_byteAt 22 = .ok (.if_icmp .lt 5, 3) := by decide +kernel
theorem dc_Sink_byteAt_25 : decode cb_Sink_byteAt 25 = .ok (.iconst (-1), 1) := by decide +kernel
theorem dc_Sink_byteAt_26 : decode cb_Sink_byteAt 26 = .ok (.ireturn, 1) := by decide +kernel
theorem dc_Sink_byteAt_27 : decode cb_Sink_byteAt 27 = .ok (.aload_n 0, 1) := by decide +kernel
theorem dc_Sink_byteAt_28 : decode cb_Sink_byteAt 28 = .ok (.aload_n 0, 1) := by decide +kernel
theorem dc_Sink_byteAt_29 : decode cb_Sink_byteAt 29 = .ok (.getfield 23, 3) := by decide +kernel
theorem dc_Sink_byteAt_32 : decode cb_Sink_byteAt 32 = .ok (.iload_n 1, 1) := by decide +kernel
theorem dc_Sink_byteAt_33 : decode cb_Sink_byteAt 33 = .ok (.iload_n 2, 1) := by decide +kernel
theorem dc_Sink_byteAt_34 : decode cb_Sink_byteAt 34 = .ok (.idiv, 1) := by decide +kernel
theorem dc_Sink_byteAt_35 : decode cb_Sink_byteAt 35 = .ok (.invokevirtual 35, 3) := by decide +kernel
theorem dc_Sink_byteAt_38 : decode cb_Sink_byteAt 38 = .ok (.invokevirtual 39, 3) := by decide +kernel
theorem dc_Sink_byteAt_41 : decode cb_Sink_byteAt 41 = .ok (.aload_n 0, 1) := by decide +kernel
theorem dc_Sink_byteAt_42 : decode cb_Sink_byteAt 42 = .ok (.getfield 12, 3) := by decide +kernel
theorem dc_Sink_byteAt_45 : decode cb_Sink_byteAt 45 = .ok (.iload_n 1, 1) := by decide +kernel
theorem dc_Sink_byteAt_46 : decode cb_Sink_byteAt 46 = .ok (.iload_n 2, 1) := by decide +kernel
theorem dc_Sink_byteAt_47 : decode cb_Sink_byteAt 47 = .ok (.irem, 1) := by decide +kernel
theorem dc_Sink_byteAt_48 : decode cb_Sink_byteAt 48 = .ok (.invokevirtual 42, 3) := by decide +kernel
theorem dc_Sink_byteAt_51 : decode cb_Sink_byteAt 51 = .ok (.ishr, 1) := by decide +kernel
theorem dc_Sink_byteAt_52 : decode cb_Sink_byteAt 52 = .ok (.sipush 255, 3) := by decide +kernel
theorem dc_Sink_byteAt_55 : decode cb_Sink_byteAt 55 = .ok (.iand, 1) := by decide +kernel
theorem dc_Sink_byteAt_56 : decode cb_Sink_byteAt 56 = .ok (.ireturn, 1) := by decide +kernel
theorem yk_Sink_byteAt : fq_Y my_Sink_byteAt cb_Sink_byteAt 3 (some .int) 1 := ⟨wd_734, wd_34, by decide +kernel⟩
theorem dc_Sink_tone_0 : decode cb_Sink_tone 0 = .ok (.aload_n 0, 1) := by decide +kernel
theorem dc_Sink_tone_1 : decode cb_Sink_tone 1 = .ok (.getfield 23, 3) := by decide +kernel
theorem dc_Sink_tone_4 : decode cb_Sink_tone 4 = .ok (.invokevirtual 31, 3) := by decide +kernel
theorem dc_Sink_tone_7 : decode cb_Sink_tone 7 = .ok (.aload_n 0, 1) := by decide +kernel
theorem dc_Sink_tone_8 : decode cb_Sink_tone 8 = .ok (.getfield 23, 3) := by decide +kernel
theorem dc_Sink_tone_11 : decode cb_Sink_tone 11 = .ok (.invokevirtual 31, 3) := by decide +kernel
theorem dc_Sink_tone_14 : decode cb_Sink_tone 14 = .ok (.bipush 12, 2) := by decide +kernel
theorem dc_Sink_tone_16 : decode cb_Sink_tone 16 = .ok (.irem, 1) := by decide +kernel
theorem dc_Sink_tone_17 : decode cb_Sink_tone 17 = .ok (.isub, 1) := by decide +kernel
theorem dc_Sink_tone_18 : decode cb_Sink_tone 18 = .ok (.istore_n 2, 1) := by decide +kernel
theorem dc_Sink_tone_19 : decode cb_Sink_tone 19 = .ok (.iload_n 2, 1) := by decide +kernel
theorem dc_Sink_tone_20 : decode cb_Sink_tone 20 = .ok (.ifCond .ne 7, 3) := by decide +kernel
theorem dc_Sink_tone_23 : decode cb_Sink_tone 23 = .ok (.ldc2_w 56, 3) := by decide +kernel
theorem dc_Sink_tone_26 : decode cb_Sink_tone 26 = .ok (.lreturn, 1) := by decide +kernel
theorem dc_Sink_tone_27 : decode cb_Sink_tone 27 = .ok (.iconst 2, 1) := by decide +kernel
theorem dc_Sink_tone_28 : decode cb_Sink_tone 28 = .ok (.iload_n 1, 1) := by decide +kernel
theorem dc_Sink_tone_29 : decode cb_Sink_tone 29 = .ok (.isub, 1) := by decide +kernel
theorem dc_Sink_tone_30 : decode cb_Sink_tone 30 = .ok (.i2l, 1) := by decide +kernel
theorem dc_Sink_tone_31 : decode cb_Sink_tone 31 = .ok (.lstore_n 3, 1) := by decide +kernel
theorem dc_Sink_tone_32 : decode cb_Sink_tone 32 = .ok (.lconst 0, 1) := by decide +kernel
theorem dc_Sink_tone_33 : decode cb_Sink_tone 33 = .ok (.lstore 5, 2) := by decide +kernel
theorem dc_Sink_tone_35 : decode cb_Sink_tone 35 = .ok (.lconst 0, 1) := by decide +kernel
theorem dc_Sink_tone_36 : decode cb_Sink_tone 36 = .ok (.lstore 7, 2) := by decide +kernel
theorem dc_Sink_tone_38 : decode cb_Sink_tone 38 = .ok (.iload_n 2, 1) := by decide +kernel
theorem dc_Sink_tone_39 : decode cb_Sink_tone 39 = .ok (.iconst 1, 1) := by decide +kernel
theorem dc_Sink_tone_40 : decode cb_Sink_tone 40 = .ok (.isub, 1) := by decide +kernel
theorem dc_Sink_tone_41 : decode cb_Sink_tone 41 = .ok (.istore 9, 2) := by decide +kernel
theorem dc_Sink_tone_43 : decode cb_Sink_tone 43 = .ok (.iload 9, 2) := by decide +kernel
theorem dc_Sink_tone_45 : decode cb_Sink_tone 45 = .ok (.iload_n 2, 1) := by decide +kernel
theorem dc_Sink_tone_46 : decode cb_Sink_tone 46 = .ok (.bipush 12, 2) := by decide +kernel
theorem dc_Sink_tone_48 : decode cb_Sink_tone 48 = .ok (.isub, 1) := by decide +kernel
theorem dc_Sink_tone_49 : decode cb_Sink_tone 49 = .ok (.if_icmp .lt 37, 3) := by decide +kernel
theorem dc_Sink_tone_52 : decode cb_Sink_tone 52 = .ok (.lload 5, 2) := by decide +kernel
theorem dc_Sink_tone_54 : decode cb_Sink_tone 54 = .ok (.lload_n 3, 1) := by decide +kernel
theorem dc_Sink_tone_55 : decode cb_Sink_tone 55 = .ok (.lload 7, 2) := by decide +kernel
theorem dc_Sink_tone_57 : decode cb_Sink_tone 57 = .ok (.lmul, 1) := by decide +kernel
theorem dc_Sink_tone_58 : decode cb_Sink_tone 58 = .ok (.ladd, 1) := by decide +kernel
theorem dc_Sink_tone_59 : decode cb_Sink_tone 59 = .ok (.lstore 10, 2) := by decide +kernel
theorem dc_Sink_tone_61 : decode cb_Sink_tone 61 = .ok (.aload_n 0, 1) := by decide +kernel
theorem dc_Sink_tone_62 : decode cb_Sink_tone 62 = .ok (.getfield 23, 3) := by decide +kernel
theorem dc_Sink_tone_65 : decode cb_Sink_tone 65 = .ok (.iload 9, 2) := by decide +kernel
theorem dc_Sink_tone_67 : decode cb_Sink_tone 67 = .ok (.invokevirtual 35, 3) := by decide +kernel
theorem dc_Sink_tone_70 : decode cb_Sink_tone 70 = .ok (.i2l, 1) := by decide +kernel
theorem dc_Sink_tone_71 : decode cb_Sink_tone 71 = .ok (.lload 7, 2) := by decide +kernel
theorem dc_Sink_tone_73 : decode cb_Sink_tone 73 = .ok (.lsub, 1) := by decide +kernel
theorem dc_Sink_tone_74 : decode cb_Sink_tone 74 = .ok (.lstore 5, 2) := by decide +kernel
theorem dc_Sink_tone_76 : decode cb_Sink_tone 76 = .ok (.lload 10, 2) := by decide +kernel
theorem dc_Sink_tone_78 : decode cb_Sink_tone 78 = .ok (.lstore 7, 2) := by decide +kernel
theorem dc_Sink_tone_80 : decode cb_Sink_tone 80 = .ok (.iinc 9 (-1), 3) := by decide +kernel
theorem dc_Sink_tone_83 : decode cb_Sink_tone 83 = .ok (.goto (-40), 3) := by decide +kernel
theorem dc_Sink_tone_86 : decode cb_Sink_tone 86 = .ok (.lload 5, 2) := by decide +kernel
theorem dc_Sink_tone_88 : decode cb_Sink_tone 88 = .ok (.lload 5, 2) := by decide +kernel
theorem dc_Sink_tone_90 : decode cb_Sink_tone 90 = .ok (.lmul, 1) := by decide +kernel
theorem dc_Sink_tone_91 : decode cb_Sink_tone 91 = .ok (.lload_n 3, 1) := by decide +kernel
theorem dc_Sink_tone_92 : decode cb_Sink_tone 92 = .ok (.lload 5, 2) := by decide +kernel
theorem dc_Sink_tone_94 : decode cb_Sink_tone 94 = .ok (.lmul, 1) := by decide +kernel
theorem dc_Sink_tone_95 : decode cb_Sink_tone 95 = .ok (.lload 7, 2) := by decide +kernel
theorem dc_Sink_tone_97 : decode cb_Sink_tone 97 = .ok (.lmul, 1) := by decide +kernel
theorem dc_Sink_tone_98 : decode cb_Sink_tone 98 = .ok (.ladd, 1) := by decide +kernel
theorem dc_Sink_tone_99 : decode cb_Sink_tone 99 = .ok (.lload 7, 2) := by decide +kernel
theorem dc_Sink_tone_101 : decode cb_Sink_tone 101 = .ok (.lload 7, 2) := by decide +kernel
theorem dc_Sink_tone_103 : decode cb_Sink_tone 103 = .ok (.lmul, 1) := by decide +kernel
theorem dc_Sink_tone_104 : decode cb_Sink_tone 104 = .ok (.ladd, 1) := by decide +kernel
theorem dc_Sink_tone_105 : decode cb_Sink_tone 105 = .ok (.lreturn, 1) := by decide +kernel
theorem yk_Sink_tone : fq_Y my_Sink_tone cb_Sink_tone 12 (some .long) 1 := ⟨wd_759, wd_34, by decide +kernel⟩
set_option maxHeartbeats 4000000 in
set_option maxRecDepth 100000 in
theorem ct_Sink_bitsOf (l : Launch) (D : va_G) (cI cO : ClassId) (tE : Nat) (h hy hw w : Nat) (b : Bool) (x : Int32) (hw1 : 1 ≤ w) (hw4 : w ≤ 4) (hx : fm_in x.toInt) (sz : Nat) : Met l my_Sink_bitsOf (fq_w my_Sink_bitsOf cb_Sink_bitsOf 2 (some .int)) ({ frames := 1, cells := 0, slots := 0, locals := 22 }) (va_Pc ([.ref h, .int x]) (fq_Pre D cI cO tE sz ([(h, .inr (9, [.ref hy, .ref hw])), (hy, .inr (7, [.int (nI w), .int (fq_b b)]))]))) (va_Qi (S := va_W) (fun r w' => w' = [(h, .inr (9, [.ref hy, .ref hw])), (hy, .inr (7, [.int (nI w), .int (fq_b b)]))] ∧ r.toInt = sk_v w x.toInt) (fq_Bw D (va_A ([(h, .inr (9, [.ref hy, .ref hw])), (hy, .inr (7, [.int (nI w), .int (fq_b b)]))]) sz)) (va_A ([(h, .inr (9, [.ref hy, .ref hw])), (hy, .inr (7, [.int (nI w), .int (fq_b b)]))]) sz)) (0) (0) (va_A ([(h, .inr (9, [.ref hy, .ref hw])), (hy, .inr (7, [.int (nI w), .int (fq_b b)]))]) sz) := by
  refine fq_open (by decide +kernel) (Nat.le_of_ble_eq_true rfl) ?_
  intro pg ev s mt below meth cd ls K hret hlk hin hK hZ hP hD hA hS hl
  generalize va_A ([(h, .inr (9, [.ref hy, .ref hw])), (hy, .inr (7, [.int (nI w), .int (fq_b b)]))]) sz = A at hZ hD hA hS ⊢
  have K : fq_Ctx pg mt cd cb_Sink_bitsOf 2 s _ cn_Sink := K
  have hl : lv_has ls 2 [(0, .ref h), (1, .int x)] := hl
  refine lv_aload_n K.1 K.2.1 dc_Sink_bitsOf_0 rfl (lv_at hl 0 rfl) ?_
  refine fq_get K hK cl_Sink hP 0 0 rfl (by decide) wd_166 rfl dc_Sink_bitsOf_1 ?_
  refine fq_getN K hK cl_Layout hP 1 0 rfl (by decide) wn_128 rfl dc_Sink_bitsOf_4 ?_
  by_cases c7_1 : nI w = 1
  · skip
    refine lv_tableIn (off := 25) (tgt := 32) K.1 K.2.1 dc_Sink_bitsOf_7 (by rw [c7_1]; decide) (by rw [c7_1]; decide) (by rw [c7_1]; decide) rfl ?_
    refine lv_sipush (v := 128) K.1 K.2.1 dc_Sink_bitsOf_32 (by decide) ?_
    refine lv_bipush (v := 127) K.1 K.2.1 dc_Sink_bitsOf_35 (by decide) ?_
    refine lv_iload_n K.1 K.2.1 dc_Sink_bitsOf_37 rfl (lv_at hl 1 rfl) ?_
    refine lv_ldc (v := 32768) K.1 K.2.1 K.2.2.2.1 (K.2.2.2.2 _ wd_744) dc_Sink_bitsOf_38 ?_
    refine lv_iadd K.1 K.2.1 dc_Sink_bitsOf_40 ?_
    refine lv_ldc (v := 65536) K.1 K.2.1 K.2.2.2.1 (K.2.2.2.2 _ wd_745) dc_Sink_bitsOf_41 ?_
    have hc := fq_cut.of (wc := []) hP hD hS hA [] (by decide) rfl
    refine fq_ci (wr := [(h, .inr (9, [.ref hy, .ref hw])), (hy, .inr (7, [.int (nI w), .int (fq_b b)]))]) (fq_rS K hK hZ hS hc (ct_Ma_floorDiv2 l D cI cO tE (x + 32768) 65536 (by decide) _) yk_Ma_floorDiv2 wd_747 wd_746 ⟨⟨rfl, rfl⟩, ⟨Nat.le_of_ble_eq_true rfl, Nat.le_of_ble_eq_true rfl⟩, ⟨Nat.le_of_ble_eq_true rfl, Nat.le_of_ble_eq_true rfl⟩⟩ hl.1 rfl (Nat.le_of_ble_eq_true rfl) dc_Sink_bitsOf_43) hP hD hS hc [] [0, 1] rfl rfl (by decide) (by decide) (fun r1 w H locs hw1 hP hD hS => ?_)
    obtain ⟨rfl, hd1⟩ := hw1
    have hP : va_P D fq_cl ([(h, .inr (9, [.ref hy, .ref hw])), (hy, .inr (7, [.int (nI w), .int (fq_b b)]))]) _ := hP
    have hD : va_D A ([(h, .inr (9, [.ref hy, .ref hw])), (hy, .inr (7, [.int (nI w), .int (fq_b b)]))]) := hD
    refine va_mmin K.1 K.2.1 (K.2.2.1.trans hl.1.symm) K.2.2.2.1 (K.2.2.2.2 _ wd_749) (K.2.2.2.2 _ wd_176) (K.2.2.2.2 _ wd_35) (K.2.2.2.2 _ wd_177) (Nat.le_of_ble_eq_true rfl) (Nat.le_of_ble_eq_true rfl) (Nat.le_of_ble_eq_true rfl) (Nat.le_of_ble_eq_true rfl) dc_Sink_bitsOf_46 ?_
    refine lv_iadd K.1 K.2.1 dc_Sink_bitsOf_49 ?_
    exact fq_reti K hret hlk hS hP hD ⟨rfl, sk_1 hw4 hx c7_1 hd1⟩ dc_Sink_bitsOf_50 (Nat.le_of_ble_eq_true rfl) (Nat.le_of_ble_eq_true rfl)
  by_cases c7_2 : nI w = 2
  · skip
    refine lv_tableIn (off := 44) (tgt := 51) K.1 K.2.1 dc_Sink_bitsOf_7 (by rw [c7_2]; decide) (by rw [c7_2]; decide) (by rw [c7_2]; decide) rfl ?_
    refine lv_sipush (v := 32767) K.1 K.2.1 dc_Sink_bitsOf_51 (by decide) ?_
    refine lv_iload_n K.1 K.2.1 dc_Sink_bitsOf_54 rfl (lv_at hl 1 rfl) ?_
    refine lv_sipush (v := 128) K.1 K.2.1 dc_Sink_bitsOf_55 (by decide) ?_
    refine lv_iadd K.1 K.2.1 dc_Sink_bitsOf_58 ?_
    refine lv_sipush (v := 256) K.1 K.2.1 dc_Sink_bitsOf_59 (by decide) ?_
    have hc := fq_cut.of (wc := []) hP hD hS hA [] (by decide) rfl
    refine fq_ci (wr := [(h, .inr (9, [.ref hy, .ref hw])), (hy, .inr (7, [.int (nI w), .int (fq_b b)]))]) (fq_rS K hK hZ hS hc (ct_Ma_floorDiv2 l D cI cO tE (x + 128) 256 (by decide) _) yk_Ma_floorDiv2 wd_747 wd_746 ⟨⟨rfl, rfl⟩, ⟨Nat.le_of_ble_eq_true rfl, Nat.le_of_ble_eq_true rfl⟩, ⟨Nat.le_of_ble_eq_true rfl, Nat.le_of_ble_eq_true rfl⟩⟩ hl.1 rfl (Nat.le_of_ble_eq_true rfl) dc_Sink_bitsOf_62) hP hD hS hc [] [0, 1] rfl rfl (by decide) (by decide) (fun r2 w H locs hw2 hP hD hS => ?_)
    obtain ⟨rfl, hd2⟩ := hw2
    have hP : va_P D fq_cl ([(h, .inr (9, [.ref hy, .ref hw])), (hy, .inr (7, [.int (nI w), .int (fq_b b)]))]) _ := hP
    have hD : va_D A ([(h, .inr (9, [.ref hy, .ref hw])), (hy, .inr (7, [.int (nI w), .int (fq_b b)]))]) := hD
    refine va_mmin K.1 K.2.1 (K.2.2.1.trans hl.1.symm) K.2.2.2.1 (K.2.2.2.2 _ wd_749) (K.2.2.2.2 _ wd_176) (K.2.2.2.2 _ wd_35) (K.2.2.2.2 _ wd_177) (Nat.le_of_ble_eq_true rfl) (Nat.le_of_ble_eq_true rfl) (Nat.le_of_ble_eq_true rfl) (Nat.le_of_ble_eq_true rfl) dc_Sink_bitsOf_65 ?_
    exact fq_reti K hret hlk hS hP hD ⟨rfl, sk_2 hw4 hx c7_2 hd2⟩ dc_Sink_bitsOf_68 (Nat.le_of_ble_eq_true rfl) (Nat.le_of_ble_eq_true rfl)
  by_cases c7_3 : nI w = 3
  · skip
    refine lv_tableIn (off := 62) (tgt := 69) K.1 K.2.1 dc_Sink_bitsOf_7 (by rw [c7_3]; decide) (by rw [c7_3]; decide) (by rw [c7_3]; decide) rfl ?_
    refine lv_iload_n K.1 K.2.1 dc_Sink_bitsOf_69 rfl (lv_at hl 1 rfl) ?_
    exact fq_reti K hret hlk hS hP hD ⟨rfl, sk_3 hw4 c7_3⟩ dc_Sink_bitsOf_70 (Nat.le_of_ble_eq_true rfl) (Nat.le_of_ble_eq_true rfl)
  refine lv_tableOut (tgt := 71) K.1 K.2.1 dc_Sink_bitsOf_7 ((by have e1 := nI_toInt (n := w) (by omega); right; rw [e1]; exact ns_out hw1 c7_1 c7_2 c7_3)) rfl ?_
  refine lv_sipush (v := 256) K.1 K.2.1 dc_Sink_bitsOf_71 (by decide) ?_
  refine lv_iload_n K.1 K.2.1 dc_Sink_bitsOf_74 rfl (lv_at hl 1 rfl) ?_
  refine lv_imul K.1 K.2.1 dc_Sink_bitsOf_75 ?_
  exact fq_reti K hret hlk hS hP hD ⟨rfl, sk_4 hw1 hx c7_1 c7_2 c7_3⟩ dc_Sink_bitsOf_76 (Nat.le_of_ble_eq_true rfl) (Nat.le_of_ble_eq_true rfl)
set_option maxHeartbeats 4000000 in
set_option maxRecDepth 100000 in
theorem ct_Sink_byteAt (l : Launch) (D : va_G) (cI cO : ClassId) (tE : Nat) (h hy hw aw w : Nat) (b : Bool) (f : Nat → Int32) (i : Nat) (L : List Int32) (x : Int32) (hrow : rw_ok 2286 f i L) (hw1 : 1 ≤ w) (hw4 : w ≤ 4) (hall : ∀ v ∈ L, fm_in v.toInt) (sz : Nat) : Met l my_Sink_byteAt (fq_w my_Sink_byteAt cb_Sink_byteAt 3 (some .int)) ({ frames := 2, cells := 0, slots := 0, locals := 43 }) (va_Pc ([.ref h, .int x]) (fq_Pre D cI cO tE sz ([(h, .inr (9, [.ref hy, .ref hw])), (hy, .inr (7, [.int (nI w), .int (fq_b b)])), (hw, .inr (0, [.ref aw, .int (nI i), .int (nI L.length)])), (aw, .inl (cI, 2286, .inl f))]))) (va_Qi (S := va_W) (fun r w' => w' = [(h, .inr (9, [.ref hy, .ref hw])), (hy, .inr (7, [.int (nI w), .int (fq_b b)])), (hw, .inr (0, [.ref aw, .int (nI i), .int (nI L.length)])), (aw, .inl (cI, 2286, .inl f))] ∧ r.toInt = sk_b w b (L.map Int32.toInt) x) (fq_Bw D (va_A ([(h, .inr (9, [.ref hy, .ref hw])), (hy, .inr (7, [.int (nI w), .int (fq_b b)])), (hw, .inr (0, [.ref aw, .int (nI i), .int (nI L.length)])), (aw, .inl (cI, 2286, .inl f))]) sz)) (va_A ([(h, .inr (9, [.ref hy, .ref hw])), (hy, .inr (7, [.int (nI w), .int (fq_b b)])), (hw, .inr (0, [.ref aw, .int (nI i), .int (nI L.length)])), (aw, .inl (cI, 2286, .inl f))]) sz)) (0) (0) (va_A ([(h, .inr (9, [.ref hy, .ref hw])), (hy, .inr (7, [.int (nI w), .int (fq_b b)])), (hw, .inr (0, [.ref aw, .int (nI i), .int (nI L.length)])), (aw, .inl (cI, 2286, .inl f))]) sz) := by
  refine fq_open (by decide +kernel) (Nat.le_of_ble_eq_true rfl) ?_
  intro pg ev s mt below meth cd ls K hret hlk hin hK hZ hP hD hA hS hl
  generalize va_A ([(h, .inr (9, [.ref hy, .ref hw])), (hy, .inr (7, [.int (nI w), .int (fq_b b)])), (hw, .inr (0, [.ref aw, .int (nI i), .int (nI L.length)])), (aw, .inl (cI, 2286, .inl f))]) sz = A at hZ hD hA hS ⊢
  have K : fq_Ctx pg mt cd cb_Sink_byteAt 3 s _ cn_Sink := K
  have hl : lv_has ls 3 [(0, .ref h), (1, .int x)] := hl
  have hLn := hrow.2.2.2.1
  refine lv_aload_n K.1 K.2.1 dc_Sink_byteAt_0 rfl (lv_at hl 0 rfl) ?_
  refine fq_get K hK cl_Sink hP 0 0 rfl (by decide) wd_166 rfl dc_Sink_byteAt_1 ?_
  refine fq_getN K hK cl_Layout hP 1 0 rfl (by decide) wn_128 rfl dc_Sink_byteAt_4 ?_
  refine lv_istore_n K.1 K.2.1 dc_Sink_byteAt_7 rfl hl (by decide) rfl (fun ls hl => ?_)
  have hl : lv_has ls 3 [(2, .int (nI w)), (0, .ref h), (1, .int x)] := hl
  refine lv_iload_n K.1 K.2.1 dc_Sink_byteAt_8 rfl (lv_at hl 2 rfl) ?_
  refine lv_if_lt (tgt := 25) K.1 K.2.1 dc_Sink_byteAt_9 rfl (fun b9 => ?_) (fun b9 => ?_)
  · skip
    refine lv_iconst (v := (-1)) K.1 K.2.1 dc_Sink_byteAt_25 (by decide) ?_
    exact fq_reti K hret hlk hS hP hD ⟨rfl, by first | exact sk_bn b9 | exact sk_bh hk hx b22⟩ dc_Sink_byteAt_26 (Nat.le_of_ble_eq_true rfl) (Nat.le_of_ble_eq_true rfl)
  · skip
    obtain ⟨k, hk, hx⟩ := nI_of b9
    have hkw : k / w ≤ k := Nat.div_le_self k w
    have hkm := Nat.mod_lt k (show 0 < w by omega)
    refine lv_iload_n K.1 K.2.1 dc_Sink_byteAt_12 rfl (lv_at hl 2 rfl) ?_
    refine lv_iload_n K.1 K.2.1 dc_Sink_byteAt_13 rfl (lv_at hl 0 rfl) ?_
    refine lv_idiv K.1 K.2.1 dc_Sink_byteAt_14 (nI_ne0 (by omega) (by omega)) ?_
    refine fq_asi (y := nI (k / w)) (by rw [hx]; exact pk_div hk (by omega) (by omega)) ?_
    refine lv_aload_n K.1 K.2.1 dc_Sink_byteAt_15 rfl (lv_at hl 1 rfl) ?_
    refine fq_get K hK cl_Sink hP 0 1 rfl (by decide) wd_168 rfl dc_Sink_byteAt_16 ?_
    have hc := fq_cut.of (wc := [(hw, .inr (0, [.ref aw, .int (nI i), .int (nI L.length)])), (aw, .inl (cI, 2286, .inl f))]) hP hD hS hA [2, 3] (by decide) rfl
    refine fq_ci (wr := [(h, .inr (9, [.ref hy, .ref hw])), (hy, .inr (7, [.int (nI w), .int (fq_b b)]))]) (fq_rV K hK hZ hS hc (ct_Row_size l D cI cO tE hw aw 2286 f i L hrow _) yk_Row_size wd_574 wd_575 wd_735 0 rfl rfl rfl ⟨⟨rfl, rfl⟩, ⟨Nat.le_of_ble_eq_true rfl, Nat.le_of_ble_eq_true rfl⟩, ⟨Nat.le_of_ble_eq_true rfl, Nat.le_of_ble_eq_true rfl⟩⟩ hl.1 rfl (Nat.le_of_ble_eq_true rfl) dc_Sink_byteAt_19) hP hD hS hc [2, 3] [0, 1] rfl rfl (by decide) (by decide) (fun r1 w H locs hw1 hP hD hS => ?_)
    obtain ⟨rfl, rfl⟩ := hw1
    have hP : va_P D fq_cl ([(h, .inr (9, [.ref hy, .ref hw])), (hy, .inr (7, [.int (nI w), .int (fq_b b)])), (hw, .inr (0, [.ref aw, .int (nI i), .int (nI L.length)])), (aw, .inl (cI, 2286, .inl f))]) _ := hP
    have hD : va_D A ([(h, .inr (9, [.ref hy, .ref hw])), (hy, .inr (7, [.int (nI w), .int (fq_b b)])), (hw, .inr (0, [.ref aw, .int (nI i), .int (nI L.length)])), (aw, .inl (cI, 2286, .inl f))]) := hD
    refine lv_icmp_lt (tgt := 27) K.1 K.2.1 dc_Sink_byteAt_22 rfl (fun b22 => ?_) (fun b22 => ?_)
    · skip
      rw [nI_ltI (by omega) (by omega)] at b22
      refine lv_aload_n K.1 K.2.1 dc_Sink_byteAt_27 rfl (lv_at hl 1 rfl) ?_
      refine lv_aload_n K.1 K.2.1 dc_Sink_byteAt_28 rfl (lv_at hl 1 rfl) ?_
      refine fq_get K hK cl_Sink hP 0 1 rfl (by decide) wd_168 rfl dc_Sink_byteAt_29 ?_
      refine lv_iload_n K.1 K.2.1 dc_Sink_byteAt_32 rfl (lv_at hl 2 rfl) ?_
      refine lv_iload_n K.1 K.2.1 dc_Sink_byteAt_33 rfl (lv_at hl 0 rfl) ?_
      refine lv_idiv K.1 K.2.1 dc_Sink_byteAt_34 (nI_ne0 (by omega) (by omega)) ?_
      refine fq_asi (y := nI (k / w)) (by rw [hx]; exact pk_div hk (by omega) (by omega)) ?_
      have hc := fq_cut.of (wc := [(hw, .inr (0, [.ref aw, .int (nI i), .int (nI L.length)])), (aw, .inl (cI, 2286, .inl f))]) hP hD hS hA [2, 3] (by decide) rfl
      refine fq_ci (wr := [(h, .inr (9, [.ref hy, .ref hw])), (hy, .inr (7, [.int (nI w), .int (fq_b b)]))]) (fq_rV K hK hZ hS hc (ct_Row_get l D cI cO tE hw aw 2286 f i L (nI (k / w)) hrow _) yk_Row_get wd_737 wd_738 wd_736 0 rfl rfl rfl ⟨⟨rfl, rfl⟩, ⟨Nat.le_of_ble_eq_true rfl, Nat.le_of_ble_eq_true rfl⟩, ⟨Nat.le_of_ble_eq_true rfl, Nat.le_of_ble_eq_true rfl⟩⟩ hl.1 rfl (Nat.le_of_ble_eq_true rfl) dc_Sink_byteAt_35) hP hD hS hc [2, 3] [0, 1] rfl rfl (by decide) (by decide) (fun r2 w H locs hw2 hP hD hS => ?_)
      obtain ⟨rfl, rfl⟩ := hw2
      have hP : va_P D fq_cl ([(h, .inr (9, [.ref hy, .ref hw])), (hy, .inr (7, [.int (nI w), .int (fq_b b)])), (hw, .inr (0, [.ref aw, .int (nI i), .int (nI L.length)])), (aw, .inl (cI, 2286, .inl f))]) _ := hP
      have hD : va_D A ([(h, .inr (9, [.ref hy, .ref hw])), (hy, .inr (7, [.int (nI w), .int (fq_b b)])), (hw, .inr (0, [.ref aw, .int (nI i), .int (nI L.length)])), (aw, .inl (cI, 2286, .inl f))]) := hD
      refine fq_asi (y := L.getD (k / w) 0) (rw_getN (by omega)) ?_
      have hc := fq_cut.of (wc := [(h, .inr (9, [.ref hy, .ref hw])), (hy, .inr (7, [.int (nI w), .int (fq_b b)]))]) hP hD hS hA [0, 1] (by decide) rfl
      refine fq_ci (wr := [(hw, .inr (0, [.ref aw, .int (nI i), .int (nI L.length)])), (aw, .inl (cI, 2286, .inl f))]) (fq_rV K hK hZ hS hc (ct_Sink_bitsOf l D cI cO tE h hy hw w b (L.getD (k / w) 0) hw1 hw4 (sk_in hall) _) yk_Sink_bitsOf wd_742 wd_12 wd_740 0 rfl rfl rfl ⟨⟨rfl, rfl⟩, ⟨Nat.le_of_ble_eq_true rfl, Nat.le_of_ble_eq_true rfl⟩, ⟨Nat.le_of_ble_eq_true rfl, Nat.le_of_ble_eq_true rfl⟩⟩ hl.1 rfl (Nat.le_of_ble_eq_true rfl) dc_Sink_byteAt_38) hP hD hS hc [0, 1] [2, 3] rfl rfl (by decide) (by decide) (fun r3 w H locs hw3 hP hD hS => ?_)
      obtain ⟨rfl, hbit1⟩ := hw3
      have hP : va_P D fq_cl ([(hw, .inr (0, [.ref aw, .int (nI i), .int (nI L.length)])), (aw, .inl (cI, 2286, .inl f)), (h, .inr (9, [.ref hy, .ref hw])), (hy, .inr (7, [.int (nI w), .int (fq_b b)]))]) _ := hP
      have hD : va_D A ([(hw, .inr (0, [.ref aw, .int (nI i), .int (nI L.length)])), (aw, .inl (cI, 2286, .inl f)), (h, .inr (9, [.ref hy, .ref hw])), (hy, .inr (7, [.int (nI w), .int (fq_b b)]))]) := hD
      refine lv_aload_n K.1 K.2.1 dc_Sink_byteAt_41 rfl (lv_at hl 1 rfl) ?_
      refine fq_get K hK cl_Sink hP 2 0 rfl (by decide) wd_166 rfl dc_Sink_byteAt_42 ?_
      refine lv_iload_n K.1 K.2.1 dc_Sink_byteAt_45 rfl (lv_at hl 2 rfl) ?_
      refine lv_iload_n K.1 K.2.1 dc_Sink_byteAt_46 rfl (lv_at hl 0 rfl) ?_
      refine lv_irem K.1 K.2.1 dc_Sink_byteAt_47 (nI_ne0 (by omega) (by omega)) ?_
      refine fq_asi (y := nI (k % w)) (by rw [hx]; exact pk_rem hk (by omega) (by omega)) ?_
      have hc := fq_cut.of (wc := [(hy, .inr (7, [.int (nI w), .int (fq_b b)]))]) hP hD hS hA [3] (by decide) rfl
      refine fq_ci (wr := [(hw, .inr (0, [.ref aw, .int (nI i), .int (nI L.length)])), (aw, .inl (cI, 2286, .inl f)), (h, .inr (9, [.ref hy, .ref hw]))]) (fq_rV K hK hZ hS hc (ct_Layout_shiftOf l D cI cO tE hy w b (k % w) hkm (by omega) _) yk_Layout_shiftOf wd_598 wd_599 wd_750 0 rfl rfl rfl ⟨⟨rfl, rfl⟩, ⟨Nat.le_of_ble_eq_true rfl, Nat.le_of_ble_eq_true rfl⟩, ⟨Nat.le_of_ble_eq_true rfl, Nat.le_of_ble_eq_true rfl⟩⟩ hl.1 rfl (Nat.le_of_ble_eq_true rfl) dc_Sink_byteAt_48) hP hD hS hc [3] [0, 1, 2] rfl rfl (by decide) (by decide) (fun r4 w H locs hw4 hP hD hS => ?_)
      obtain ⟨rfl, rfl⟩ := hw4
      have hP : va_P D fq_cl ([(hw, .inr (0, [.ref aw, .int (nI i), .int (nI L.length)])), (aw, .inl (cI, 2286, .inl f)), (h, .inr (9, [.ref hy, .ref hw])), (hy, .inr (7, [.int (nI w), .int (fq_b b)]))]) _ := hP
      have hD : va_D A ([(hw, .inr (0, [.ref aw, .int (nI i), .int (nI L.length)])), (aw, .inl (cI, 2286, .inl f)), (h, .inr (9, [.ref hy, .ref hw])), (hy, .inr (7, [.int (nI w), .int (fq_b b)]))]) := hD
      refine lv_ishr K.1 K.2.1 dc_Sink_byteAt_51 ?_
      refine lv_sipush (v := 255) K.1 K.2.1 dc_Sink_byteAt_52 (by decide) ?_
      refine lv_iand K.1 K.2.1 dc_Sink_byteAt_55 ?_
      have hP := hP.sub (ws' := [(h, .inr (9, [.ref hy, .ref hw])), (hy, .inr (7, [.int (nI w), .int (fq_b b)])), (hw, .inr (0, [.ref aw, .int (nI i), .int (nI L.length)])), (aw, .inl (cI, 2286, .inl f))]) [2, 3, 0, 1] rfl
      have hD := hD.sub (ws' := [(h, .inr (9, [.ref hy, .ref hw])), (hy, .inr (7, [.int (nI w), .int (fq_b b)])), (hw, .inr (0, [.ref aw, .int (nI i), .int (nI L.length)])), (aw, .inl (cI, 2286, .inl f))]) [2, 3, 0, 1] (by decide) rfl
      exact fq_reti K hret hlk hS hP hD ⟨rfl, sk_bv hw4 hkm hk hx b22 hbit1⟩ dc_Sink_byteAt_56 (Nat.le_of_ble_eq_true rfl) (Nat.le_of_ble_eq_true rfl)
    · skip
      rw [nI_ltI (by omega) (by omega)] at b22
      refine lv_iconst (v := (-1)) K.1 K.2.1 dc_Sink_byteAt_25 (by decide) ?_
      exact fq_reti K hret hlk hS hP hD ⟨rfl, by first | exact sk_bn b9 | exact sk_bh hk hx b22⟩ dc_Sink_byteAt_26 (Nat.le_of_ble_eq_true rfl) (Nat.le_of_ble_eq_true rfl)
set_option maxHeartbeats 4000000 in
set_option maxRecDepth 100000 in
theorem ct_Sink_tone (l : Launch) (D : va_G) (cI cO : ClassId) (tE : Nat) (h hy hw aw w : Nat) (b : Bool) (f : Nat → Int32) (i : Nat) (L : List Int32) (x : Int32) (hrow : rw_ok 2286 f i L)  (sz : Nat) : Met l my_Sink_tone (fq_w my_Sink_tone cb_Sink_tone 12 (some .long)) ({ frames := 1, cells := 0, slots := 0, locals := 21 }) (va_Pc ([.ref h, .int x]) (fq_Pre D cI cO tE sz ([(h, .inr (9, [.ref hy, .ref hw])), (hy, .inr (7, [.int (nI w), .int (fq_b b)])), (hw, .inr (0, [.ref aw, .int (nI i), .int (nI L.length)])), (aw, .inl (cI, 2286, .inl f))]))) (va_Ql (S := va_W) (fun r w' => w' = [(h, .inr (9, [.ref hy, .ref hw])), (hy, .inr (7, [.int (nI w), .int (fq_b b)])), (hw, .inr (0, [.ref aw, .int (nI i), .int (nI L.length)])), (aw, .inl (cI, 2286, .inl f))] ∧ r = tn_r (2 - x).toInt64 L) (fq_Bw D (va_A ([(h, .inr (9, [.ref hy, .ref hw])), (hy, .inr (7, [.int (nI w), .int (fq_b b)])), (hw, .inr (0, [.ref aw, .int (nI i), .int (nI L.length)])), (aw, .inl (cI, 2286, .inl f))]) sz)) (va_A ([(h, .inr (9, [.ref hy, .ref hw])), (hy, .inr (7, [.int (nI w), .int (fq_b b)])), (hw, .inr (0, [.ref aw, .int (nI i), .int (nI L.length)])), (aw, .inl (cI, 2286, .inl f))]) sz)) (0) (0) (va_A ([(h, .inr (9, [.ref hy, .ref hw])), (hy, .inr (7, [.int (nI w), .int (fq_b b)])), (hw, .inr (0, [.ref aw, .int (nI i), .int (nI L.length)])), (aw, .inl (cI, 2286, .inl f))]) sz) := by
  refine fq_open (by decide +kernel) (Nat.le_of_ble_eq_true rfl) ?_
  intro pg ev s mt below meth cd ls K hret hlk hin hK hZ hP hD hA hS hl
  generalize va_A ([(h, .inr (9, [.ref hy, .ref hw])), (hy, .inr (7, [.int (nI w), .int (fq_b b)])), (hw, .inr (0, [.ref aw, .int (nI i), .int (nI L.length)])), (aw, .inl (cI, 2286, .inl f))]) sz = A at hZ hD hA hS ⊢
  have K : fq_Ctx pg mt cd cb_Sink_tone 12 s _ cn_Sink := K
  have hl : lv_has ls 12 [(0, .ref h), (1, .int x)] := hl
  have hLn := hrow.2.2.2.1
  have hmd : L.length % 12 ≤ L.length := Nat.mod_le _ _
  have hm12 := Nat.mod_lt L.length (show 0 < 12 by decide)
  refine lv_aload_n K.1 K.2.1 dc_Sink_tone_0 rfl (lv_at hl 0 rfl) ?_
  refine fq_get K hK cl_Sink hP 0 1 rfl (by decide) wd_168 rfl dc_Sink_tone_1 ?_
  have hc := fq_cut.of (wc := [(hw, .inr (0, [.ref aw, .int (nI i), .int (nI L.length)])), (aw, .inl (cI, 2286, .inl f))]) hP hD hS hA [2, 3] (by decide) rfl
  refine fq_ci (wr := [(h, .inr (9, [.ref hy, .ref hw])), (hy, .inr (7, [.int (nI w), .int (fq_b b)]))]) (fq_rV K hK hZ hS hc (ct_Row_size l D cI cO tE hw aw 2286 f i L hrow _) yk_Row_size wd_574 wd_575 wd_735 0 rfl rfl rfl ⟨⟨rfl, rfl⟩, ⟨Nat.le_of_ble_eq_true rfl, Nat.le_of_ble_eq_true rfl⟩, ⟨Nat.le_of_ble_eq_true rfl, Nat.le_of_ble_eq_true rfl⟩⟩ hl.1 rfl (Nat.le_of_ble_eq_true rfl) dc_Sink_tone_4) hP hD hS hc [2, 3] [0, 1] rfl rfl (by decide) (by decide) (fun r1 w H locs hw1 hP hD hS => ?_)
  obtain ⟨rfl, rfl⟩ := hw1
  have hP : va_P D fq_cl ([(h, .inr (9, [.ref hy, .ref hw])), (hy, .inr (7, [.int (nI w), .int (fq_b b)])), (hw, .inr (0, [.ref aw, .int (nI i), .int (nI L.length)])), (aw, .inl (cI, 2286, .inl f))]) _ := hP
  have hD : va_D A ([(h, .inr (9, [.ref hy, .ref hw])), (hy, .inr (7, [.int (nI w), .int (fq_b b)])), (hw, .inr (0, [.ref aw, .int (nI i), .int (nI L.length)])), (aw, .inl (cI, 2286, .inl f))]) := hD
  refine lv_aload_n K.1 K.2.1 dc_Sink_tone_7 rfl (lv_at hl 0 rfl) ?_
  refine fq_get K hK cl_Sink hP 0 1 rfl (by decide) wd_168 rfl dc_Sink_tone_8 ?_
  have hc := fq_cut.of (wc := [(hw, .inr (0, [.ref aw, .int (nI i), .int (nI L.length)])), (aw, .inl (cI, 2286, .inl f))]) hP hD hS hA [2, 3] (by decide) rfl
  refine fq_ci (wr := [(h, .inr (9, [.ref hy, .ref hw])), (hy, .inr (7, [.int (nI w), .int (fq_b b)]))]) (fq_rV K hK hZ hS hc (ct_Row_size l D cI cO tE hw aw 2286 f i L hrow _) yk_Row_size wd_574 wd_575 wd_735 0 rfl rfl rfl ⟨⟨rfl, rfl⟩, ⟨Nat.le_of_ble_eq_true rfl, Nat.le_of_ble_eq_true rfl⟩, ⟨Nat.le_of_ble_eq_true rfl, Nat.le_of_ble_eq_true rfl⟩⟩ hl.1 rfl (Nat.le_of_ble_eq_true rfl) dc_Sink_tone_11) hP hD hS hc [2, 3] [0, 1] rfl rfl (by decide) (by decide) (fun r2 w H locs hw2 hP hD hS => ?_)
  obtain ⟨rfl, rfl⟩ := hw2
  have hP : va_P D fq_cl ([(h, .inr (9, [.ref hy, .ref hw])), (hy, .inr (7, [.int (nI w), .int (fq_b b)])), (hw, .inr (0, [.ref aw, .int (nI i), .int (nI L.length)])), (aw, .inl (cI, 2286, .inl f))]) _ := hP
  have hD : va_D A ([(h, .inr (9, [.ref hy, .ref hw])), (hy, .inr (7, [.int (nI w), .int (fq_b b)])), (hw, .inr (0, [.ref aw, .int (nI i), .int (nI L.length)])), (aw, .inl (cI, 2286, .inl f))]) := hD
  refine lv_bipush (v := 12) K.1 K.2.1 dc_Sink_tone_14 (by decide) ?_
  refine lv_irem K.1 K.2.1 dc_Sink_tone_16 (by decide) ?_
  refine fq_asi (y := nI (L.length % 12)) (pk_rem (d := 12) (by omega) (by decide) (by decide)) ?_
  refine lv_isub K.1 K.2.1 dc_Sink_tone_17 ?_
  refine fq_asi (y := nI (L.length - L.length % 12)) (pk_sub hmd) ?_
  refine lv_istore_n K.1 K.2.1 dc_Sink_tone_18 rfl hl (by decide) rfl (fun ls hl => ?_)
  have hl : lv_has ls 12 [(2, .int (nI (L.length - L.length % 12))), (0, .ref h), (1, .int x)] := hl
  refine lv_iload_n K.1 K.2.1 dc_Sink_tone_19 rfl (lv_at hl 0 rfl) ?_
  refine lv_if_ne (tgt := 27) K.1 K.2.1 dc_Sink_tone_20 rfl (fun b20 => ?_) (fun b20 => ?_)
  · skip
    have hen : 12 ≤ (L.length - L.length % 12) := tn_en (fun z => b20 (by rw [z, nI_0]))
    refine lv_iconst (v := 2) K.1 K.2.1 dc_Sink_tone_27 (by decide) ?_
    refine lv_iload_n K.1 K.2.1 dc_Sink_tone_28 rfl (lv_at hl 2 rfl) ?_
    refine lv_isub K.1 K.2.1 dc_Sink_tone_29 ?_
    refine lv_i2l K.1 K.2.1 dc_Sink_tone_30 rfl ?_
    refine lv_topl (fun v1 e_v1 => ?_)
    refine lv_lstore_n K.1 K.2.1 dc_Sink_tone_31 rfl hl (by decide) rfl (fun ls hl => ?_)
    have hl : lv_has ls 12 [(3, .long v1), (2, .int (nI (L.length - L.length % 12))), (0, .ref h), (1, .int x)] := hl
    refine lv_lconst (v := 0) K.1 K.2.1 dc_Sink_tone_32 (by decide) ?_
    refine lv_lstore K.1 K.2.1 dc_Sink_tone_33 hl (by decide) rfl (fun ls hl => ?_)
    have hl : lv_has ls 12 [(5, .long 0), (3, .long v1), (2, .int (nI (L.length - L.length % 12))), (0, .ref h), (1, .int x)] := hl
    refine lv_lconst (v := 0) K.1 K.2.1 dc_Sink_tone_35 (by decide) ?_
    refine lv_lstore K.1 K.2.1 dc_Sink_tone_36 hl (by decide) rfl (fun ls hl => ?_)
    have hl : lv_has ls 12 [(7, .long 0), (5, .long 0), (3, .long v1), (2, .int (nI (L.length - L.length % 12))), (0, .ref h), (1, .int x)] := hl
    refine lv_iload_n K.1 K.2.1 dc_Sink_tone_38 rfl (lv_at hl 3 rfl) ?_
    refine lv_iconst (v := 1) K.1 K.2.1 dc_Sink_tone_39 (by decide) ?_
    refine lv_isub K.1 K.2.1 dc_Sink_tone_40 ?_
    refine fq_asi (y := nI ((L.length - L.length % 12) - 0) - 1) (by rw [Nat.sub_zero]) ?_
    refine lv_istore K.1 K.2.1 dc_Sink_tone_41 hl (by decide) rfl (fun ls hl => ?_)
    have hl : lv_has ls 12 [(9, .int (nI ((L.length - L.length % 12) - 0) - 1)), (7, .long 0), (5, .long 0), (3, .long v1), (2, .int (nI (L.length - L.length % 12))), (0, .ref h), (1, .int x)] := hl
    refine fq_lp (σ := Nat × Int64 × Int64) (fun x => 12 - x.1) (fun x H locs ls => (x.1 ≤ 12 ∧ (x.2.1, x.2.2) = tn_h v1 L (L.length - L.length % 12) x.1) ∧ lv_has ls 12 [(0, .ref h), (2, .int (nI (L.length - L.length % 12))), (3, .long v1), (5, .long x.2.1), (7, .long x.2.2), (9, .int (nI ((L.length - L.length % 12) - x.1) - 1))] ∧ va_P D fq_cl ([(h, .inr (9, [.ref hy, .ref hw])), (hy, .inr (7, [.int (nI w), .int (fq_b b)])), (hw, .inr (0, [.ref aw, .int (nI i), .int (nI L.length)])), (aw, .inl (cI, 2286, .inl f))]) H ∧ va_D A ([(h, .inr (9, [.ref hy, .ref hw])), (hy, .inr (7, [.int (nI w), .int (fq_b b)])), (hw, .inr (0, [.ref aw, .int (nI i), .int (nI L.length)])), (aw, .inl (cI, 2286, .inl f))]) ∧ va_S A s.heap H locs) ?_ (0, 0, 0) _ _ _ ⟨⟨Nat.zero_le _, rfl⟩, lv_sub hl [5, 4, 3, 2, 1, 0] rfl, hP, hD, hS⟩
    rintro ⟨n, on, ot⟩ H locs ls ⟨hI43, hl, hP, hD, hS⟩ ih43
    have hI43 : n ≤ 12 ∧ (on, ot) = tn_h v1 L (L.length - L.length % 12) n := hI43
    have hl : lv_has ls 12 [(0, .ref h), (2, .int (nI (L.length - L.length % 12))), (3, .long v1), (5, .long on), (7, .long ot), (9, .int (nI ((L.length - L.length % 12) - n) - 1))] := hl
    have hP : va_P D fq_cl ([(h, .inr (9, [.ref hy, .ref hw])), (hy, .inr (7, [.int (nI w), .int (fq_b b)])), (hw, .inr (0, [.ref aw, .int (nI i), .int (nI L.length)])), (aw, .inl (cI, 2286, .inl f))]) _ := hP
    have hD : va_D A ([(h, .inr (9, [.ref hy, .ref hw])), (hy, .inr (7, [.int (nI w), .int (fq_b b)])), (hw, .inr (0, [.ref aw, .int (nI i), .int (nI L.length)])), (aw, .inl (cI, 2286, .inl f))]) := hD
    refine lv_iload K.1 K.2.1 dc_Sink_tone_43 (lv_at hl 5 rfl) ?_
    refine lv_iload_n K.1 K.2.1 dc_Sink_tone_45 rfl (lv_at hl 1 rfl) ?_
    refine lv_bipush (v := 12) K.1 K.2.1 dc_Sink_tone_46 (by decide) ?_
    refine lv_isub K.1 K.2.1 dc_Sink_tone_48 ?_
    refine lv_icmp_lt (tgt := 86) K.1 K.2.1 dc_Sink_tone_49 rfl (fun b49 => ?_) (fun b49 => ?_)
    · skip
      have hn : n = 12 := tn_c1 (by omega) hI43.1 (by omega) b49
      refine lv_lload K.1 K.2.1 dc_Sink_tone_86 (lv_at hl 3 rfl) ?_
      refine lv_lload K.1 K.2.1 dc_Sink_tone_88 (lv_at hl 3 rfl) ?_
      refine lv_lmul K.1 K.2.1 dc_Sink_tone_90 ?_
      refine lv_lload_n K.1 K.2.1 dc_Sink_tone_91 rfl (lv_at hl 2 rfl) ?_
      refine lv_lload K.1 K.2.1 dc_Sink_tone_92 (lv_at hl 3 rfl) ?_
      refine lv_lmul K.1 K.2.1 dc_Sink_tone_94 ?_
      refine lv_lload K.1 K.2.1 dc_Sink_tone_95 (lv_at hl 4 rfl) ?_
      refine lv_lmul K.1 K.2.1 dc_Sink_tone_97 ?_
      refine lv_ladd K.1 K.2.1 dc_Sink_tone_98 ?_
      refine lv_lload K.1 K.2.1 dc_Sink_tone_99 (lv_at hl 4 rfl) ?_
      refine lv_lload K.1 K.2.1 dc_Sink_tone_101 (lv_at hl 4 rfl) ?_
      refine lv_lmul K.1 K.2.1 dc_Sink_tone_103 ?_
      refine lv_ladd K.1 K.2.1 dc_Sink_tone_104 ?_
      exact fq_retl K hret hlk hS hP hD ⟨rfl, by subst e_v1; exact tn_fin hI43 hn hen⟩ dc_Sink_tone_105 (Nat.le_of_ble_eq_true rfl) (Nat.le_of_ble_eq_true rfl)
    · skip
      have hn : n < 12 := tn_c2 (by omega) hI43.1 (by omega) b49
      refine lv_lload K.1 K.2.1 dc_Sink_tone_52 (lv_at hl 3 rfl) ?_
      refine lv_lload_n K.1 K.2.1 dc_Sink_tone_54 rfl (lv_at hl 2 rfl) ?_
      refine lv_lload K.1 K.2.1 dc_Sink_tone_55 (lv_at hl 4 rfl) ?_
      refine lv_lmul K.1 K.2.1 dc_Sink_tone_57 ?_
      refine lv_ladd K.1 K.2.1 dc_Sink_tone_58 ?_
      refine lv_topl (fun v2 e_v2 => ?_)
      refine lv_lstore K.1 K.2.1 dc_Sink_tone_59 hl (by decide) rfl (fun ls hl => ?_)
      have hl : lv_has ls 12 [(10, .long v2), (0, .ref h), (2, .int (nI (L.length - L.length % 12))), (3, .long v1), (5, .long on), (7, .long ot), (9, .int (nI ((L.length - L.length % 12) - n) - 1))] := hl
      refine lv_aload_n K.1 K.2.1 dc_Sink_tone_61 rfl (lv_at hl 1 rfl) ?_
      refine fq_get K hK cl_Sink hP 0 1 rfl (by decide) wd_168 rfl dc_Sink_tone_62 ?_
      refine lv_iload K.1 K.2.1 dc_Sink_tone_65 (lv_at hl 6 rfl) ?_
      have hc := fq_cut.of (wc := [(hw, .inr (0, [.ref aw, .int (nI i), .int (nI L.length)])), (aw, .inl (cI, 2286, .inl f))]) hP hD hS hA [2, 3] (by decide) rfl
      refine fq_ci (wr := [(h, .inr (9, [.ref hy, .ref hw])), (hy, .inr (7, [.int (nI w), .int (fq_b b)]))]) (fq_rV K hK hZ hS hc (ct_Row_get l D cI cO tE hw aw 2286 f i L (nI ((L.length - L.length % 12) - n) - 1) hrow _) yk_Row_get wd_737 wd_738 wd_736 0 rfl rfl rfl ⟨⟨rfl, rfl⟩, ⟨Nat.le_of_ble_eq_true rfl, Nat.le_of_ble_eq_true rfl⟩, ⟨Nat.le_of_ble_eq_true rfl, Nat.le_of_ble_eq_true rfl⟩⟩ hl.1 rfl (Nat.le_of_ble_eq_true rfl) dc_Sink_tone_67) hP hD hS hc [2, 3] [0, 1] rfl rfl (by decide) (by decide) (fun r3 w H locs hw3 hP hD hS => ?_)
      obtain ⟨rfl, rfl⟩ := hw3
      have hP : va_P D fq_cl ([(h, .inr (9, [.ref hy, .ref hw])), (hy, .inr (7, [.int (nI w), .int (fq_b b)])), (hw, .inr (0, [.ref aw, .int (nI i), .int (nI L.length)])), (aw, .inl (cI, 2286, .inl f))]) _ := hP
      have hD : va_D A ([(h, .inr (9, [.ref hy, .ref hw])), (hy, .inr (7, [.int (nI w), .int (fq_b b)])), (hw, .inr (0, [.ref aw, .int (nI i), .int (nI L.length)])), (aw, .inl (cI, 2286, .inl f))]) := hD
      refine fq_asi (y := L.getD ((L.length - L.length % 12) - 1 - n) 0) (tn_get (by omega) hn hen) ?_
      refine lv_i2l K.1 K.2.1 dc_Sink_tone_70 rfl ?_
      refine lv_lload K.1 K.2.1 dc_Sink_tone_71 (lv_at hl 5 rfl) ?_
      refine lv_lsub K.1 K.2.1 dc_Sink_tone_73 ?_
      refine lv_topl (fun v3 e_v3 => ?_)
      refine lv_lstore K.1 K.2.1 dc_Sink_tone_74 hl (by decide) rfl (fun ls hl => ?_)
      have hl : lv_has ls 12 [(5, .long v3), (10, .long v2), (0, .ref h), (2, .int (nI (L.length - L.length % 12))), (3, .long v1), (7, .long ot), (9, .int (nI ((L.length - L.length % 12) - n) - 1))] := hl
      refine lv_lload K.1 K.2.1 dc_Sink_tone_76 (lv_at hl 1 rfl) ?_
      refine lv_lstore K.1 K.2.1 dc_Sink_tone_78 hl (by decide) rfl (fun ls hl => ?_)
      have hl : lv_has ls 12 [(7, .long v2), (5, .long v3), (10, .long v2), (0, .ref h), (2, .int (nI (L.length - L.length % 12))), (3, .long v1), (9, .int (nI ((L.length - L.length % 12) - n) - 1))] := hl
      refine lv_iinc (v := nI ((L.length - L.length % 12) - (n + 1)) - 1) K.1 K.2.1 dc_Sink_tone_80 hl (k := 6) rfl (tn_dec hn hen) (by decide) rfl (fun ls hl => ?_)
      have hl : lv_has ls 12 [(9, .int (nI ((L.length - L.length % 12) - (n + 1)) - 1)), (7, .long v2), (5, .long v3), (10, .long v2), (0, .ref h), (2, .int (nI (L.length - L.length % 12))), (3, .long v1)] := hl
      refine lv_goto (tgt := 43) K.1 K.2.1 dc_Sink_tone_83 rfl ?_
      exact ih43 (n + 1, v3, v2) _ _ _ (by show 12 - (n + 1) < 12 - n; omega) ⟨tn_step hI43 hn hen e_v3 e_v2, lv_sub hl [4, 5, 6, 2, 1, 0] rfl, hP, hD, hS⟩
  · skip
    have hen : (L.length - L.length % 12) = 0 := (nI_eq (by omega) (by decide)).mp (b20.trans nI_0.symm)
    refine lv_ldc2 (v := (-1)) K.1 K.2.1 K.2.2.2.1 (K.2.2.2.2 _ wd_760) dc_Sink_tone_23 ?_
    exact fq_retl K hret hlk hS hP hD ⟨rfl, tn_no hen⟩ dc_Sink_tone_26 (Nat.le_of_ble_eq_true rfl) (Nat.le_of_ble_eq_true rfl)
end
