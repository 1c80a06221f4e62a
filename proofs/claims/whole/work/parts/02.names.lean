def R_OP : String := "OrderPassing"
def F_OP : u_T := fun k => match k with
  | 0 => ("OrderPassing", "dates", "LOrderPassing$Dates;", true)
  | 1 => ("OrderPassing", "told", "LOrderPassing$Telling;", true)
  | 2 => ("OrderPassing", "passing", "LOrderPassing$Passing;", true)
  | 3 => ("OrderPassing", "whole", "LOrderPassing$Great;", true)
  | _ => ("OrderPassing", "stretch", "LOrderPassing$Great;", true)
def t_OP : Nat → FieldType := fun k => match k with
  | 0 => .object "OrderPassing$Dates"
  | 1 => .object "OrderPassing$Telling"
  | 2 => .object "OrderPassing$Passing"
  | 3 => .object "OrderPassing$Great"
  | _ => .object "OrderPassing$Great"
theorem n_OP : ∀ a, a < 5 → ∀ b, b < 5 → a ≠ b → (F_OP a).2.1 ≠ (F_OP b).2.1 := by decide +kernel
theorem t_OP_ok : ∀ k, k < 5 → parseFieldDescriptor (F_OP k).2.2.1 = some (t_OP k) := by decide +kernel
theorem uw_OP : ∀ w ∈ u_ws R_OP F_OP 5, w ∈ gw := by
  show ∀ w ∈ ([(Cond.laysFinal "OrderPassing" "OrderPassing" "dates" "LOrderPassing$Dates;"), (Cond.laysFinal "OrderPassing" "OrderPassing" "told" "LOrderPassing$Telling;"), (Cond.laysFinal "OrderPassing" "OrderPassing" "passing" "LOrderPassing$Passing;"), (Cond.laysFinal "OrderPassing" "OrderPassing" "whole" "LOrderPassing$Great;"), (Cond.laysFinal "OrderPassing" "OrderPassing" "stretch" "LOrderPassing$Great;")] : List Cond), w ∈ gw
  exact List.forall_mem_cons.mpr ⟨tb_154, List.forall_mem_cons.mpr ⟨tb_156, List.forall_mem_cons.mpr ⟨tb_158, List.forall_mem_cons.mpr ⟨tb_160, List.forall_mem_cons.mpr ⟨tb_162, fun _ h => absurd h List.not_mem_nil⟩⟩⟩⟩⟩
def R_DA : String := "OrderPassing$Dates"
def F_DA : u_T := fun k => match k with
  | 0 => ("OrderPassing$Dates", "weights", "[[I", true)
  | 1 => ("OrderPassing$Dates", "above", "[I", true)
  | 2 => ("OrderPassing$Dates", "below", "[I", true)
  | _ => ("OrderPassing$Dates", "number", "I", false)
def t_DA : Nat → FieldType := fun k => match k with
  | 0 => .array (.array .int)
  | 1 => .array .int
  | 2 => .array .int
  | _ => .int
theorem n_DA : ∀ a, a < 4 → ∀ b, b < 4 → a ≠ b → (F_DA a).2.1 ≠ (F_DA b).2.1 := by decide +kernel
theorem t_DA_ok : ∀ k, k < 4 → parseFieldDescriptor (F_DA k).2.2.1 = some (t_DA k) := by decide +kernel
theorem uw_DA : ∀ w ∈ u_ws R_DA F_DA 4, w ∈ gw := by
  show ∀ w ∈ ([(Cond.laysFinal "OrderPassing$Dates" "OrderPassing$Dates" "weights" "[[I"), (Cond.laysFinal "OrderPassing$Dates" "OrderPassing$Dates" "above" "[I"), (Cond.laysFinal "OrderPassing$Dates" "OrderPassing$Dates" "below" "[I"), (Cond.lays "OrderPassing$Dates" "OrderPassing$Dates" "number" "I")] : List Cond), w ∈ gw
  exact List.forall_mem_cons.mpr ⟨tb_35, List.forall_mem_cons.mpr ⟨tb_37, List.forall_mem_cons.mpr ⟨tb_39, List.forall_mem_cons.mpr ⟨tb_41, fun _ h => absurd h List.not_mem_nil⟩⟩⟩⟩
def R_GR : String := "OrderPassing$Great"
def F_GR : u_T := fun k => match k with
  | 0 => ("OrderPassing$Great", "limbs", "[J", true)
  | _ => ("OrderPassing$Great", "size", "I", false)
def t_GR : Nat → FieldType := fun k => match k with
  | 0 => .array .long
  | _ => .int
theorem n_GR : ∀ a, a < 2 → ∀ b, b < 2 → a ≠ b → (F_GR a).2.1 ≠ (F_GR b).2.1 := by decide +kernel
theorem t_GR_ok : ∀ k, k < 2 → parseFieldDescriptor (F_GR k).2.2.1 = some (t_GR k) := by decide +kernel
theorem uw_GR : ∀ w ∈ u_ws R_GR F_GR 2, w ∈ gw := by
  show ∀ w ∈ ([(Cond.laysFinal "OrderPassing$Great" "OrderPassing$Great" "limbs" "[J"), (Cond.lays "OrderPassing$Great" "OrderPassing$Great" "size" "I")] : List Cond), w ∈ gw
  exact List.forall_mem_cons.mpr ⟨tb_92, List.forall_mem_cons.mpr ⟨tb_94, fun _ h => absurd h List.not_mem_nil⟩⟩
def R_PA : String := "OrderPassing$Passing"
def F_PA : u_T := fun k => match k with
  | 0 => ("OrderPassing$Passing", "sums", "[LOrderPassing$Great;", true)
  | 1 => ("OrderPassing$Passing", "inside", "[LOrderPassing$Great;", true)
  | 2 => ("OrderPassing$Passing", "throughPhase", "[LOrderPassing$Great;", true)
  | 3 => ("OrderPassing$Passing", "part", "LOrderPassing$Great;", true)
  | 4 => ("OrderPassing$Passing", "allPairs", "LOrderPassing$Great;", true)
  | 5 => ("OrderPassing$Passing", "factor", "LOrderPassing$Great;", true)
  | 6 => ("OrderPassing$Passing", "fixedYear", "[I", true)
  | 7 => ("OrderPassing$Passing", "fixedBound", "[I", true)
  | 8 => ("OrderPassing$Passing", "order", "[I", true)
  | 9 => ("OrderPassing$Passing", "parent", "[I", true)
  | 10 => ("OrderPassing$Passing", "rowToParent", "[I", true)
  | 11 => ("OrderPassing$Passing", "seen", "[Z", true)
  | 12 => ("OrderPassing$Passing", "isMember", "[Z", true)
  | 13 => ("OrderPassing$Passing", "queued", "I", false)
  | _ => ("OrderPassing$Passing", "home", "I", false)
def t_PA : Nat → FieldType := fun k => match k with
  | 0 => .array (.object "OrderPassing$Great")
  | 1 => .array (.object "OrderPassing$Great")
  | 2 => .array (.object "OrderPassing$Great")
  | 3 => .object "OrderPassing$Great"
  | 4 => .object "OrderPassing$Great"
  | 5 => .object "OrderPassing$Great"
  | 6 => .array .int
  | 7 => .array .int
  | 8 => .array .int
  | 9 => .array .int
  | 10 => .array .int
  | 11 => .array .boolean
  | 12 => .array .boolean
  | 13 => .int
  | _ => .int
theorem n_PA : ∀ a, a < 15 → ∀ b, b < 15 → a ≠ b → (F_PA a).2.1 ≠ (F_PA b).2.1 := by decide +kernel
theorem t_PA_ok : ∀ k, k < 15 → parseFieldDescriptor (F_PA k).2.2.1 = some (t_PA k) := by decide +kernel
theorem uw_PA : ∀ w ∈ u_ws R_PA F_PA 15, w ∈ gw := by
  show ∀ w ∈ ([(Cond.laysFinal "OrderPassing$Passing" "OrderPassing$Passing" "sums" "[LOrderPassing$Great;"), (Cond.laysFinal "OrderPassing$Passing" "OrderPassing$Passing" "inside" "[LOrderPassing$Great;"), (Cond.laysFinal "OrderPassing$Passing" "OrderPassing$Passing" "throughPhase" "[LOrderPassing$Great;"), (Cond.laysFinal "OrderPassing$Passing" "OrderPassing$Passing" "part" "LOrderPassing$Great;"), (Cond.laysFinal "OrderPassing$Passing" "OrderPassing$Passing" "allPairs" "LOrderPassing$Great;"), (Cond.laysFinal "OrderPassing$Passing" "OrderPassing$Passing" "factor" "LOrderPassing$Great;"), (Cond.laysFinal "OrderPassing$Passing" "OrderPassing$Passing" "fixedYear" "[I"), (Cond.laysFinal "OrderPassing$Passing" "OrderPassing$Passing" "fixedBound" "[I"), (Cond.laysFinal "OrderPassing$Passing" "OrderPassing$Passing" "order" "[I"), (Cond.laysFinal "OrderPassing$Passing" "OrderPassing$Passing" "parent" "[I"), (Cond.laysFinal "OrderPassing$Passing" "OrderPassing$Passing" "rowToParent" "[I"), (Cond.laysFinal "OrderPassing$Passing" "OrderPassing$Passing" "seen" "[Z"), (Cond.laysFinal "OrderPassing$Passing" "OrderPassing$Passing" "isMember" "[Z"), (Cond.lays "OrderPassing$Passing" "OrderPassing$Passing" "queued" "I"), (Cond.lays "OrderPassing$Passing" "OrderPassing$Passing" "home" "I")] : List Cond), w ∈ gw
  exact List.forall_mem_cons.mpr ⟨tb_116, List.forall_mem_cons.mpr ⟨tb_118, List.forall_mem_cons.mpr ⟨tb_120, List.forall_mem_cons.mpr ⟨tb_122, List.forall_mem_cons.mpr ⟨tb_124, List.forall_mem_cons.mpr ⟨tb_126, List.forall_mem_cons.mpr ⟨tb_128, List.forall_mem_cons.mpr ⟨tb_130, List.forall_mem_cons.mpr ⟨tb_132, List.forall_mem_cons.mpr ⟨tb_134, List.forall_mem_cons.mpr ⟨tb_136, List.forall_mem_cons.mpr ⟨tb_138, List.forall_mem_cons.mpr ⟨tb_140, List.forall_mem_cons.mpr ⟨tb_142, List.forall_mem_cons.mpr ⟨tb_144, fun _ h => absurd h List.not_mem_nil⟩⟩⟩⟩⟩⟩⟩⟩⟩⟩⟩⟩⟩⟩⟩
def R_TE : String := "OrderPassing$Telling"
def F_TE : u_T := fun k => match k with
  | 0 => ("OrderPassing$Telling", "from", "[I", true)
  | 1 => ("OrderPassing$Telling", "to", "[I", true)
  | 2 => ("OrderPassing$Telling", "least", "[I", true)
  | 3 => ("OrderPassing$Telling", "most", "[I", true)
  | 4 => ("OrderPassing$Telling", "inForce", "[Z", true)
  | 5 => ("OrderPassing$Telling", "trees", "[I", true)
  | 6 => ("OrderPassing$Telling", "number", "I", false)
  | _ => ("OrderPassing$Telling", "members", "I", false)
def t_TE : Nat → FieldType := fun k => match k with
  | 0 => .array .int
  | 1 => .array .int
  | 2 => .array .int
  | 3 => .array .int
  | 4 => .array .boolean
  | 5 => .array .int
  | 6 => .int
  | _ => .int
theorem n_TE : ∀ a, a < 8 → ∀ b, b < 8 → a ≠ b → (F_TE a).2.1 ≠ (F_TE b).2.1 := by decide +kernel
theorem t_TE_ok : ∀ k, k < 8 → parseFieldDescriptor (F_TE k).2.2.1 = some (t_TE k) := by decide +kernel
theorem uw_TE : ∀ w ∈ u_ws R_TE F_TE 8, w ∈ gw := by
  show ∀ w ∈ ([(Cond.laysFinal "OrderPassing$Telling" "OrderPassing$Telling" "from" "[I"), (Cond.laysFinal "OrderPassing$Telling" "OrderPassing$Telling" "to" "[I"), (Cond.laysFinal "OrderPassing$Telling" "OrderPassing$Telling" "least" "[I"), (Cond.laysFinal "OrderPassing$Telling" "OrderPassing$Telling" "most" "[I"), (Cond.laysFinal "OrderPassing$Telling" "OrderPassing$Telling" "inForce" "[Z"), (Cond.laysFinal "OrderPassing$Telling" "OrderPassing$Telling" "trees" "[I"), (Cond.lays "OrderPassing$Telling" "OrderPassing$Telling" "number" "I"), (Cond.lays "OrderPassing$Telling" "OrderPassing$Telling" "members" "I")] : List Cond), w ∈ gw
  exact List.forall_mem_cons.mpr ⟨tb_59, List.forall_mem_cons.mpr ⟨tb_61, List.forall_mem_cons.mpr ⟨tb_63, List.forall_mem_cons.mpr ⟨tb_65, List.forall_mem_cons.mpr ⟨tb_67, List.forall_mem_cons.mpr ⟨tb_69, List.forall_mem_cons.mpr ⟨tb_71, List.forall_mem_cons.mpr ⟨tb_73, fun _ h => absurd h List.not_mem_nil⟩⟩⟩⟩⟩⟩⟩⟩
def R_MO : String := "OrderPassingModel"
def F_MO : u_T := fun k => match k with
  | 0 => ("OrderPassingModel", "thrown", "I", false)
  | 1 => ("OrderPassingModel", "dates", "I", false)
  | 2 => ("OrderPassingModel", "weights", "[I", true)
  | 3 => ("OrderPassingModel", "aboves", "[I", true)
  | 4 => ("OrderPassingModel", "belows", "[I", true)
  | 5 => ("OrderPassingModel", "told", "I", false)
  | 6 => ("OrderPassingModel", "ones", "[I", true)
  | 7 => ("OrderPassingModel", "others", "[I", true)
  | 8 => ("OrderPassingModel", "leasts", "[I", true)
  | 9 => ("OrderPassingModel", "mosts", "[I", true)
  | 10 => ("OrderPassingModel", "big", "[I", true)
  | 11 => ("OrderPassingModel", "wide", "[I", true)
  | 12 => ("OrderPassingModel", "years", "[I", true)
  | 13 => ("OrderPassingModel", "firsts", "I", false)
  | 14 => ("OrderPassingModel", "lasts", "I", false)
  | 15 => ("OrderPassingModel", "counts", "I", false)
  | 16 => ("OrderPassingModel", "left", "I", false)
  | _ => ("OrderPassingModel", "members", "I", false)
def t_MO : Nat → FieldType := fun k => match k with
  | 0 => .int
  | 1 => .int
  | 2 => .array .int
  | 3 => .array .int
  | 4 => .array .int
  | 5 => .int
  | 6 => .array .int
  | 7 => .array .int
  | 8 => .array .int
  | 9 => .array .int
  | 10 => .array .int
  | 11 => .array .int
  | 12 => .array .int
  | 13 => .int
  | 14 => .int
  | 15 => .int
  | 16 => .int
  | _ => .int
theorem n_MO : ∀ a, a < 18 → ∀ b, b < 18 → a ≠ b → (F_MO a).2.1 ≠ (F_MO b).2.1 := by decide +kernel
theorem t_MO_ok : ∀ k, k < 18 → parseFieldDescriptor (F_MO k).2.2.1 = some (t_MO k) := by decide +kernel
theorem uw_MO : ∀ w ∈ u_ws R_MO F_MO 18, w ∈ gw := by
  show ∀ w ∈ ([(Cond.lays "OrderPassingModel" "OrderPassingModel" "thrown" "I"), (Cond.lays "OrderPassingModel" "OrderPassingModel" "dates" "I"), (Cond.laysFinal "OrderPassingModel" "OrderPassingModel" "weights" "[I"), (Cond.laysFinal "OrderPassingModel" "OrderPassingModel" "aboves" "[I"), (Cond.laysFinal "OrderPassingModel" "OrderPassingModel" "belows" "[I"), (Cond.lays "OrderPassingModel" "OrderPassingModel" "told" "I"), (Cond.laysFinal "OrderPassingModel" "OrderPassingModel" "ones" "[I"), (Cond.laysFinal "OrderPassingModel" "OrderPassingModel" "others" "[I"), (Cond.laysFinal "OrderPassingModel" "OrderPassingModel" "leasts" "[I"), (Cond.laysFinal "OrderPassingModel" "OrderPassingModel" "mosts" "[I"), (Cond.laysFinal "OrderPassingModel" "OrderPassingModel" "big" "[I"), (Cond.laysFinal "OrderPassingModel" "OrderPassingModel" "wide" "[I"), (Cond.laysFinal "OrderPassingModel" "OrderPassingModel" "years" "[I"), (Cond.lays "OrderPassingModel" "OrderPassingModel" "firsts" "I"), (Cond.lays "OrderPassingModel" "OrderPassingModel" "lasts" "I"), (Cond.lays "OrderPassingModel" "OrderPassingModel" "counts" "I"), (Cond.lays "OrderPassingModel" "OrderPassingModel" "left" "I"), (Cond.lays "OrderPassingModel" "OrderPassingModel" "members" "I")] : List Cond), w ∈ gw
  exact List.forall_mem_cons.mpr ⟨tb_613, List.forall_mem_cons.mpr ⟨tb_615, List.forall_mem_cons.mpr ⟨tb_617, List.forall_mem_cons.mpr ⟨tb_619, List.forall_mem_cons.mpr ⟨tb_621, List.forall_mem_cons.mpr ⟨tb_623, List.forall_mem_cons.mpr ⟨tb_625, List.forall_mem_cons.mpr ⟨tb_627, List.forall_mem_cons.mpr ⟨tb_629, List.forall_mem_cons.mpr ⟨tb_631, List.forall_mem_cons.mpr ⟨tb_633, List.forall_mem_cons.mpr ⟨tb_635, List.forall_mem_cons.mpr ⟨tb_637, List.forall_mem_cons.mpr ⟨tb_639, List.forall_mem_cons.mpr ⟨tb_641, List.forall_mem_cons.mpr ⟨tb_643, List.forall_mem_cons.mpr ⟨tb_645, List.forall_mem_cons.mpr ⟨tb_647, fun _ h => absurd h List.not_mem_nil⟩⟩⟩⟩⟩⟩⟩⟩⟩⟩⟩⟩⟩⟩⟩⟩⟩⟩
def R_LA : String := "OrderPassingLaw"
def R_AR : String := "java/util/Arrays"
def R_MA : String := "java/lang/Math"
abbrev classes : List vw_C := [(R_OP, F_OP, 5), (R_DA, F_DA, 4), (R_GR, F_GR, 2), (R_PA, F_PA, 15), (R_TE, F_TE, 8), (R_MO, F_MO, 18)]
abbrev b_OP_init : ByteArray := prog_1_method_1_code
abbrev y_OP_init : MethodName := { cls := "OrderPassing", name := "<init>", desc := "()V" }
abbrev k_OP_init : Cond := .code y_OP_init b_OP_init 1 none
theorem km_OP_init : k_OP_init ∈ gw := tb_19
abbrev b_DA_init : ByteArray := prog_2_method_1_code
abbrev y_DA_init : MethodName := { cls := "OrderPassing$Dates", name := "<init>", desc := "()V" }
abbrev k_DA_init : Cond := .code y_DA_init b_DA_init 1 none
theorem km_DA_init : k_DA_init ∈ gw := tb_27
abbrev b_TE_init : ByteArray := prog_5_method_1_code
abbrev y_TE_init : MethodName := { cls := "OrderPassing$Telling", name := "<init>", desc := "()V" }
abbrev k_TE_init : Cond := .code y_TE_init b_TE_init 1 none
theorem km_TE_init : k_TE_init ∈ gw := tb_49
abbrev b_PA_init : ByteArray := prog_4_method_1_code
abbrev y_PA_init : MethodName := { cls := "OrderPassing$Passing", name := "<init>", desc := "()V" }
abbrev k_PA_init : Cond := .code y_PA_init b_PA_init 2 none
theorem km_PA_init : k_PA_init ∈ gw := tb_81
abbrev b_GR_init : ByteArray := prog_3_method_1_code
abbrev y_GR_init : MethodName := { cls := "OrderPassing$Great", name := "<init>", desc := "()V" }
abbrev k_GR_init : Cond := .code y_GR_init b_GR_init 1 none
theorem km_GR_init : k_GR_init ∈ gw := tb_88
abbrev b_AR_fill : ByteArray := prog_15_method_103_code
abbrev y_AR_fill : MethodName := { cls := "java/util/Arrays", name := "fill", desc := "([II)V" }
abbrev k_AR_fill : Cond := .code y_AR_fill b_AR_fill 4 none
theorem km_AR_fill : k_AR_fill ∈ gw := tb_100
abbrev b_OP_fits : ByteArray := prog_1_method_13_code
abbrev y_OP_fits : MethodName := { cls := "OrderPassing", name := "fits", desc := "()Z" }
abbrev k_OP_fits : Cond := .code y_OP_fits b_OP_fits 1 (some FieldType.boolean)
theorem km_OP_fits : k_OP_fits ∈ gw := tb_168
abbrev b_OP_sumAll : ByteArray := prog_1_method_20_code
abbrev y_OP_sumAll : MethodName := { cls := "OrderPassing", name := "sumAll", desc := "()V" }
abbrev k_OP_sumAll : Cond := .code y_OP_sumAll b_OP_sumAll 1 none
theorem km_OP_sumAll : k_OP_sumAll ∈ gw := tb_172
abbrev b_DA_number : ByteArray := prog_2_method_2_code
abbrev y_DA_number : MethodName := { cls := "OrderPassing$Dates", name := "number", desc := "()I" }
abbrev k_DA_number : Cond := .code y_DA_number b_DA_number 1 (some FieldType.int)
theorem km_DA_number : k_DA_number ∈ gw := tb_176
abbrev b_GR_set : ByteArray := prog_3_method_3_code
abbrev y_GR_set : MethodName := { cls := "OrderPassing$Great", name := "set", desc := "(I)V" }
abbrev k_GR_set : Cond := .code y_GR_set b_GR_set 3 none
theorem km_GR_set : k_GR_set ∈ gw := tb_180
abbrev b_PA_passTo : ByteArray := prog_4_method_7_code
abbrev y_PA_passTo : MethodName := { cls := "OrderPassing$Passing", name := "passTo", desc := "(ILOrderPassing$Dates;LOrderPassing$Telling;)V" }
abbrev k_PA_passTo : Cond := .code y_PA_passTo b_PA_passTo 5 none
theorem km_PA_passTo : k_PA_passTo ∈ gw := tb_184
abbrev b_PA_startSums : ByteArray := prog_4_method_8_code
abbrev y_PA_startSums : MethodName := { cls := "OrderPassing$Passing", name := "startSums", desc := "(LOrderPassing$Dates;)V" }
abbrev k_PA_startSums : Cond := .code y_PA_startSums b_PA_startSums 6 none
theorem km_PA_startSums : k_PA_startSums ∈ gw := tb_188
abbrev b_DA_outlying : ByteArray := prog_2_method_7_code
abbrev y_DA_outlying : MethodName := { cls := "OrderPassing$Dates", name := "outlying", desc := "(I)I" }
abbrev k_DA_outlying : Cond := .code y_DA_outlying b_DA_outlying 4 (some FieldType.int)
theorem km_DA_outlying : k_DA_outlying ∈ gw := tb_193
abbrev b_PA_sumAt : ByteArray := prog_4_method_4_code
abbrev y_PA_sumAt : MethodName := { cls := "OrderPassing$Passing", name := "sumAt", desc := "(II)LOrderPassing$Great;" }
abbrev k_PA_sumAt : Cond := .code y_PA_sumAt b_PA_sumAt 3 (some (FieldType.object "OrderPassing$Great"))
theorem km_PA_sumAt : k_PA_sumAt ∈ gw := tb_197
abbrev b_DA_inlying : ByteArray := prog_2_method_6_code
abbrev y_DA_inlying : MethodName := { cls := "OrderPassing$Dates", name := "inlying", desc := "(II)I" }
abbrev k_DA_inlying : Cond := .code y_DA_inlying b_DA_inlying 3 (some FieldType.int)
theorem km_DA_inlying : k_DA_inlying ∈ gw := tb_201
abbrev b_PA_orderDates : ByteArray := prog_4_method_9_code
abbrev y_PA_orderDates : MethodName := { cls := "OrderPassing$Passing", name := "orderDates", desc := "(IILOrderPassing$Telling;)V" }
abbrev k_PA_orderDates : Cond := .code y_PA_orderDates b_PA_orderDates 6 none
theorem km_PA_orderDates : k_PA_orderDates ∈ gw := tb_206
abbrev b_PA_queueTree : ByteArray := prog_4_method_10_code
abbrev y_PA_queueTree : MethodName := { cls := "OrderPassing$Passing", name := "queueTree", desc := "(ILOrderPassing$Telling;)V" }
abbrev k_PA_queueTree : Cond := .code y_PA_queueTree b_PA_queueTree 5 none
theorem km_PA_queueTree : k_PA_queueTree ∈ gw := tb_210
abbrev b_PA_queueDate : ByteArray := prog_4_method_12_code
abbrev y_PA_queueDate : MethodName := { cls := "OrderPassing$Passing", name := "queueDate", desc := "(III)V" }
abbrev k_PA_queueDate : Cond := .code y_PA_queueDate b_PA_queueDate 4 none
theorem km_PA_queueDate : k_PA_queueDate ∈ gw := tb_214
abbrev b_PA_queueChildren : ByteArray := prog_4_method_11_code
abbrev y_PA_queueChildren : MethodName := { cls := "OrderPassing$Passing", name := "queueChildren", desc := "(ILOrderPassing$Telling;)V" }
abbrev k_PA_queueChildren : Cond := .code y_PA_queueChildren b_PA_queueChildren 5 none
theorem km_PA_queueChildren : k_PA_queueChildren ∈ gw := tb_218
abbrev b_TE_number : ByteArray := prog_5_method_2_code
abbrev y_TE_number : MethodName := { cls := "OrderPassing$Telling", name := "number", desc := "()I" }
abbrev k_TE_number : Cond := .code y_TE_number b_TE_number 1 (some FieldType.int)
theorem km_TE_number : k_TE_number ∈ gw := tb_222
abbrev b_TE_otherEnd : ByteArray := prog_5_method_14_code
abbrev y_TE_otherEnd : MethodName := { cls := "OrderPassing$Telling", name := "otherEnd", desc := "(II)I" }
abbrev k_TE_otherEnd : Cond := .code y_TE_otherEnd b_TE_otherEnd 3 (some FieldType.int)
theorem km_TE_otherEnd : k_TE_otherEnd ∈ gw := tb_226
abbrev b_TE_memberOf : ByteArray := prog_5_method_13_code
abbrev y_TE_memberOf : MethodName := { cls := "OrderPassing$Telling", name := "memberOf", desc := "(I)I" }
abbrev k_TE_memberOf : Cond := .code y_TE_memberOf b_TE_memberOf 2 (some FieldType.int)
theorem km_TE_memberOf : k_TE_memberOf ∈ gw := tb_230
abbrev b_PA_handOn : ByteArray := prog_4_method_13_code
abbrev y_PA_handOn : MethodName := { cls := "OrderPassing$Passing", name := "handOn", desc := "(ILOrderPassing$Telling;)V" }
abbrev k_PA_handOn : Cond := .code y_PA_handOn b_PA_handOn 3 none
theorem km_PA_handOn : k_PA_handOn ∈ gw := tb_234
abbrev b_PA_handToParent : ByteArray := prog_4_method_14_code
abbrev y_PA_handToParent : MethodName := { cls := "OrderPassing$Passing", name := "handToParent", desc := "(IIILOrderPassing$Telling;)V" }
abbrev k_PA_handToParent : Cond := .code y_PA_handToParent b_PA_handToParent 8 none
theorem km_PA_handToParent : k_PA_handToParent ∈ gw := tb_238
abbrev b_TE_mostAcross : ByteArray := prog_5_method_16_code
abbrev y_TE_mostAcross : MethodName := { cls := "OrderPassing$Telling", name := "mostAcross", desc := "(III)I" }
abbrev k_TE_mostAcross : Cond := .code y_TE_mostAcross b_TE_mostAcross 4 (some FieldType.int)
theorem km_TE_mostAcross : k_TE_mostAcross ∈ gw := tb_242
abbrev b_MA_min : ByteArray := prog_11_method_69_code
abbrev y_MA_min : MethodName := { cls := "java/lang/Math", name := "min", desc := "(II)I" }
abbrev k_MA_min : Cond := .code y_MA_min b_MA_min 2 (some FieldType.int)
theorem km_MA_min : k_MA_min ∈ gw := tb_245
abbrev b_TE_leastAcross : ByteArray := prog_5_method_15_code
abbrev y_TE_leastAcross : MethodName := { cls := "OrderPassing$Telling", name := "leastAcross", desc := "(III)I" }
abbrev k_TE_leastAcross : Cond := .code y_TE_leastAcross b_TE_leastAcross 4 (some FieldType.int)
theorem km_TE_leastAcross : k_TE_leastAcross ∈ gw := tb_249
abbrev b_MA_max : ByteArray := prog_11_method_65_code
abbrev y_MA_max : MethodName := { cls := "java/lang/Math", name := "max", desc := "(II)I" }
abbrev k_MA_max : Cond := .code y_MA_max b_MA_max 2 (some FieldType.int)
theorem km_MA_max : k_MA_max ∈ gw := tb_252
abbrev b_GR_add : ByteArray := prog_3_method_4_code
abbrev y_GR_add : MethodName := { cls := "OrderPassing$Great", name := "add", desc := "(LOrderPassing$Great;)V" }
abbrev k_GR_add : Cond := .code y_GR_add b_GR_add 8 none
theorem km_GR_add : k_GR_add ∈ gw := tb_256
abbrev b_GR_multiply : ByteArray := prog_3_method_5_code
abbrev y_GR_multiply : MethodName := { cls := "OrderPassing$Great", name := "multiply", desc := "(LOrderPassing$Great;)V" }
abbrev k_GR_multiply : Cond := .code y_GR_multiply b_GR_multiply 11 none
theorem km_GR_multiply : k_GR_multiply ∈ gw := tb_261
abbrev b_PA_addYears : ByteArray := prog_4_method_5_code
abbrev y_PA_addYears : MethodName := { cls := "OrderPassing$Passing", name := "addYears", desc := "(ILOrderPassing$Great;)V" }
abbrev k_PA_addYears : Cond := .code y_PA_addYears b_PA_addYears 4 none
theorem km_PA_addYears : k_PA_addYears ∈ gw := tb_265
abbrev b_PA_passPhase : ByteArray := prog_4_method_15_code
abbrev y_PA_passPhase : MethodName := { cls := "OrderPassing$Passing", name := "passPhase", desc := "()V" }
abbrev k_PA_passPhase : Cond := .code y_PA_passPhase b_PA_passPhase 4 none
theorem km_PA_passPhase : k_PA_passPhase ∈ gw := tb_269
abbrev b_PA_sumOverBounds : ByteArray := prog_4_method_16_code
abbrev y_PA_sumOverBounds : MethodName := { cls := "OrderPassing$Passing", name := "sumOverBounds", desc := "()V" }
abbrev k_PA_sumOverBounds : Cond := .code y_PA_sumOverBounds b_PA_sumOverBounds 3 none
theorem km_PA_sumOverBounds : k_PA_sumOverBounds ∈ gw := tb_273
abbrev b_PA_multiplyInside : ByteArray := prog_4_method_18_code
abbrev y_PA_multiplyInside : MethodName := { cls := "OrderPassing$Passing", name := "multiplyInside", desc := "(I)V" }
abbrev k_PA_multiplyInside : Cond := .code y_PA_multiplyInside b_PA_multiplyInside 4 none
theorem km_PA_multiplyInside : k_PA_multiplyInside ∈ gw := tb_277
abbrev b_PA_addPair : ByteArray := prog_4_method_17_code
abbrev y_PA_addPair : MethodName := { cls := "OrderPassing$Passing", name := "addPair", desc := "(II)V" }
abbrev k_PA_addPair : Cond := .code y_PA_addPair b_PA_addPair 4 none
theorem km_PA_addPair : k_PA_addPair ∈ gw := tb_281
abbrev b_PA_multiplyYears : ByteArray := prog_4_method_6_code
abbrev y_PA_multiplyYears : MethodName := { cls := "OrderPassing$Passing", name := "multiplyYears", desc := "(ILOrderPassing$Great;)V" }
abbrev k_PA_multiplyYears : Cond := .code y_PA_multiplyYears b_PA_multiplyYears 4 none
theorem km_PA_multiplyYears : k_PA_multiplyYears ∈ gw := tb_285
abbrev b_GR_isZero : ByteArray := prog_3_method_2_code
abbrev y_GR_isZero : MethodName := { cls := "OrderPassing$Great", name := "isZero", desc := "()Z" }
abbrev k_GR_isZero : Cond := .code y_GR_isZero b_GR_isZero 1 (some FieldType.boolean)
theorem km_GR_isZero : k_GR_isZero ∈ gw := tb_290
abbrev b_LA_date : ByteArray := method_3_code
abbrev y_LA_date : MethodName := { cls := "OrderPassingLaw", name := "date", desc := "(LOrderPassing;[J)I" }
abbrev b_OP_date : ByteArray := prog_1_method_2_code
abbrev y_OP_date : MethodName := { cls := "OrderPassing", name := "date", desc := "()I" }
abbrev k_OP_date : Cond := .code y_OP_date b_OP_date 1 (some FieldType.int)
theorem km_OP_date : k_OP_date ∈ gw := tb_298
abbrev b_DA_open : ByteArray := prog_2_method_3_code
abbrev y_DA_open : MethodName := { cls := "OrderPassing$Dates", name := "open", desc := "()I" }
abbrev k_DA_open : Cond := .code y_DA_open b_DA_open 1 (some FieldType.int)
theorem km_DA_open : k_DA_open ∈ gw := tb_370
abbrev b_LA_weight : ByteArray := method_4_code
abbrev y_LA_weight : MethodName := { cls := "OrderPassingLaw", name := "weight", desc := "(LOrderPassing;III[J)I" }
abbrev b_OP_weight : ByteArray := prog_1_method_3_code
abbrev y_OP_weight : MethodName := { cls := "OrderPassing", name := "weight", desc := "(III)I" }
abbrev k_OP_weight : Cond := .code y_OP_weight b_OP_weight 4 (some FieldType.int)
theorem km_OP_weight : k_OP_weight ∈ gw := tb_379
abbrev b_OP_needDate : ByteArray := prog_1_method_16_code
abbrev y_OP_needDate : MethodName := { cls := "OrderPassing", name := "needDate", desc := "(I)V" }
abbrev k_OP_needDate : Cond := .code y_OP_needDate b_OP_needDate 2 none
theorem km_OP_needDate : k_OP_needDate ∈ gw := tb_383
abbrev b_OP_needYear : ByteArray := prog_1_method_17_code
abbrev y_OP_needYear : MethodName := { cls := "OrderPassing", name := "needYear", desc := "(I)V" }
abbrev k_OP_needYear : Cond := .code y_OP_needYear b_OP_needYear 1 none
theorem km_OP_needYear : k_OP_needYear ∈ gw := tb_402
abbrev b_DA_changeWeight : ByteArray := prog_2_method_4_code
abbrev y_DA_changeWeight : MethodName := { cls := "OrderPassing$Dates", name := "changeWeight", desc := "(III)I" }
abbrev k_DA_changeWeight : Cond := .code y_DA_changeWeight b_DA_changeWeight 5 (some FieldType.int)
theorem km_DA_changeWeight : k_DA_changeWeight ∈ gw := tb_423
abbrev b_LA_outlier : ByteArray := method_5_code
abbrev y_LA_outlier : MethodName := { cls := "OrderPassingLaw", name := "outlier", desc := "(LOrderPassing;III)I" }
abbrev b_OP_outlier : ByteArray := prog_1_method_4_code
abbrev y_OP_outlier : MethodName := { cls := "OrderPassing", name := "outlier", desc := "(III)V" }
abbrev k_OP_outlier : Cond := .code y_OP_outlier b_OP_outlier 4 none
theorem km_OP_outlier : k_OP_outlier ∈ gw := tb_430
abbrev b_DA_changeShare : ByteArray := prog_2_method_5_code
abbrev y_DA_changeShare : MethodName := { cls := "OrderPassing$Dates", name := "changeShare", desc := "(III)V" }
abbrev k_DA_changeShare : Cond := .code y_DA_changeShare b_DA_changeShare 4 none
theorem km_DA_changeShare : k_DA_changeShare ∈ gw := tb_435
abbrev b_LA_row : ByteArray := method_6_code
abbrev y_LA_row : MethodName := { cls := "OrderPassingLaw", name := "row", desc := "(LOrderPassing;IIII[J)I" }
abbrev b_OP_row : ByteArray := prog_1_method_5_code
abbrev y_OP_row : MethodName := { cls := "OrderPassing", name := "row", desc := "(IIII)I" }
abbrev k_OP_row : Cond := .code y_OP_row b_OP_row 5 (some FieldType.int)
theorem km_OP_row : k_OP_row ∈ gw := tb_442
abbrev b_TE_mayJoin : ByteArray := prog_5_method_5_code
abbrev y_TE_mayJoin : MethodName := { cls := "OrderPassing$Telling", name := "mayJoin", desc := "(II)Z" }
abbrev k_TE_mayJoin : Cond := .code y_TE_mayJoin b_TE_mayJoin 3 (some FieldType.boolean)
theorem km_TE_mayJoin : k_TE_mayJoin ∈ gw := tb_447
abbrev b_TE_nameTrees : ByteArray := prog_5_method_7_code
abbrev y_TE_nameTrees : MethodName := { cls := "OrderPassing$Telling", name := "nameTrees", desc := "()V" }
abbrev k_TE_nameTrees : Cond := .code y_TE_nameTrees b_TE_nameTrees 2 none
theorem km_TE_nameTrees : k_TE_nameTrees ∈ gw := tb_451
abbrev b_TE_renameTree : ByteArray := prog_5_method_8_code
abbrev y_TE_renameTree : MethodName := { cls := "OrderPassing$Telling", name := "renameTree", desc := "(II)V" }
abbrev k_TE_renameTree : Cond := .code y_TE_renameTree b_TE_renameTree 4 none
theorem km_TE_renameTree : k_TE_renameTree ∈ gw := tb_455
abbrev b_TE_hasMember : ByteArray := prog_5_method_9_code
abbrev y_TE_hasMember : MethodName := { cls := "OrderPassing$Telling", name := "hasMember", desc := "(I)Z" }
abbrev k_TE_hasMember : Cond := .code y_TE_hasMember b_TE_hasMember 3 (some FieldType.boolean)
theorem km_TE_hasMember : k_TE_hasMember ∈ gw := tb_459
abbrev b_TE_tell : ByteArray := prog_5_method_4_code
abbrev y_TE_tell : MethodName := { cls := "OrderPassing$Telling", name := "tell", desc := "(IIII)I" }
abbrev k_TE_tell : Cond := .code y_TE_tell b_TE_tell 5 (some FieldType.int)
theorem km_TE_tell : k_TE_tell ∈ gw := tb_463
abbrev b_LA_member : ByteArray := method_7_code
abbrev y_LA_member : MethodName := { cls := "OrderPassingLaw", name := "member", desc := "(LOrderPassing;I[J)I" }
abbrev b_OP_member : ByteArray := prog_1_method_6_code
abbrev y_OP_member : MethodName := { cls := "OrderPassing", name := "member", desc := "(I)I" }
abbrev k_OP_member : Cond := .code y_OP_member b_OP_member 2 (some FieldType.int)
theorem km_OP_member : k_OP_member ∈ gw := tb_470
abbrev b_TE_treeHasMember : ByteArray := prog_5_method_6_code
abbrev y_TE_treeHasMember : MethodName := { cls := "OrderPassing$Telling", name := "treeHasMember", desc := "(I)Z" }
abbrev k_TE_treeHasMember : Cond := .code y_TE_treeHasMember b_TE_treeHasMember 2 (some FieldType.boolean)
theorem km_TE_treeHasMember : k_TE_treeHasMember ∈ gw := tb_474
abbrev b_LA_total : ByteArray := method_8_code
abbrev y_LA_total : MethodName := { cls := "OrderPassingLaw", name := "total", desc := "(LOrderPassing;I[J)I" }
abbrev b_OP_total : ByteArray := prog_1_method_7_code
abbrev y_OP_total : MethodName := { cls := "OrderPassing", name := "total", desc := "(I)I" }
abbrev k_OP_total : Cond := .code y_OP_total b_OP_total 2 (some FieldType.int)
theorem km_OP_total : k_OP_total ∈ gw := tb_481
abbrev b_OP_needDigit : ByteArray := prog_1_method_19_code
abbrev y_OP_needDigit : MethodName := { cls := "OrderPassing", name := "needDigit", desc := "(I)V" }
abbrev k_OP_needDigit : Cond := .code y_OP_needDigit b_OP_needDigit 1 none
theorem km_OP_needDigit : k_OP_needDigit ∈ gw := tb_484
abbrev b_GR_digitAt : ByteArray := prog_3_method_7_code
abbrev y_GR_digitAt : MethodName := { cls := "OrderPassing$Great", name := "digitAt", desc := "(I)I" }
abbrev k_GR_digitAt : Cond := .code y_GR_digitAt b_GR_digitAt 5 (some FieldType.int)
theorem km_GR_digitAt : k_GR_digitAt ∈ gw := tb_489
abbrev b_LA_answered : ByteArray := method_9_code
abbrev y_LA_answered : MethodName := { cls := "OrderPassingLaw", name := "answered", desc := "(LOrderPassing;III[J)I" }
abbrev b_OP_answered : ByteArray := prog_1_method_8_code
abbrev y_OP_answered : MethodName := { cls := "OrderPassing", name := "answered", desc := "(III)I" }
abbrev k_OP_answered : Cond := .code y_OP_answered b_OP_answered 4 (some FieldType.int)
theorem km_OP_answered : k_OP_answered ∈ gw := tb_497
abbrev b_LA_bound : ByteArray := method_10_code
abbrev y_LA_bound : MethodName := { cls := "OrderPassingLaw", name := "bound", desc := "(LOrderPassing;III[J)I" }
abbrev b_OP_bound : ByteArray := prog_1_method_9_code
abbrev y_OP_bound : MethodName := { cls := "OrderPassing", name := "bound", desc := "(III)I" }
abbrev k_OP_bound : Cond := .code y_OP_bound b_OP_bound 4 (some FieldType.int)
theorem km_OP_bound : k_OP_bound ∈ gw := tb_505
abbrev b_OP_needBound : ByteArray := prog_1_method_18_code
abbrev y_OP_needBound : MethodName := { cls := "OrderPassing", name := "needBound", desc := "(I)V" }
abbrev k_OP_needBound : Cond := .code y_OP_needBound b_OP_needBound 1 none
theorem km_OP_needBound : k_OP_needBound ∈ gw := tb_508
abbrev b_TE_members : ByteArray := prog_5_method_3_code
abbrev y_TE_members : MethodName := { cls := "OrderPassing$Telling", name := "members", desc := "()I" }
abbrev k_TE_members : Cond := .code y_TE_members b_TE_members 1 (some FieldType.int)
theorem km_TE_members : k_TE_members ∈ gw := tb_513
abbrev b_PA_fixBound : ByteArray := prog_4_method_3_code
abbrev y_PA_fixBound : MethodName := { cls := "OrderPassing$Passing", name := "fixBound", desc := "(II)V" }
abbrev k_PA_fixBound : Cond := .code y_PA_fixBound b_PA_fixBound 3 none
theorem km_PA_fixBound : k_PA_fixBound ∈ gw := tb_518
abbrev b_LA_both : ByteArray := method_11_code
abbrev y_LA_both : MethodName := { cls := "OrderPassingLaw", name := "both", desc := "(LOrderPassing;IIIII[J)I" }
abbrev b_OP_both : ByteArray := prog_1_method_10_code
abbrev y_OP_both : MethodName := { cls := "OrderPassing", name := "both", desc := "(IIIII)I" }
abbrev k_OP_both : Cond := .code y_OP_both b_OP_both 6 (some FieldType.int)
theorem km_OP_both : k_OP_both ∈ gw := tb_525
abbrev b_PA_fixDate : ByteArray := prog_4_method_2_code
abbrev y_PA_fixDate : MethodName := { cls := "OrderPassing$Passing", name := "fixDate", desc := "(II)V" }
abbrev k_PA_fixDate : Cond := .code y_PA_fixDate b_PA_fixDate 3 none
theorem km_PA_fixDate : k_PA_fixDate ∈ gw := tb_529
abbrev b_LA_span : ByteArray := method_12_code
abbrev y_LA_span : MethodName := { cls := "OrderPassingLaw", name := "span", desc := "(LOrderPassing;II[J)I" }
abbrev b_OP_span : ByteArray := prog_1_method_11_code
abbrev y_OP_span : MethodName := { cls := "OrderPassing", name := "span", desc := "(II)I" }
abbrev k_OP_span : Cond := .code y_OP_span b_OP_span 5 (some FieldType.int)
theorem km_OP_span : k_OP_span ∈ gw := tb_536
abbrev b_LA_narrow : ByteArray := method_13_code
abbrev y_LA_narrow : MethodName := { cls := "OrderPassingLaw", name := "narrow", desc := "(LOrderPassing;III[J)I" }
abbrev b_OP_narrow : ByteArray := prog_1_method_12_code
abbrev y_OP_narrow : MethodName := { cls := "OrderPassing", name := "narrow", desc := "(III)I" }
abbrev k_OP_narrow : Cond := .code y_OP_narrow b_OP_narrow 4 (some FieldType.int)
theorem km_OP_narrow : k_OP_narrow ∈ gw := tb_543
abbrev b_OP_shortestStretch : ByteArray := prog_1_method_21_code
abbrev y_OP_shortestStretch : MethodName := { cls := "OrderPassing", name := "shortestStretch", desc := "(I)I" }
abbrev k_OP_shortestStretch : Cond := .code y_OP_shortestStretch b_OP_shortestStretch 7 (some FieldType.int)
theorem km_OP_shortestStretch : k_OP_shortestStretch ∈ gw := tb_550
abbrev b_OP_endOfStretch : ByteArray := prog_1_method_22_code
abbrev y_OP_endOfStretch : MethodName := { cls := "OrderPassing", name := "endOfStretch", desc := "(II)I" }
abbrev k_OP_endOfStretch : Cond := .code y_OP_endOfStretch b_OP_endOfStretch 4 (some FieldType.int)
theorem km_OP_endOfStretch : k_OP_endOfStretch ∈ gw := tb_554
abbrev b_GR_isAtLeast : ByteArray := prog_3_method_6_code
abbrev y_GR_isAtLeast : MethodName := { cls := "OrderPassing$Great", name := "isAtLeast", desc := "(LOrderPassing$Great;)Z" }
abbrev k_GR_isAtLeast : Cond := .code y_GR_isAtLeast b_GR_isAtLeast 3 (some FieldType.boolean)
theorem km_GR_isAtLeast : k_GR_isAtLeast ∈ gw := tb_559
abbrev b_LA_fitless : ByteArray := method_14_code
abbrev y_LA_fitless : MethodName := { cls := "OrderPassingLaw", name := "fitless", desc := "(LOrderPassing;I[J)I" }
abbrev b_OP_fitless : ByteArray := prog_1_method_14_code
abbrev y_OP_fitless : MethodName := { cls := "OrderPassing", name := "fitless", desc := "(I)I" }
abbrev k_OP_fitless : Cond := .code y_OP_fitless b_OP_fitless 3 (some FieldType.int)
theorem km_OP_fitless : k_OP_fitless ∈ gw := tb_566
abbrev b_TE_setInForce : ByteArray := prog_5_method_10_code
abbrev y_TE_setInForce : MethodName := { cls := "OrderPassing$Telling", name := "setInForce", desc := "(IZ)V" }
abbrev k_TE_setInForce : Cond := .code y_TE_setInForce b_TE_setInForce 3 none
theorem km_TE_setInForce : k_TE_setInForce ∈ gw := tb_572
abbrev b_TE_inForceAt : ByteArray := prog_5_method_12_code
abbrev y_TE_inForceAt : MethodName := { cls := "OrderPassing$Telling", name := "inForceAt", desc := "(I)I" }
abbrev k_TE_inForceAt : Cond := .code y_TE_inForceAt b_TE_inForceAt 4 (some FieldType.int)
theorem km_TE_inForceAt : k_TE_inForceAt ∈ gw := tb_576
abbrev b_TE_putAllBack : ByteArray := prog_5_method_11_code
abbrev y_TE_putAllBack : MethodName := { cls := "OrderPassing$Telling", name := "putAllBack", desc := "()V" }
abbrev k_TE_putAllBack : Cond := .code y_TE_putAllBack b_TE_putAllBack 2 none
theorem km_TE_putAllBack : k_TE_putAllBack ∈ gw := tb_580
abbrev b_LA_count : ByteArray := method_15_code
abbrev y_LA_count : MethodName := { cls := "OrderPassingLaw", name := "count", desc := "(LOrderPassing;I[J)I" }
abbrev b_OP_count : ByteArray := prog_1_method_15_code
abbrev y_OP_count : MethodName := { cls := "OrderPassing", name := "count", desc := "(I)I" }
abbrev k_OP_count : Cond := .code y_OP_count b_OP_count 2 (some FieldType.int)
theorem km_OP_count : k_OP_count ∈ gw := tb_587
abbrev b_MO_init : ByteArray := prog_7_method_1_code
abbrev y_MO_init : MethodName := { cls := "OrderPassingModel", name := "<init>", desc := "()V" }
abbrev k_MO_init : Cond := .code y_MO_init b_MO_init 1 none
theorem km_MO_init : k_MO_init ∈ gw := tb_593
abbrev b_MO_thrown : ByteArray := prog_7_method_2_code
abbrev y_MO_thrown : MethodName := { cls := "OrderPassingModel", name := "thrown", desc := "()I" }
abbrev k_MO_thrown : Cond := .code y_MO_thrown b_MO_thrown 1 (some FieldType.int)
theorem km_MO_thrown : k_MO_thrown ∈ gw := tb_653
abbrev b_MO_date : ByteArray := prog_7_method_14_code
abbrev y_MO_date : MethodName := { cls := "OrderPassingModel", name := "date", desc := "()I" }
abbrev k_MO_date : Cond := .code y_MO_date b_MO_date 1 (some FieldType.int)
theorem km_MO_date : k_MO_date ∈ gw := tb_657
abbrev b_MO_goes : ByteArray := prog_7_method_3_code
abbrev y_MO_goes : MethodName := { cls := "OrderPassingModel", name := "goes", desc := "(ZZZ)Z" }
abbrev k_MO_goes : Cond := .code y_MO_goes b_MO_goes 4 (some FieldType.boolean)
theorem km_MO_goes : k_MO_goes ∈ gw := tb_661
abbrev b_MO_weight : ByteArray := prog_7_method_15_code
abbrev y_MO_weight : MethodName := { cls := "OrderPassingModel", name := "weight", desc := "(III)I" }
abbrev k_MO_weight : Cond := .code y_MO_weight b_MO_weight 5 (some FieldType.int)
theorem km_MO_weight : k_MO_weight ∈ gw := tb_665
abbrev b_MO_isDate : ByteArray := prog_7_method_5_code
abbrev y_MO_isDate : MethodName := { cls := "OrderPassingModel", name := "isDate", desc := "(I)Z" }
abbrev k_MO_isDate : Cond := .code y_MO_isDate b_MO_isDate 2 (some FieldType.boolean)
theorem km_MO_isDate : k_MO_isDate ∈ gw := tb_669
abbrev b_MO_below : ByteArray := prog_7_method_4_code
abbrev y_MO_below : MethodName := { cls := "OrderPassingModel", name := "below", desc := "(II)Z" }
abbrev k_MO_below : Cond := .code y_MO_below b_MO_below 2 (some FieldType.boolean)
theorem km_MO_below : k_MO_below ∈ gw := tb_672
abbrev b_MO_outlier : ByteArray := prog_7_method_16_code
abbrev y_MO_outlier : MethodName := { cls := "OrderPassingModel", name := "outlier", desc := "(III)V" }
abbrev k_MO_outlier : Cond := .code y_MO_outlier b_MO_outlier 4 none
theorem km_MO_outlier : k_MO_outlier ∈ gw := tb_676
abbrev b_MO_row : ByteArray := prog_7_method_21_code
abbrev y_MO_row : MethodName := { cls := "OrderPassingModel", name := "row", desc := "(IIII)I" }
abbrev k_MO_row : Cond := .code y_MO_row b_MO_row 7 (some FieldType.int)
theorem km_MO_row : k_MO_row ∈ gw := tb_680
abbrev b_MO_treeOf : ByteArray := prog_7_method_17_code
abbrev y_MO_treeOf : MethodName := { cls := "OrderPassingModel", name := "treeOf", desc := "(I)I" }
abbrev k_MO_treeOf : Cond := .code y_MO_treeOf b_MO_treeOf 6 (some FieldType.int)
theorem km_MO_treeOf : k_MO_treeOf ∈ gw := tb_684
abbrev b_MO_hasMember : ByteArray := prog_7_method_19_code
abbrev y_MO_hasMember : MethodName := { cls := "OrderPassingModel", name := "hasMember", desc := "(I)Z" }
abbrev k_MO_hasMember : Cond := .code y_MO_hasMember b_MO_hasMember 4 (some FieldType.boolean)
theorem km_MO_hasMember : k_MO_hasMember ∈ gw := tb_688
abbrev b_MO_isMember : ByteArray := prog_7_method_18_code
abbrev y_MO_isMember : MethodName := { cls := "OrderPassingModel", name := "isMember", desc := "(I)Z" }
abbrev k_MO_isMember : Cond := .code y_MO_isMember b_MO_isMember 2 (some FieldType.boolean)
theorem km_MO_isMember : k_MO_isMember ∈ gw := tb_692
abbrev b_MO_tell : ByteArray := prog_7_method_20_code
abbrev y_MO_tell : MethodName := { cls := "OrderPassingModel", name := "tell", desc := "(IIII)I" }
abbrev k_MO_tell : Cond := .code y_MO_tell b_MO_tell 5 (some FieldType.int)
theorem km_MO_tell : k_MO_tell ∈ gw := tb_696
abbrev b_MO_member : ByteArray := prog_7_method_22_code
abbrev y_MO_member : MethodName := { cls := "OrderPassingModel", name := "member", desc := "(I)I" }
abbrev k_MO_member : Cond := .code y_MO_member b_MO_member 2 (some FieldType.int)
theorem km_MO_member : k_MO_member ∈ gw := tb_700
abbrev b_MO_total : ByteArray := prog_7_method_34_code
abbrev y_MO_total : MethodName := { cls := "OrderPassingModel", name := "total", desc := "(I)I" }
abbrev k_MO_total : Cond := .code y_MO_total b_MO_total 2 (some FieldType.int)
theorem km_MO_total : k_MO_total ∈ gw := tb_704
abbrev b_MO_isDigit : ByteArray := prog_7_method_6_code
abbrev y_MO_isDigit : MethodName := { cls := "OrderPassingModel", name := "isDigit", desc := "(I)Z" }
abbrev k_MO_isDigit : Cond := .code y_MO_isDigit b_MO_isDigit 1 (some FieldType.boolean)
theorem km_MO_isDigit : k_MO_isDigit ∈ gw := tb_707
abbrev b_MO_open : ByteArray := prog_7_method_33_code
abbrev y_MO_open : MethodName := { cls := "OrderPassingModel", name := "open", desc := "()V" }
abbrev k_MO_open : Cond := .code y_MO_open b_MO_open 2 none
theorem km_MO_open : k_MO_open ∈ gw := tb_711
abbrev b_MO_sum : ByteArray := prog_7_method_32_code
abbrev y_MO_sum : MethodName := { cls := "OrderPassingModel", name := "sum", desc := "()V" }
abbrev k_MO_sum : Cond := .code y_MO_sum b_MO_sum 5 none
theorem km_MO_sum : k_MO_sum ∈ gw := tb_715
abbrev b_MO_lay : ByteArray := prog_7_method_26_code
abbrev y_MO_lay : MethodName := { cls := "OrderPassingModel", name := "lay", desc := "()V" }
abbrev k_MO_lay : Cond := .code y_MO_lay b_MO_lay 3 none
theorem km_MO_lay : k_MO_lay ∈ gw := tb_719
abbrev b_MO_worth : ByteArray := prog_7_method_23_code
abbrev y_MO_worth : MethodName := { cls := "OrderPassingModel", name := "worth", desc := "(II)I" }
abbrev k_MO_worth : Cond := .code y_MO_worth b_MO_worth 5 (some FieldType.int)
theorem km_MO_worth : k_MO_worth ∈ gw := tb_723
abbrev b_MO_set : ByteArray := prog_7_method_7_code
abbrev y_MO_set : MethodName := { cls := "OrderPassingModel", name := "set", desc := "(II)V" }
abbrev k_MO_set : Cond := .code y_MO_set b_MO_set 5 none
theorem km_MO_set : k_MO_set ∈ gw := tb_727
abbrev b_MO_counted : ByteArray := prog_7_method_24_code
abbrev y_MO_counted : MethodName := { cls := "OrderPassingModel", name := "counted", desc := "(I)Z" }
abbrev k_MO_counted : Cond := .code y_MO_counted b_MO_counted 2 (some FieldType.boolean)
theorem km_MO_counted : k_MO_counted ∈ gw := tb_731
abbrev b_MO_roots : ByteArray := prog_7_method_30_code
abbrev y_MO_roots : MethodName := { cls := "OrderPassingModel", name := "roots", desc := "()I" }
abbrev k_MO_roots : Cond := .code y_MO_roots b_MO_roots 5 (some FieldType.int)
theorem km_MO_roots : k_MO_roots ∈ gw := tb_735
abbrev b_MO_isLeaf : ByteArray := prog_7_method_29_code
abbrev y_MO_isLeaf : MethodName := { cls := "OrderPassingModel", name := "isLeaf", desc := "(I)Z" }
abbrev k_MO_isLeaf : Cond := .code y_MO_isLeaf b_MO_isLeaf 2 (some FieldType.boolean)
theorem km_MO_isLeaf : k_MO_isLeaf ∈ gw := tb_739
abbrev b_MO_rowsOf : ByteArray := prog_7_method_27_code
abbrev y_MO_rowsOf : MethodName := { cls := "OrderPassingModel", name := "rowsOf", desc := "(I)I" }
abbrev k_MO_rowsOf : Cond := .code y_MO_rowsOf b_MO_rowsOf 4 (some FieldType.int)
theorem km_MO_rowsOf : k_MO_rowsOf ∈ gw := tb_743
abbrev b_MO_take : ByteArray := prog_7_method_28_code
abbrev y_MO_take : MethodName := { cls := "OrderPassingModel", name := "take", desc := "(II)V" }
abbrev k_MO_take : Cond := .code y_MO_take b_MO_take 7 none
theorem km_MO_take : k_MO_take ∈ gw := tb_747
abbrev b_MO_add : ByteArray := prog_7_method_9_code
abbrev y_MO_add : MethodName := { cls := "OrderPassingModel", name := "add", desc := "(II)V" }
abbrev k_MO_add : Cond := .code y_MO_add b_MO_add 6 none
theorem km_MO_add : k_MO_add ∈ gw := tb_751
abbrev b_MO_times : ByteArray := prog_7_method_10_code
abbrev y_MO_times : MethodName := { cls := "OrderPassingModel", name := "times", desc := "(II)V" }
abbrev k_MO_times : Cond := .code y_MO_times b_MO_times 7 none
theorem km_MO_times : k_MO_times ∈ gw := tb_755
abbrev b_MO_multiply : ByteArray := prog_7_method_31_code
abbrev y_MO_multiply : MethodName := { cls := "OrderPassingModel", name := "multiply", desc := "(IIII)V" }
abbrev k_MO_multiply : Cond := .code y_MO_multiply b_MO_multiply 6 none
theorem km_MO_multiply : k_MO_multiply ∈ gw := tb_759
abbrev b_MO_copy : ByteArray := prog_7_method_8_code
abbrev y_MO_copy : MethodName := { cls := "OrderPassingModel", name := "copy", desc := "(II)V" }
abbrev k_MO_copy : Cond := .code y_MO_copy b_MO_copy 4 none
theorem km_MO_copy : k_MO_copy ∈ gw := tb_763
abbrev b_MO_digitOf : ByteArray := prog_7_method_13_code
abbrev y_MO_digitOf : MethodName := { cls := "OrderPassingModel", name := "digitOf", desc := "(II)I" }
abbrev k_MO_digitOf : Cond := .code y_MO_digitOf b_MO_digitOf 5 (some FieldType.int)
theorem km_MO_digitOf : k_MO_digitOf ∈ gw := tb_767
abbrev b_MO_answered : ByteArray := prog_7_method_35_code
abbrev y_MO_answered : MethodName := { cls := "OrderPassingModel", name := "answered", desc := "(III)I" }
abbrev k_MO_answered : Cond := .code y_MO_answered b_MO_answered 4 (some FieldType.int)
theorem km_MO_answered : k_MO_answered ∈ gw := tb_771
abbrev b_MO_bound : ByteArray := prog_7_method_36_code
abbrev y_MO_bound : MethodName := { cls := "OrderPassingModel", name := "bound", desc := "(III)I" }
abbrev k_MO_bound : Cond := .code y_MO_bound b_MO_bound 4 (some FieldType.int)
theorem km_MO_bound : k_MO_bound ∈ gw := tb_775
abbrev b_MO_hasMembers : ByteArray := prog_7_method_25_code
abbrev y_MO_hasMembers : MethodName := { cls := "OrderPassingModel", name := "hasMembers", desc := "()Z" }
abbrev k_MO_hasMembers : Cond := .code y_MO_hasMembers b_MO_hasMembers 3 (some FieldType.boolean)
theorem km_MO_hasMembers : k_MO_hasMembers ∈ gw := tb_779
abbrev b_MO_both : ByteArray := prog_7_method_37_code
abbrev y_MO_both : MethodName := { cls := "OrderPassingModel", name := "both", desc := "(IIIII)I" }
abbrev k_MO_both : Cond := .code y_MO_both b_MO_both 6 (some FieldType.int)
theorem km_MO_both : k_MO_both ∈ gw := tb_783
abbrev b_MO_span : ByteArray := prog_7_method_38_code
abbrev y_MO_span : MethodName := { cls := "OrderPassingModel", name := "span", desc := "(II)I" }
abbrev k_MO_span : Cond := .code y_MO_span b_MO_span 6 (some FieldType.int)
theorem km_MO_span : k_MO_span ∈ gw := tb_787
abbrev b_MO_isNothing : ByteArray := prog_7_method_11_code
abbrev y_MO_isNothing : MethodName := { cls := "OrderPassingModel", name := "isNothing", desc := "(I)Z" }
abbrev k_MO_isNothing : Cond := .code y_MO_isNothing b_MO_isNothing 4 (some FieldType.boolean)
theorem km_MO_isNothing : k_MO_isNothing ∈ gw := tb_791
abbrev b_MO_narrow : ByteArray := prog_7_method_39_code
abbrev y_MO_narrow : MethodName := { cls := "OrderPassingModel", name := "narrow", desc := "(III)I" }
abbrev k_MO_narrow : Cond := .code y_MO_narrow b_MO_narrow 7 (some FieldType.int)
theorem km_MO_narrow : k_MO_narrow ∈ gw := tb_795
abbrev b_MO_isLess : ByteArray := prog_7_method_12_code
abbrev y_MO_isLess : MethodName := { cls := "OrderPassingModel", name := "isLess", desc := "(II)Z" }
abbrev k_MO_isLess : Cond := .code y_MO_isLess b_MO_isLess 7 (some FieldType.boolean)
theorem km_MO_isLess : k_MO_isLess ∈ gw := tb_799
abbrev b_MO_fits : ByteArray := prog_7_method_40_code
abbrev y_MO_fits : MethodName := { cls := "OrderPassingModel", name := "fits", desc := "()Z" }
abbrev k_MO_fits : Cond := .code y_MO_fits b_MO_fits 1 (some FieldType.boolean)
theorem km_MO_fits : k_MO_fits ∈ gw := tb_803
abbrev b_MO_fitless : ByteArray := prog_7_method_41_code
abbrev y_MO_fitless : MethodName := { cls := "OrderPassingModel", name := "fitless", desc := "(I)I" }
abbrev k_MO_fitless : Cond := .code y_MO_fitless b_MO_fitless 5 (some FieldType.int)
theorem km_MO_fitless : k_MO_fitless ∈ gw := tb_807
abbrev b_MO_count : ByteArray := prog_7_method_42_code
abbrev y_MO_count : MethodName := { cls := "OrderPassingModel", name := "count", desc := "(I)I" }
abbrev k_MO_count : Cond := .code y_MO_count b_MO_count 4 (some FieldType.int)
theorem km_MO_count : k_MO_count ∈ gw := tb_811
