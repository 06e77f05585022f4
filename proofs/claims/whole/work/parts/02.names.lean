/-! names of the classes and methods, their fields, the words of the tables that they lean on: printed by wip/whole/mknames.py out of the claim -/
/-- those words of the tables that stay true in every call -/
def lw_g : List Cond := lw_tbl.filter goodWord
theorem lw_in {w : Cond} (h : w ∈ lw_tbl) (hg : goodWord w = true) : w ∈ lw_g := List.mem_filter.mpr ⟨h, hg⟩
theorem lw_sub : ∀ w ∈ lw_g, w ∈ lw_tbl := fun _ h => (List.mem_filter.mp h).1
theorem lw_good : ∀ w ∈ lw_g, (w.onTables && w.keeps) = true ∨ ∃ ty, w = .arrayClass ty := fun _ h => good_of_word (List.mem_filter.mp h).2
def qnE : String := "SubflowExecutor"
def TE : u_T := fun k => match k with
  | 0 => ("SubflowExecutor", "workers", "I", true)
  | 1 => ("SubflowExecutor", "graph", "LSubflowExecutor$Graph;", true)
  | 2 => ("SubflowExecutor", "semaphores", "LSubflowExecutor$Semaphores;", true)
  | 3 => ("SubflowExecutor", "lines", "[LSubflowExecutor$Line;", true)
  | 4 => ("SubflowExecutor", "parked", "LSubflowExecutor$Line;", true)
  | 5 => ("SubflowExecutor", "running", "[I", true)
  | 6 => ("SubflowExecutor", "place", "[I", true)
  | 7 => ("SubflowExecutor", "arrived", "[I", true)
  | 8 => ("SubflowExecutor", "runCounts", "[I", true)
  | 9 => ("SubflowExecutor", "childFailed", "[Z", true)
  | 10 => ("SubflowExecutor", "underWay", "Z", false)
  | 11 => ("SubflowExecutor", "cancelled", "Z", false)
  | 12 => ("SubflowExecutor", "firstFailed", "I", false)
  | 13 => ("SubflowExecutor", "roundsAsked", "I", false)
  | 14 => ("SubflowExecutor", "roundsBegun", "I", false)
  | 15 => ("SubflowExecutor", "tokensLost", "I", false)
  | _ => ("SubflowExecutor", "stealCount", "I", false)
def tyE : Nat → FieldType := fun k => match k with
  | 0 => .int
  | 1 => .object "SubflowExecutor$Graph"
  | 2 => .object "SubflowExecutor$Semaphores"
  | 3 => .array (.object "SubflowExecutor$Line")
  | 4 => .object "SubflowExecutor$Line"
  | 5 => .array .int
  | 6 => .array .int
  | 7 => .array .int
  | 8 => .array .int
  | 9 => .array .boolean
  | 10 => .boolean
  | 11 => .boolean
  | 12 => .int
  | 13 => .int
  | 14 => .int
  | 15 => .int
  | _ => .int
theorem nmE : ∀ a, a < 17 → ∀ b, b < 17 → a ≠ b → (TE a).2.1 ≠ (TE b).2.1 := by decide +kernel
theorem tyE_ok : ∀ k, k < 17 → parseFieldDescriptor (TE k).2.2.1 = some (tyE k) := by decide +kernel
theorem hiE : ∀ w ∈ u_ws qnE TE 17, w ∈ lw_g := by decide +kernel
theorem inE : Cond.initialized qnE ∈ lw_g := lw_in (List.mem_append_right _ (List.mem_of_getElem? (i := 1) (by decide +kernel))) rfl
def qnG : String := "SubflowExecutor$Graph"
def TG : u_T := fun k => match k with
  | 0 => ("SubflowExecutor$Graph", "count", "I", false)
  | 1 => ("SubflowExecutor$Graph", "kinds", "[I", true)
  | 2 => ("SubflowExecutor$Graph", "parents", "[I", true)
  | 3 => ("SubflowExecutor$Graph", "levels", "[I", true)
  | 4 => ("SubflowExecutor$Graph", "needs", "[I", true)
  | 5 => ("SubflowExecutor$Graph", "edges", "[[I", true)
  | 6 => ("SubflowExecutor$Graph", "edgeCounts", "[I", true)
  | 7 => ("SubflowExecutor$Graph", "allIn", "[I", true)
  | _ => ("SubflowExecutor$Graph", "strongIn", "[I", true)
def tyG : Nat → FieldType := fun k => match k with
  | 0 => .int
  | 1 => .array .int
  | 2 => .array .int
  | 3 => .array .int
  | 4 => .array .int
  | 5 => .array (.array .int)
  | 6 => .array .int
  | 7 => .array .int
  | _ => .array .int
theorem nmG : ∀ a, a < 9 → ∀ b, b < 9 → a ≠ b → (TG a).2.1 ≠ (TG b).2.1 := by decide +kernel
theorem tyG_ok : ∀ k, k < 9 → parseFieldDescriptor (TG k).2.2.1 = some (tyG k) := by decide +kernel
theorem hiG : ∀ w ∈ u_ws qnG TG 9, w ∈ lw_g := by decide +kernel
theorem inG : Cond.initialized qnG ∈ lw_g := lw_in (List.mem_append_right _ (List.mem_of_getElem? (i := 3) (by decide +kernel))) rfl
def qnL : String := "SubflowExecutor$Line"
def TL : u_T := fun k => match k with
  | 0 => ("SubflowExecutor$Line", "tasks", "[I", true)
  | _ => ("SubflowExecutor$Line", "length", "I", false)
def tyL : Nat → FieldType := fun k => match k with
  | 0 => .array .int
  | _ => .int
theorem nmL : ∀ a, a < 2 → ∀ b, b < 2 → a ≠ b → (TL a).2.1 ≠ (TL b).2.1 := by decide +kernel
theorem tyL_ok : ∀ k, k < 2 → parseFieldDescriptor (TL k).2.2.1 = some (tyL k) := by decide +kernel
theorem hiL : ∀ w ∈ u_ws qnL TL 2, w ∈ lw_g := by decide +kernel
theorem inL : Cond.initialized qnL ∈ lw_g := lw_in (List.mem_append_right _ (List.mem_of_getElem? (i := 6) (by decide +kernel))) rfl
def qnP : String := "SubflowExecutor$Semaphores"
def TP : u_T := fun k => match k with
  | 0 => ("SubflowExecutor$Semaphores", "capacities", "[I", true)
  | _ => ("SubflowExecutor$Semaphores", "unitsHeld", "[I", true)
def tyP : Nat → FieldType := fun k => match k with
  | 0 => .array .int
  | _ => .array .int
theorem nmP : ∀ a, a < 2 → ∀ b, b < 2 → a ≠ b → (TP a).2.1 ≠ (TP b).2.1 := by decide +kernel
theorem tyP_ok : ∀ k, k < 2 → parseFieldDescriptor (TP k).2.2.1 = some (tyP k) := by decide +kernel
theorem hiP : ∀ w ∈ u_ws qnP TP 2, w ∈ lw_g := by decide +kernel
theorem inP : Cond.initialized qnP ∈ lw_g := lw_in (List.mem_append_right _ (List.mem_of_getElem? (i := 4) (by decide +kernel))) rfl
def qnR : String := "SubflowExecutorModel"
def TR : u_T := fun k => match k with
  | 0 => ("SubflowExecutorModel", "workers", "I", true)
  | 1 => ("SubflowExecutorModel", "tasks", "I", false)
  | 2 => ("SubflowExecutorModel", "kind", "[I", true)
  | 3 => ("SubflowExecutorModel", "parent", "[I", true)
  | 4 => ("SubflowExecutorModel", "level", "[I", true)
  | 5 => ("SubflowExecutorModel", "needs", "[I", true)
  | 6 => ("SubflowExecutorModel", "state", "[I", true)
  | 7 => ("SubflowExecutorModel", "spot", "[I", true)
  | 8 => ("SubflowExecutorModel", "since", "[I", true)
  | 9 => ("SubflowExecutorModel", "came", "[I", true)
  | 10 => ("SubflowExecutorModel", "ran", "[I", true)
  | 11 => ("SubflowExecutorModel", "hurt", "[Z", true)
  | 12 => ("SubflowExecutorModel", "outs", "[I", true)
  | 13 => ("SubflowExecutorModel", "to", "[I", true)
  | 14 => ("SubflowExecutorModel", "leads", "[Z", true)
  | 15 => ("SubflowExecutorModel", "more", "[I", true)
  | 16 => ("SubflowExecutorModel", "clock", "I", false)
  | 17 => ("SubflowExecutorModel", "begun", "Z", false)
  | 18 => ("SubflowExecutorModel", "under", "Z", false)
  | 19 => ("SubflowExecutorModel", "cancelled", "Z", false)
  | 20 => ("SubflowExecutorModel", "thrower", "I", false)
  | 21 => ("SubflowExecutorModel", "rounds", "I", false)
  | 22 => ("SubflowExecutorModel", "round", "I", false)
  | 23 => ("SubflowExecutorModel", "lost", "I", false)
  | _ => ("SubflowExecutorModel", "steals", "I", false)
def tyR : Nat → FieldType := fun k => match k with
  | 0 => .int
  | 1 => .int
  | 2 => .array .int
  | 3 => .array .int
  | 4 => .array .int
  | 5 => .array .int
  | 6 => .array .int
  | 7 => .array .int
  | 8 => .array .int
  | 9 => .array .int
  | 10 => .array .int
  | 11 => .array .boolean
  | 12 => .array .int
  | 13 => .array .int
  | 14 => .array .boolean
  | 15 => .array .int
  | 16 => .int
  | 17 => .boolean
  | 18 => .boolean
  | 19 => .boolean
  | 20 => .int
  | 21 => .int
  | 22 => .int
  | 23 => .int
  | _ => .int
theorem nmR : ∀ a, a < 25 → ∀ b, b < 25 → a ≠ b → (TR a).2.1 ≠ (TR b).2.1 := by decide +kernel
theorem tyR_ok : ∀ k, k < 25 → parseFieldDescriptor (TR k).2.2.1 = some (tyR k) := by decide +kernel
theorem hiR : ∀ w ∈ u_ws qnR TR 25, w ∈ lw_g := by decide +kernel
theorem inR : Cond.initialized qnR ∈ lw_g := lw_in (List.mem_append_right _ (List.mem_of_getElem? (i := 7) (by decide +kernel))) rfl
def qnA : String := "java/util/Arrays"
theorem inA : Cond.initialized qnA ∈ lw_g := lw_in (List.mem_append_right _ (List.mem_of_getElem? (i := 5) (by decide +kernel))) rfl
def qnH : String := "java/lang/Math"
theorem inH : Cond.initialized qnH ∈ lw_g := lw_in (List.mem_append_right _ (List.mem_of_getElem? (i := 2) (by decide +kernel))) rfl
def qnZ : String := "SubflowExecutorLaw"
theorem inZ : Cond.initialized qnZ ∈ lw_g := lw_in (List.mem_append_right _ (List.mem_of_getElem? (i := 0) (by decide +kernel))) rfl
abbrev cZ_law : ByteArray := code
abbrev vwC : List vw_C := [(qnE, TE, 17), (qnG, TG, 9), (qnL, TL, 2), (qnP, TP, 2), (qnR, TR, 25)]
/-- what a call of an instance method leans on -/
def cbV (y : MethodName) (bytes : ByteArray) (maxL : Nat) (ret : Option FieldType) (n : Nat) : Prop := Cond.instanceMethod y ∈ lw_g ∧ Cond.selects y.cls y y ∈ lw_g ∧ Cond.initialized y.cls ∈ lw_g ∧ Cond.code y bytes maxL ret ∈ lw_g ∧ (y.cls ≠ "java/lang/invoke/MethodHandle" ∧ y.cls ≠ "java/lang/invoke/VarHandle" ∧ (parseMethodDescriptor y.desc).map (fun d => d.parameters.length) = some n)
def cbS (y : MethodName) (bytes : ByteArray) (maxL : Nat) (ret : Option FieldType) (n : Nat) : Prop := Cond.static y ∈ lw_g ∧ Cond.initialized y.cls ∈ lw_g ∧ Cond.code y bytes maxL ret ∈ lw_g ∧ (y.cls ≠ "java/lang/invoke/MethodHandle" ∧ y.cls ≠ "java/lang/invoke/VarHandle" ∧ (parseMethodDescriptor y.desc).map (fun d => d.parameters.length) = some n)
abbrev cE_init : ByteArray := prog_1_method_1_code
def yE_init : MethodName := ⟨qnE, "<init>", "(I)V"⟩
abbrev wE_init : List Cond := Cond.code yE_init cE_init 3 none :: lw_g
abbrev cH_min : ByteArray := prog_7_method_69_code
def yH_min : MethodName := ⟨qnH, "min", "(II)I"⟩
abbrev wH_min : List Cond := Cond.code yH_min cH_min 2 (some .int) :: lw_g
theorem cbH_min : cbS yH_min cH_min 2 (some .int) 2 := ⟨lw_in (List.mem_append_right _ (List.mem_of_getElem? (i := 17) (by decide +kernel))) rfl, inH, lw_in (List.mem_append_right _ (List.mem_of_getElem? (i := 18) (by decide +kernel))) rfl, by decide +kernel, by decide +kernel, by decide +kernel⟩
abbrev cH_max : ByteArray := prog_7_method_65_code
def yH_max : MethodName := ⟨qnH, "max", "(II)I"⟩
abbrev wH_max : List Cond := Cond.code yH_max cH_max 2 (some .int) :: lw_g
theorem cbH_max : cbS yH_max cH_max 2 (some .int) 2 := ⟨lw_in (List.mem_append_right _ (List.mem_of_getElem? (i := 20) (by decide +kernel))) rfl, inH, lw_in (List.mem_append_right _ (List.mem_of_getElem? (i := 21) (by decide +kernel))) rfl, by decide +kernel, by decide +kernel, by decide +kernel⟩
abbrev cG_init : ByteArray := prog_2_method_1_code
def yG_init : MethodName := ⟨qnG, "<init>", "()V"⟩
abbrev wG_init : List Cond := Cond.code yG_init cG_init 1 none :: lw_g
abbrev cP_init : ByteArray := prog_4_method_1_code
def yP_init : MethodName := ⟨qnP, "<init>", "()V"⟩
abbrev wP_init : List Cond := Cond.code yP_init cP_init 1 none :: lw_g
abbrev cA_fill : ByteArray := prog_8_method_103_code
def yA_fill : MethodName := ⟨qnA, "fill", "([II)V"⟩
abbrev wA_fill : List Cond := Cond.code yA_fill cA_fill 4 none :: lw_g
theorem cbA_fill : cbS yA_fill cA_fill 4 none 2 := ⟨lw_in (List.mem_append_right _ (List.mem_of_getElem? (i := 73) (by decide +kernel))) rfl, inA, lw_in (List.mem_append_right _ (List.mem_of_getElem? (i := 74) (by decide +kernel))) rfl, by decide +kernel, by decide +kernel, by decide +kernel⟩
abbrev cL_init : ByteArray := prog_3_method_1_code
def yL_init : MethodName := ⟨qnL, "<init>", "()V"⟩
abbrev wL_init : List Cond := Cond.code yL_init cL_init 1 none :: lw_g
abbrev cE_add : ByteArray := prog_1_method_2_code
def yE_add : MethodName := ⟨qnE, "add", "(III)I"⟩
abbrev wE_add : List Cond := Cond.code yE_add cE_add 4 (some .int) :: lw_g
theorem cbE_add : cbV yE_add cE_add 4 (some .int) 3 := ⟨lw_in (List.mem_append_right _ (List.mem_of_getElem? (i := 155) (by decide +kernel))) rfl, lw_in (List.mem_append_right _ (List.mem_of_getElem? (i := 156) (by decide +kernel))) rfl, inE, lw_in (List.mem_append_right _ (List.mem_of_getElem? (i := 157) (by decide +kernel))) rfl, by decide +kernel, by decide +kernel, by decide +kernel⟩
abbrev cG_takesTask : ByteArray := prog_2_method_5_code
def yG_takesTask : MethodName := ⟨qnG, "takesTask", "(III)Z"⟩
abbrev wG_takesTask : List Cond := Cond.code yG_takesTask cG_takesTask 4 (some .boolean) :: lw_g
theorem cbG_takesTask : cbV yG_takesTask cG_takesTask 4 (some .boolean) 3 := ⟨lw_in (List.mem_append_right _ (List.mem_of_getElem? (i := 159) (by decide +kernel))) rfl, lw_in (List.mem_append_right _ (List.mem_of_getElem? (i := 160) (by decide +kernel))) rfl, inG, lw_in (List.mem_append_right _ (List.mem_of_getElem? (i := 161) (by decide +kernel))) rfl, by decide +kernel, by decide +kernel, by decide +kernel⟩
abbrev cG_isTask : ByteArray := prog_2_method_2_code
def yG_isTask : MethodName := ⟨qnG, "isTask", "(I)Z"⟩
abbrev wG_isTask : List Cond := Cond.code yG_isTask cG_isTask 2 (some .boolean) :: lw_g
theorem cbG_isTask : cbV yG_isTask cG_isTask 2 (some .boolean) 1 := ⟨lw_in (List.mem_append_right _ (List.mem_of_getElem? (i := 163) (by decide +kernel))) rfl, lw_in (List.mem_append_right _ (List.mem_of_getElem? (i := 164) (by decide +kernel))) rfl, inG, lw_in (List.mem_append_right _ (List.mem_of_getElem? (i := 165) (by decide +kernel))) rfl, by decide +kernel, by decide +kernel, by decide +kernel⟩
abbrev cG_canHoldChildren : ByteArray := prog_2_method_4_code
def yG_canHoldChildren : MethodName := ⟨qnG, "canHoldChildren", "(I)Z"⟩
abbrev wG_canHoldChildren : List Cond := Cond.code yG_canHoldChildren cG_canHoldChildren 2 (some .boolean) :: lw_g
theorem cbG_canHoldChildren : cbV yG_canHoldChildren cG_canHoldChildren 2 (some .boolean) 1 := ⟨lw_in (List.mem_append_right _ (List.mem_of_getElem? (i := 167) (by decide +kernel))) rfl, lw_in (List.mem_append_right _ (List.mem_of_getElem? (i := 168) (by decide +kernel))) rfl, inG, lw_in (List.mem_append_right _ (List.mem_of_getElem? (i := 169) (by decide +kernel))) rfl, by decide +kernel, by decide +kernel, by decide +kernel⟩
abbrev cG_addTask : ByteArray := prog_2_method_6_code
def yG_addTask : MethodName := ⟨qnG, "addTask", "(III)I"⟩
abbrev wG_addTask : List Cond := Cond.code yG_addTask cG_addTask 5 (some .int) :: lw_g
theorem cbG_addTask : cbV yG_addTask cG_addTask 5 (some .int) 3 := ⟨lw_in (List.mem_append_right _ (List.mem_of_getElem? (i := 171) (by decide +kernel))) rfl, lw_in (List.mem_append_right _ (List.mem_of_getElem? (i := 172) (by decide +kernel))) rfl, inG, lw_in (List.mem_append_right _ (List.mem_of_getElem? (i := 173) (by decide +kernel))) rfl, by decide +kernel, by decide +kernel, by decide +kernel⟩
abbrev cE_edge : ByteArray := prog_1_method_3_code
def yE_edge : MethodName := ⟨qnE, "edge", "(II)Z"⟩
abbrev wE_edge : List Cond := Cond.code yE_edge cE_edge 3 (some .boolean) :: lw_g
theorem cbE_edge : cbV yE_edge cE_edge 3 (some .boolean) 2 := ⟨lw_in (List.mem_append_right _ (List.mem_of_getElem? (i := 175) (by decide +kernel))) rfl, lw_in (List.mem_append_right _ (List.mem_of_getElem? (i := 176) (by decide +kernel))) rfl, inE, lw_in (List.mem_append_right _ (List.mem_of_getElem? (i := 177) (by decide +kernel))) rfl, by decide +kernel, by decide +kernel, by decide +kernel⟩
abbrev cG_takesEdge : ByteArray := prog_2_method_7_code
def yG_takesEdge : MethodName := ⟨qnG, "takesEdge", "(II)Z"⟩
abbrev wG_takesEdge : List Cond := Cond.code yG_takesEdge cG_takesEdge 3 (some .boolean) :: lw_g
theorem cbG_takesEdge : cbV yG_takesEdge cG_takesEdge 3 (some .boolean) 2 := ⟨lw_in (List.mem_append_right _ (List.mem_of_getElem? (i := 179) (by decide +kernel))) rfl, lw_in (List.mem_append_right _ (List.mem_of_getElem? (i := 180) (by decide +kernel))) rfl, inG, lw_in (List.mem_append_right _ (List.mem_of_getElem? (i := 181) (by decide +kernel))) rfl, by decide +kernel, by decide +kernel, by decide +kernel⟩
abbrev cG_hasEdge : ByteArray := prog_2_method_9_code
def yG_hasEdge : MethodName := ⟨qnG, "hasEdge", "(II)Z"⟩
abbrev wG_hasEdge : List Cond := Cond.code yG_hasEdge cG_hasEdge 4 (some .boolean) :: lw_g
theorem cbG_hasEdge : cbV yG_hasEdge cG_hasEdge 4 (some .boolean) 2 := ⟨lw_in (List.mem_append_right _ (List.mem_of_getElem? (i := 183) (by decide +kernel))) rfl, lw_in (List.mem_append_right _ (List.mem_of_getElem? (i := 184) (by decide +kernel))) rfl, inG, lw_in (List.mem_append_right _ (List.mem_of_getElem? (i := 185) (by decide +kernel))) rfl, by decide +kernel, by decide +kernel, by decide +kernel⟩
abbrev cG_addEdge : ByteArray := prog_2_method_8_code
def yG_addEdge : MethodName := ⟨qnG, "addEdge", "(II)V"⟩
abbrev wG_addEdge : List Cond := Cond.code yG_addEdge cG_addEdge 3 none :: lw_g
theorem cbG_addEdge : cbV yG_addEdge cG_addEdge 3 none 2 := ⟨lw_in (List.mem_append_right _ (List.mem_of_getElem? (i := 187) (by decide +kernel))) rfl, lw_in (List.mem_append_right _ (List.mem_of_getElem? (i := 188) (by decide +kernel))) rfl, inG, lw_in (List.mem_append_right _ (List.mem_of_getElem? (i := 189) (by decide +kernel))) rfl, by decide +kernel, by decide +kernel, by decide +kernel⟩
abbrev cE_capacity : ByteArray := prog_1_method_4_code
def yE_capacity : MethodName := ⟨qnE, "capacity", "(II)Z"⟩
abbrev wE_capacity : List Cond := Cond.code yE_capacity cE_capacity 3 (some .boolean) :: lw_g
theorem cbE_capacity : cbV yE_capacity cE_capacity 3 (some .boolean) 2 := ⟨lw_in (List.mem_append_right _ (List.mem_of_getElem? (i := 191) (by decide +kernel))) rfl, lw_in (List.mem_append_right _ (List.mem_of_getElem? (i := 192) (by decide +kernel))) rfl, inE, lw_in (List.mem_append_right _ (List.mem_of_getElem? (i := 193) (by decide +kernel))) rfl, by decide +kernel, by decide +kernel, by decide +kernel⟩
abbrev cE_isSemaphore : ByteArray := prog_1_method_22_code
def yE_isSemaphore : MethodName := ⟨qnE, "isSemaphore", "(I)Z"⟩
abbrev wE_isSemaphore : List Cond := Cond.code yE_isSemaphore cE_isSemaphore 1 (some .boolean) :: lw_g
theorem cbE_isSemaphore : cbS yE_isSemaphore cE_isSemaphore 1 (some .boolean) 1 := ⟨lw_in (List.mem_append_right _ (List.mem_of_getElem? (i := 195) (by decide +kernel))) rfl, inE, lw_in (List.mem_append_right _ (List.mem_of_getElem? (i := 196) (by decide +kernel))) rfl, by decide +kernel, by decide +kernel, by decide +kernel⟩
abbrev cE_check : ByteArray := prog_1_method_5_code
def yE_check : MethodName := ⟨qnE, "check", "()I"⟩
abbrev wE_check : List Cond := Cond.code yE_check cE_check 1 (some .int) :: lw_g
theorem cbE_check : cbV yE_check cE_check 1 (some .int) 0 := ⟨lw_in (List.mem_append_right _ (List.mem_of_getElem? (i := 198) (by decide +kernel))) rfl, lw_in (List.mem_append_right _ (List.mem_of_getElem? (i := 199) (by decide +kernel))) rfl, inE, lw_in (List.mem_append_right _ (List.mem_of_getElem? (i := 200) (by decide +kernel))) rfl, by decide +kernel, by decide +kernel, by decide +kernel⟩
abbrev cG_hasGroupWithoutSource : ByteArray := prog_2_method_10_code
def yG_hasGroupWithoutSource : MethodName := ⟨qnG, "hasGroupWithoutSource", "()Z"⟩
abbrev wG_hasGroupWithoutSource : List Cond := Cond.code yG_hasGroupWithoutSource cG_hasGroupWithoutSource 2 (some .boolean) :: lw_g
theorem cbG_hasGroupWithoutSource : cbV yG_hasGroupWithoutSource cG_hasGroupWithoutSource 2 (some .boolean) 0 := ⟨lw_in (List.mem_append_right _ (List.mem_of_getElem? (i := 202) (by decide +kernel))) rfl, lw_in (List.mem_append_right _ (List.mem_of_getElem? (i := 203) (by decide +kernel))) rfl, inG, lw_in (List.mem_append_right _ (List.mem_of_getElem? (i := 204) (by decide +kernel))) rfl, by decide +kernel, by decide +kernel, by decide +kernel⟩
abbrev cG_hasSource : ByteArray := prog_2_method_11_code
def yG_hasSource : MethodName := ⟨qnG, "hasSource", "(I)Z"⟩
abbrev wG_hasSource : List Cond := Cond.code yG_hasSource cG_hasSource 3 (some .boolean) :: lw_g
theorem cbG_hasSource : cbV yG_hasSource cG_hasSource 3 (some .boolean) 1 := ⟨lw_in (List.mem_append_right _ (List.mem_of_getElem? (i := 206) (by decide +kernel))) rfl, lw_in (List.mem_append_right _ (List.mem_of_getElem? (i := 207) (by decide +kernel))) rfl, inG, lw_in (List.mem_append_right _ (List.mem_of_getElem? (i := 208) (by decide +kernel))) rfl, by decide +kernel, by decide +kernel, by decide +kernel⟩
abbrev cG_isSource : ByteArray := prog_2_method_3_code
def yG_isSource : MethodName := ⟨qnG, "isSource", "(I)Z"⟩
abbrev wG_isSource : List Cond := Cond.code yG_isSource cG_isSource 2 (some .boolean) :: lw_g
theorem cbG_isSource : cbV yG_isSource cG_isSource 2 (some .boolean) 1 := ⟨lw_in (List.mem_append_right _ (List.mem_of_getElem? (i := 210) (by decide +kernel))) rfl, lw_in (List.mem_append_right _ (List.mem_of_getElem? (i := 211) (by decide +kernel))) rfl, inG, lw_in (List.mem_append_right _ (List.mem_of_getElem? (i := 212) (by decide +kernel))) rfl, by decide +kernel, by decide +kernel, by decide +kernel⟩
abbrev cG_hasStrongCycle : ByteArray := prog_2_method_12_code
def yG_hasStrongCycle : MethodName := ⟨qnG, "hasStrongCycle", "()Z"⟩
abbrev wG_hasStrongCycle : List Cond := Cond.code yG_hasStrongCycle cG_hasStrongCycle 4 (some .boolean) :: lw_g
theorem cbG_hasStrongCycle : cbV yG_hasStrongCycle cG_hasStrongCycle 4 (some .boolean) 0 := ⟨lw_in (List.mem_append_right _ (List.mem_of_getElem? (i := 214) (by decide +kernel))) rfl, lw_in (List.mem_append_right _ (List.mem_of_getElem? (i := 215) (by decide +kernel))) rfl, inG, lw_in (List.mem_append_right _ (List.mem_of_getElem? (i := 216) (by decide +kernel))) rfl, by decide +kernel, by decide +kernel, by decide +kernel⟩
abbrev cG_leadsStronglyInto : ByteArray := prog_2_method_13_code
def yG_leadsStronglyInto : MethodName := ⟨qnG, "leadsStronglyInto", "(II)Z"⟩
abbrev wG_leadsStronglyInto : List Cond := Cond.code yG_leadsStronglyInto cG_leadsStronglyInto 4 (some .boolean) :: lw_g
theorem cbG_leadsStronglyInto : cbV yG_leadsStronglyInto cG_leadsStronglyInto 4 (some .boolean) 2 := ⟨lw_in (List.mem_append_right _ (List.mem_of_getElem? (i := 218) (by decide +kernel))) rfl, lw_in (List.mem_append_right _ (List.mem_of_getElem? (i := 219) (by decide +kernel))) rfl, inG, lw_in (List.mem_append_right _ (List.mem_of_getElem? (i := 220) (by decide +kernel))) rfl, by decide +kernel, by decide +kernel, by decide +kernel⟩
abbrev cE_start : ByteArray := prog_1_method_6_code
def yE_start : MethodName := ⟨qnE, "start", "(I)Z"⟩
abbrev wE_start : List Cond := Cond.code yE_start cE_start 2 (some .boolean) :: lw_g
theorem cbE_start : cbV yE_start cE_start 2 (some .boolean) 1 := ⟨lw_in (List.mem_append_right _ (List.mem_of_getElem? (i := 222) (by decide +kernel))) rfl, lw_in (List.mem_append_right _ (List.mem_of_getElem? (i := 223) (by decide +kernel))) rfl, inE, lw_in (List.mem_append_right _ (List.mem_of_getElem? (i := 224) (by decide +kernel))) rfl, by decide +kernel, by decide +kernel, by decide +kernel⟩
abbrev cE_beginRound : ByteArray := prog_1_method_23_code
def yE_beginRound : MethodName := ⟨qnE, "beginRound", "()V"⟩
abbrev wE_beginRound : List Cond := Cond.code yE_beginRound cE_beginRound 1 none :: lw_g
theorem cbE_beginRound : cbV yE_beginRound cE_beginRound 1 none 0 := ⟨lw_in (List.mem_append_right _ (List.mem_of_getElem? (i := 228) (by decide +kernel))) rfl, lw_in (List.mem_append_left _ (List.mem_of_getElem? (i := 0) (by decide +kernel))) rfl, inE, lw_in (List.mem_append_right _ (List.mem_of_getElem? (i := 229) (by decide +kernel))) rfl, by decide +kernel, by decide +kernel, by decide +kernel⟩
abbrev cE_sendToSources : ByteArray := prog_1_method_27_code
def yE_sendToSources : MethodName := ⟨qnE, "sendToSources", "(II)V"⟩
abbrev wE_sendToSources : List Cond := Cond.code yE_sendToSources cE_sendToSources 4 none :: lw_g
theorem cbE_sendToSources : cbV yE_sendToSources cE_sendToSources 4 none 2 := ⟨lw_in (List.mem_append_right _ (List.mem_of_getElem? (i := 232) (by decide +kernel))) rfl, lw_in (List.mem_append_left _ (List.mem_of_getElem? (i := 1) (by decide +kernel))) rfl, inE, lw_in (List.mem_append_right _ (List.mem_of_getElem? (i := 233) (by decide +kernel))) rfl, by decide +kernel, by decide +kernel, by decide +kernel⟩
abbrev cE_sendToken : ByteArray := prog_1_method_28_code
def yE_sendToken : MethodName := ⟨qnE, "sendToken", "(II)V"⟩
abbrev wE_sendToken : List Cond := Cond.code yE_sendToken cE_sendToken 3 none :: lw_g
theorem cbE_sendToken : cbV yE_sendToken cE_sendToken 3 none 2 := ⟨lw_in (List.mem_append_right _ (List.mem_of_getElem? (i := 237) (by decide +kernel))) rfl, lw_in (List.mem_append_left _ (List.mem_of_getElem? (i := 2) (by decide +kernel))) rfl, inE, lw_in (List.mem_append_right _ (List.mem_of_getElem? (i := 238) (by decide +kernel))) rfl, by decide +kernel, by decide +kernel, by decide +kernel⟩
abbrev cE_makeReady : ByteArray := prog_1_method_29_code
def yE_makeReady : MethodName := ⟨qnE, "makeReady", "(II)V"⟩
abbrev wE_makeReady : List Cond := Cond.code yE_makeReady cE_makeReady 3 none :: lw_g
theorem cbE_makeReady : cbV yE_makeReady cE_makeReady 3 none 2 := ⟨lw_in (List.mem_append_right _ (List.mem_of_getElem? (i := 241) (by decide +kernel))) rfl, lw_in (List.mem_append_left _ (List.mem_of_getElem? (i := 3) (by decide +kernel))) rfl, inE, lw_in (List.mem_append_right _ (List.mem_of_getElem? (i := 242) (by decide +kernel))) rfl, by decide +kernel, by decide +kernel, by decide +kernel⟩
abbrev cL_append : ByteArray := prog_3_method_3_code
def yL_append : MethodName := ⟨qnL, "append", "(I)V"⟩
abbrev wL_append : List Cond := Cond.code yL_append cL_append 2 none :: lw_g
theorem cbL_append : cbV yL_append cL_append 2 none 1 := ⟨lw_in (List.mem_append_right _ (List.mem_of_getElem? (i := 244) (by decide +kernel))) rfl, lw_in (List.mem_append_right _ (List.mem_of_getElem? (i := 245) (by decide +kernel))) rfl, inL, lw_in (List.mem_append_right _ (List.mem_of_getElem? (i := 246) (by decide +kernel))) rfl, by decide +kernel, by decide +kernel, by decide +kernel⟩
abbrev cE_begin : ByteArray := prog_1_method_7_code
def yE_begin : MethodName := ⟨qnE, "begin", "(I)I"⟩
abbrev wE_begin : List Cond := Cond.code yE_begin cE_begin 4 (some .int) :: lw_g
theorem cbE_begin : cbV yE_begin cE_begin 4 (some .int) 1 := ⟨lw_in (List.mem_append_right _ (List.mem_of_getElem? (i := 248) (by decide +kernel))) rfl, lw_in (List.mem_append_right _ (List.mem_of_getElem? (i := 249) (by decide +kernel))) rfl, inE, lw_in (List.mem_append_right _ (List.mem_of_getElem? (i := 250) (by decide +kernel))) rfl, by decide +kernel, by decide +kernel, by decide +kernel⟩
abbrev cE_isWorker : ByteArray := prog_1_method_21_code
def yE_isWorker : MethodName := ⟨qnE, "isWorker", "(I)Z"⟩
abbrev wE_isWorker : List Cond := Cond.code yE_isWorker cE_isWorker 2 (some .boolean) :: lw_g
theorem cbE_isWorker : cbV yE_isWorker cE_isWorker 2 (some .boolean) 1 := ⟨lw_in (List.mem_append_right _ (List.mem_of_getElem? (i := 253) (by decide +kernel))) rfl, lw_in (List.mem_append_left _ (List.mem_of_getElem? (i := 4) (by decide +kernel))) rfl, inE, lw_in (List.mem_append_right _ (List.mem_of_getElem? (i := 254) (by decide +kernel))) rfl, by decide +kernel, by decide +kernel, by decide +kernel⟩
abbrev cE_take : ByteArray := prog_1_method_30_code
def yE_take : MethodName := ⟨qnE, "take", "(I)I"⟩
abbrev wE_take : List Cond := Cond.code yE_take cE_take 2 (some .int) :: lw_g
theorem cbE_take : cbV yE_take cE_take 2 (some .int) 1 := ⟨lw_in (List.mem_append_right _ (List.mem_of_getElem? (i := 257) (by decide +kernel))) rfl, lw_in (List.mem_append_left _ (List.mem_of_getElem? (i := 5) (by decide +kernel))) rfl, inE, lw_in (List.mem_append_right _ (List.mem_of_getElem? (i := 258) (by decide +kernel))) rfl, by decide +kernel, by decide +kernel, by decide +kernel⟩
abbrev cL_takeOut : ByteArray := prog_3_method_4_code
def yL_takeOut : MethodName := ⟨qnL, "takeOut", "(I)I"⟩
abbrev wL_takeOut : List Cond := Cond.code yL_takeOut cL_takeOut 4 (some .int) :: lw_g
theorem cbL_takeOut : cbV yL_takeOut cL_takeOut 4 (some .int) 1 := ⟨lw_in (List.mem_append_right _ (List.mem_of_getElem? (i := 260) (by decide +kernel))) rfl, lw_in (List.mem_append_right _ (List.mem_of_getElem? (i := 261) (by decide +kernel))) rfl, inL, lw_in (List.mem_append_right _ (List.mem_of_getElem? (i := 262) (by decide +kernel))) rfl, by decide +kernel, by decide +kernel, by decide +kernel⟩
abbrev cL_taskAt : ByteArray := prog_3_method_2_code
def yL_taskAt : MethodName := ⟨qnL, "taskAt", "(I)I"⟩
abbrev wL_taskAt : List Cond := Cond.code yL_taskAt cL_taskAt 2 (some .int) :: lw_g
theorem cbL_taskAt : cbV yL_taskAt cL_taskAt 2 (some .int) 1 := ⟨lw_in (List.mem_append_right _ (List.mem_of_getElem? (i := 264) (by decide +kernel))) rfl, lw_in (List.mem_append_right _ (List.mem_of_getElem? (i := 265) (by decide +kernel))) rfl, inL, lw_in (List.mem_append_right _ (List.mem_of_getElem? (i := 266) (by decide +kernel))) rfl, by decide +kernel, by decide +kernel, by decide +kernel⟩
abbrev cE_steal : ByteArray := prog_1_method_31_code
def yE_steal : MethodName := ⟨qnE, "steal", "(I)I"⟩
abbrev wE_steal : List Cond := Cond.code yE_steal cE_steal 4 (some .int) :: lw_g
theorem cbE_steal : cbV yE_steal cE_steal 4 (some .int) 1 := ⟨lw_in (List.mem_append_right _ (List.mem_of_getElem? (i := 269) (by decide +kernel))) rfl, lw_in (List.mem_append_left _ (List.mem_of_getElem? (i := 6) (by decide +kernel))) rfl, inE, lw_in (List.mem_append_right _ (List.mem_of_getElem? (i := 270) (by decide +kernel))) rfl, by decide +kernel, by decide +kernel, by decide +kernel⟩
abbrev cP_areFree : ByteArray := prog_4_method_2_code
def yP_areFree : MethodName := ⟨qnP, "areFree", "(I)Z"⟩
abbrev wP_areFree : List Cond := Cond.code yP_areFree cP_areFree 3 (some .boolean) :: lw_g
theorem cbP_areFree : cbV yP_areFree cP_areFree 3 (some .boolean) 1 := ⟨lw_in (List.mem_append_right _ (List.mem_of_getElem? (i := 272) (by decide +kernel))) rfl, lw_in (List.mem_append_right _ (List.mem_of_getElem? (i := 273) (by decide +kernel))) rfl, inP, lw_in (List.mem_append_right _ (List.mem_of_getElem? (i := 274) (by decide +kernel))) rfl, by decide +kernel, by decide +kernel, by decide +kernel⟩
abbrev cP_isIn : ByteArray := prog_4_method_5_code
def yP_isIn : MethodName := ⟨qnP, "isIn", "(II)Z"⟩
abbrev wP_isIn : List Cond := Cond.code yP_isIn cP_isIn 2 (some .boolean) :: lw_g
theorem cbP_isIn : cbS yP_isIn cP_isIn 2 (some .boolean) 2 := ⟨lw_in (List.mem_append_right _ (List.mem_of_getElem? (i := 276) (by decide +kernel))) rfl, inP, lw_in (List.mem_append_right _ (List.mem_of_getElem? (i := 277) (by decide +kernel))) rfl, by decide +kernel, by decide +kernel, by decide +kernel⟩
abbrev cE_run : ByteArray := prog_1_method_32_code
def yE_run : MethodName := ⟨qnE, "run", "(II)V"⟩
abbrev wE_run : List Cond := Cond.code yE_run cE_run 3 none :: lw_g
theorem cbE_run : cbV yE_run cE_run 3 none 2 := ⟨lw_in (List.mem_append_right _ (List.mem_of_getElem? (i := 280) (by decide +kernel))) rfl, lw_in (List.mem_append_left _ (List.mem_of_getElem? (i := 7) (by decide +kernel))) rfl, inE, lw_in (List.mem_append_right _ (List.mem_of_getElem? (i := 281) (by decide +kernel))) rfl, by decide +kernel, by decide +kernel, by decide +kernel⟩
abbrev cP_hold : ByteArray := prog_4_method_3_code
def yP_hold : MethodName := ⟨qnP, "hold", "(I)V"⟩
abbrev wP_hold : List Cond := Cond.code yP_hold cP_hold 3 none :: lw_g
theorem cbP_hold : cbV yP_hold cP_hold 3 none 1 := ⟨lw_in (List.mem_append_right _ (List.mem_of_getElem? (i := 283) (by decide +kernel))) rfl, lw_in (List.mem_append_right _ (List.mem_of_getElem? (i := 284) (by decide +kernel))) rfl, inP, lw_in (List.mem_append_right _ (List.mem_of_getElem? (i := 285) (by decide +kernel))) rfl, by decide +kernel, by decide +kernel, by decide +kernel⟩
abbrev cE_park : ByteArray := prog_1_method_33_code
def yE_park : MethodName := ⟨qnE, "park", "(I)V"⟩
abbrev wE_park : List Cond := Cond.code yE_park cE_park 2 none :: lw_g
theorem cbE_park : cbV yE_park cE_park 2 none 1 := ⟨lw_in (List.mem_append_right _ (List.mem_of_getElem? (i := 288) (by decide +kernel))) rfl, lw_in (List.mem_append_left _ (List.mem_of_getElem? (i := 8) (by decide +kernel))) rfl, inE, lw_in (List.mem_append_right _ (List.mem_of_getElem? (i := 289) (by decide +kernel))) rfl, by decide +kernel, by decide +kernel, by decide +kernel⟩
abbrev cE_finish : ByteArray := prog_1_method_8_code
def yE_finish : MethodName := ⟨qnE, "finish", "(II)I"⟩
abbrev wE_finish : List Cond := Cond.code yE_finish cE_finish 5 (some .int) :: lw_g
theorem cbE_finish : cbV yE_finish cE_finish 5 (some .int) 2 := ⟨lw_in (List.mem_append_right _ (List.mem_of_getElem? (i := 291) (by decide +kernel))) rfl, lw_in (List.mem_append_right _ (List.mem_of_getElem? (i := 292) (by decide +kernel))) rfl, inE, lw_in (List.mem_append_right _ (List.mem_of_getElem? (i := 293) (by decide +kernel))) rfl, by decide +kernel, by decide +kernel, by decide +kernel⟩
abbrev cE_leaveBody : ByteArray := prog_1_method_34_code
def yE_leaveBody : MethodName := ⟨qnE, "leaveBody", "(I)I"⟩
abbrev wE_leaveBody : List Cond := Cond.code yE_leaveBody cE_leaveBody 3 (some .int) :: lw_g
theorem cbE_leaveBody : cbV yE_leaveBody cE_leaveBody 3 (some .int) 1 := ⟨lw_in (List.mem_append_right _ (List.mem_of_getElem? (i := 296) (by decide +kernel))) rfl, lw_in (List.mem_append_left _ (List.mem_of_getElem? (i := 9) (by decide +kernel))) rfl, inE, lw_in (List.mem_append_right _ (List.mem_of_getElem? (i := 297) (by decide +kernel))) rfl, by decide +kernel, by decide +kernel, by decide +kernel⟩
abbrev cP_giveBack : ByteArray := prog_4_method_4_code
def yP_giveBack : MethodName := ⟨qnP, "giveBack", "(I)V"⟩
abbrev wP_giveBack : List Cond := Cond.code yP_giveBack cP_giveBack 3 none :: lw_g
theorem cbP_giveBack : cbV yP_giveBack cP_giveBack 3 none 1 := ⟨lw_in (List.mem_append_right _ (List.mem_of_getElem? (i := 299) (by decide +kernel))) rfl, lw_in (List.mem_append_right _ (List.mem_of_getElem? (i := 300) (by decide +kernel))) rfl, inP, lw_in (List.mem_append_right _ (List.mem_of_getElem? (i := 301) (by decide +kernel))) rfl, by decide +kernel, by decide +kernel, by decide +kernel⟩
abbrev cE_wakeParked : ByteArray := prog_1_method_35_code
def yE_wakeParked : MethodName := ⟨qnE, "wakeParked", "(I)V"⟩
abbrev wE_wakeParked : List Cond := Cond.code yE_wakeParked cE_wakeParked 5 none :: lw_g
theorem cbE_wakeParked : cbV yE_wakeParked cE_wakeParked 5 none 1 := ⟨lw_in (List.mem_append_right _ (List.mem_of_getElem? (i := 304) (by decide +kernel))) rfl, lw_in (List.mem_append_left _ (List.mem_of_getElem? (i := 10) (by decide +kernel))) rfl, inE, lw_in (List.mem_append_right _ (List.mem_of_getElem? (i := 305) (by decide +kernel))) rfl, by decide +kernel, by decide +kernel, by decide +kernel⟩
abbrev cE_spawn : ByteArray := prog_1_method_36_code
def yE_spawn : MethodName := ⟨qnE, "spawn", "(II)V"⟩
abbrev wE_spawn : List Cond := Cond.code yE_spawn cE_spawn 4 none :: lw_g
theorem cbE_spawn : cbV yE_spawn cE_spawn 4 none 2 := ⟨lw_in (List.mem_append_right _ (List.mem_of_getElem? (i := 309) (by decide +kernel))) rfl, lw_in (List.mem_append_left _ (List.mem_of_getElem? (i := 11) (by decide +kernel))) rfl, inE, lw_in (List.mem_append_right _ (List.mem_of_getElem? (i := 310) (by decide +kernel))) rfl, by decide +kernel, by decide +kernel, by decide +kernel⟩
abbrev cE_hasActiveChild : ByteArray := prog_1_method_26_code
def yE_hasActiveChild : MethodName := ⟨qnE, "hasActiveChild", "(I)Z"⟩
abbrev wE_hasActiveChild : List Cond := Cond.code yE_hasActiveChild cE_hasActiveChild 3 (some .boolean) :: lw_g
theorem cbE_hasActiveChild : cbV yE_hasActiveChild cE_hasActiveChild 3 (some .boolean) 1 := ⟨lw_in (List.mem_append_right _ (List.mem_of_getElem? (i := 313) (by decide +kernel))) rfl, lw_in (List.mem_append_left _ (List.mem_of_getElem? (i := 12) (by decide +kernel))) rfl, inE, lw_in (List.mem_append_right _ (List.mem_of_getElem? (i := 314) (by decide +kernel))) rfl, by decide +kernel, by decide +kernel, by decide +kernel⟩
abbrev cE_endUpwards : ByteArray := prog_1_method_37_code
def yE_endUpwards : MethodName := ⟨qnE, "endUpwards", "(IZII)I"⟩
abbrev wE_endUpwards : List Cond := Cond.code yE_endUpwards cE_endUpwards 9 (some .int) :: lw_g
theorem cbE_endUpwards : cbV yE_endUpwards cE_endUpwards 9 (some .int) 4 := ⟨lw_in (List.mem_append_right _ (List.mem_of_getElem? (i := 317) (by decide +kernel))) rfl, lw_in (List.mem_append_left _ (List.mem_of_getElem? (i := 13) (by decide +kernel))) rfl, inE, lw_in (List.mem_append_right _ (List.mem_of_getElem? (i := 318) (by decide +kernel))) rfl, by decide +kernel, by decide +kernel, by decide +kernel⟩
abbrev cE_passOn : ByteArray := prog_1_method_39_code
def yE_passOn : MethodName := ⟨qnE, "passOn", "(III)V"⟩
abbrev wE_passOn : List Cond := Cond.code yE_passOn cE_passOn 5 none :: lw_g
theorem cbE_passOn : cbV yE_passOn cE_passOn 5 none 3 := ⟨lw_in (List.mem_append_right _ (List.mem_of_getElem? (i := 321) (by decide +kernel))) rfl, lw_in (List.mem_append_left _ (List.mem_of_getElem? (i := 14) (by decide +kernel))) rfl, inE, lw_in (List.mem_append_right _ (List.mem_of_getElem? (i := 322) (by decide +kernel))) rfl, by decide +kernel, by decide +kernel, by decide +kernel⟩
abbrev cE_arrive : ByteArray := prog_1_method_40_code
def yE_arrive : MethodName := ⟨qnE, "arrive", "(II)V"⟩
abbrev wE_arrive : List Cond := Cond.code yE_arrive cE_arrive 3 none :: lw_g
theorem cbE_arrive : cbV yE_arrive cE_arrive 3 none 2 := ⟨lw_in (List.mem_append_right _ (List.mem_of_getElem? (i := 325) (by decide +kernel))) rfl, lw_in (List.mem_append_left _ (List.mem_of_getElem? (i := 15) (by decide +kernel))) rfl, inE, lw_in (List.mem_append_right _ (List.mem_of_getElem? (i := 326) (by decide +kernel))) rfl, by decide +kernel, by decide +kernel, by decide +kernel⟩
abbrev cE_parentThatEnds : ByteArray := prog_1_method_38_code
def yE_parentThatEnds : MethodName := ⟨qnE, "parentThatEnds", "(IZ)I"⟩
abbrev wE_parentThatEnds : List Cond := Cond.code yE_parentThatEnds cE_parentThatEnds 4 (some .int) :: lw_g
theorem cbE_parentThatEnds : cbV yE_parentThatEnds cE_parentThatEnds 4 (some .int) 2 := ⟨lw_in (List.mem_append_right _ (List.mem_of_getElem? (i := 329) (by decide +kernel))) rfl, lw_in (List.mem_append_left _ (List.mem_of_getElem? (i := 16) (by decide +kernel))) rfl, inE, lw_in (List.mem_append_right _ (List.mem_of_getElem? (i := 330) (by decide +kernel))) rfl, by decide +kernel, by decide +kernel, by decide +kernel⟩
abbrev cE_closeRound : ByteArray := prog_1_method_24_code
def yE_closeRound : MethodName := ⟨qnE, "closeRound", "()V"⟩
abbrev wE_closeRound : List Cond := Cond.code yE_closeRound cE_closeRound 1 none :: lw_g
theorem cbE_closeRound : cbV yE_closeRound cE_closeRound 1 none 0 := ⟨lw_in (List.mem_append_right _ (List.mem_of_getElem? (i := 333) (by decide +kernel))) rfl, lw_in (List.mem_append_left _ (List.mem_of_getElem? (i := 17) (by decide +kernel))) rfl, inE, lw_in (List.mem_append_right _ (List.mem_of_getElem? (i := 334) (by decide +kernel))) rfl, by decide +kernel, by decide +kernel, by decide +kernel⟩
abbrev cE_hasActiveTask : ByteArray := prog_1_method_25_code
def yE_hasActiveTask : MethodName := ⟨qnE, "hasActiveTask", "()Z"⟩
abbrev wE_hasActiveTask : List Cond := Cond.code yE_hasActiveTask cE_hasActiveTask 2 (some .boolean) :: lw_g
theorem cbE_hasActiveTask : cbV yE_hasActiveTask cE_hasActiveTask 2 (some .boolean) 0 := ⟨lw_in (List.mem_append_right _ (List.mem_of_getElem? (i := 337) (by decide +kernel))) rfl, lw_in (List.mem_append_left _ (List.mem_of_getElem? (i := 18) (by decide +kernel))) rfl, inE, lw_in (List.mem_append_right _ (List.mem_of_getElem? (i := 338) (by decide +kernel))) rfl, by decide +kernel, by decide +kernel, by decide +kernel⟩
abbrev cE_fail : ByteArray := prog_1_method_9_code
def yE_fail : MethodName := ⟨qnE, "fail", "(I)I"⟩
abbrev wE_fail : List Cond := Cond.code yE_fail cE_fail 4 (some .int) :: lw_g
theorem cbE_fail : cbV yE_fail cE_fail 4 (some .int) 1 := ⟨lw_in (List.mem_append_right _ (List.mem_of_getElem? (i := 340) (by decide +kernel))) rfl, lw_in (List.mem_append_right _ (List.mem_of_getElem? (i := 341) (by decide +kernel))) rfl, inE, lw_in (List.mem_append_right _ (List.mem_of_getElem? (i := 342) (by decide +kernel))) rfl, by decide +kernel, by decide +kernel, by decide +kernel⟩
abbrev cE_cancel : ByteArray := prog_1_method_10_code
def yE_cancel : MethodName := ⟨qnE, "cancel", "()I"⟩
abbrev wE_cancel : List Cond := Cond.code yE_cancel cE_cancel 2 (some .int) :: lw_g
theorem cbE_cancel : cbV yE_cancel cE_cancel 2 (some .int) 0 := ⟨lw_in (List.mem_append_right _ (List.mem_of_getElem? (i := 344) (by decide +kernel))) rfl, lw_in (List.mem_append_right _ (List.mem_of_getElem? (i := 345) (by decide +kernel))) rfl, inE, lw_in (List.mem_append_right _ (List.mem_of_getElem? (i := 346) (by decide +kernel))) rfl, by decide +kernel, by decide +kernel, by decide +kernel⟩
abbrev cE_dropReadyAndParked : ByteArray := prog_1_method_41_code
def yE_dropReadyAndParked : MethodName := ⟨qnE, "dropReadyAndParked", "()I"⟩
abbrev wE_dropReadyAndParked : List Cond := Cond.code yE_dropReadyAndParked cE_dropReadyAndParked 3 (some .int) :: lw_g
theorem cbE_dropReadyAndParked : cbV yE_dropReadyAndParked cE_dropReadyAndParked 3 (some .int) 0 := ⟨lw_in (List.mem_append_right _ (List.mem_of_getElem? (i := 349) (by decide +kernel))) rfl, lw_in (List.mem_append_left _ (List.mem_of_getElem? (i := 19) (by decide +kernel))) rfl, inE, lw_in (List.mem_append_right _ (List.mem_of_getElem? (i := 350) (by decide +kernel))) rfl, by decide +kernel, by decide +kernel, by decide +kernel⟩
abbrev cE_endChildlessWaiting : ByteArray := prog_1_method_42_code
def yE_endChildlessWaiting : MethodName := ⟨qnE, "endChildlessWaiting", "()V"⟩
abbrev wE_endChildlessWaiting : List Cond := Cond.code yE_endChildlessWaiting cE_endChildlessWaiting 2 none :: lw_g
theorem cbE_endChildlessWaiting : cbV yE_endChildlessWaiting cE_endChildlessWaiting 2 none 0 := ⟨lw_in (List.mem_append_right _ (List.mem_of_getElem? (i := 353) (by decide +kernel))) rfl, lw_in (List.mem_append_left _ (List.mem_of_getElem? (i := 20) (by decide +kernel))) rfl, inE, lw_in (List.mem_append_right _ (List.mem_of_getElem? (i := 354) (by decide +kernel))) rfl, by decide +kernel, by decide +kernel, by decide +kernel⟩
abbrev cE_state : ByteArray := prog_1_method_11_code
def yE_state : MethodName := ⟨qnE, "state", "()I"⟩
abbrev wE_state : List Cond := Cond.code yE_state cE_state 1 (some .int) :: lw_g
theorem cbE_state : cbV yE_state cE_state 1 (some .int) 0 := ⟨lw_in (List.mem_append_right _ (List.mem_of_getElem? (i := 356) (by decide +kernel))) rfl, lw_in (List.mem_append_right _ (List.mem_of_getElem? (i := 357) (by decide +kernel))) rfl, inE, lw_in (List.mem_append_right _ (List.mem_of_getElem? (i := 358) (by decide +kernel))) rfl, by decide +kernel, by decide +kernel, by decide +kernel⟩
abbrev cE_thrower : ByteArray := prog_1_method_12_code
def yE_thrower : MethodName := ⟨qnE, "thrower", "()I"⟩
abbrev wE_thrower : List Cond := Cond.code yE_thrower cE_thrower 1 (some .int) :: lw_g
theorem cbE_thrower : cbV yE_thrower cE_thrower 1 (some .int) 0 := ⟨lw_in (List.mem_append_right _ (List.mem_of_getElem? (i := 360) (by decide +kernel))) rfl, lw_in (List.mem_append_right _ (List.mem_of_getElem? (i := 361) (by decide +kernel))) rfl, inE, lw_in (List.mem_append_right _ (List.mem_of_getElem? (i := 362) (by decide +kernel))) rfl, by decide +kernel, by decide +kernel, by decide +kernel⟩
abbrev cE_round : ByteArray := prog_1_method_13_code
def yE_round : MethodName := ⟨qnE, "round", "()I"⟩
abbrev wE_round : List Cond := Cond.code yE_round cE_round 1 (some .int) :: lw_g
theorem cbE_round : cbV yE_round cE_round 1 (some .int) 0 := ⟨lw_in (List.mem_append_right _ (List.mem_of_getElem? (i := 364) (by decide +kernel))) rfl, lw_in (List.mem_append_right _ (List.mem_of_getElem? (i := 365) (by decide +kernel))) rfl, inE, lw_in (List.mem_append_right _ (List.mem_of_getElem? (i := 366) (by decide +kernel))) rfl, by decide +kernel, by decide +kernel, by decide +kernel⟩
abbrev cE_lost : ByteArray := prog_1_method_14_code
def yE_lost : MethodName := ⟨qnE, "lost", "()I"⟩
abbrev wE_lost : List Cond := Cond.code yE_lost cE_lost 1 (some .int) :: lw_g
theorem cbE_lost : cbV yE_lost cE_lost 1 (some .int) 0 := ⟨lw_in (List.mem_append_right _ (List.mem_of_getElem? (i := 368) (by decide +kernel))) rfl, lw_in (List.mem_append_right _ (List.mem_of_getElem? (i := 369) (by decide +kernel))) rfl, inE, lw_in (List.mem_append_right _ (List.mem_of_getElem? (i := 370) (by decide +kernel))) rfl, by decide +kernel, by decide +kernel, by decide +kernel⟩
abbrev cE_steals : ByteArray := prog_1_method_15_code
def yE_steals : MethodName := ⟨qnE, "steals", "()I"⟩
abbrev wE_steals : List Cond := Cond.code yE_steals cE_steals 1 (some .int) :: lw_g
theorem cbE_steals : cbV yE_steals cE_steals 1 (some .int) 0 := ⟨lw_in (List.mem_append_right _ (List.mem_of_getElem? (i := 372) (by decide +kernel))) rfl, lw_in (List.mem_append_right _ (List.mem_of_getElem? (i := 373) (by decide +kernel))) rfl, inE, lw_in (List.mem_append_right _ (List.mem_of_getElem? (i := 374) (by decide +kernel))) rfl, by decide +kernel, by decide +kernel, by decide +kernel⟩
abbrev cE_runs : ByteArray := prog_1_method_16_code
def yE_runs : MethodName := ⟨qnE, "runs", "(I)I"⟩
abbrev wE_runs : List Cond := Cond.code yE_runs cE_runs 2 (some .int) :: lw_g
theorem cbE_runs : cbV yE_runs cE_runs 2 (some .int) 1 := ⟨lw_in (List.mem_append_right _ (List.mem_of_getElem? (i := 376) (by decide +kernel))) rfl, lw_in (List.mem_append_right _ (List.mem_of_getElem? (i := 377) (by decide +kernel))) rfl, inE, lw_in (List.mem_append_right _ (List.mem_of_getElem? (i := 378) (by decide +kernel))) rfl, by decide +kernel, by decide +kernel, by decide +kernel⟩
abbrev cE_arrivals : ByteArray := prog_1_method_17_code
def yE_arrivals : MethodName := ⟨qnE, "arrivals", "(I)I"⟩
abbrev wE_arrivals : List Cond := Cond.code yE_arrivals cE_arrivals 2 (some .int) :: lw_g
theorem cbE_arrivals : cbV yE_arrivals cE_arrivals 2 (some .int) 1 := ⟨lw_in (List.mem_append_right _ (List.mem_of_getElem? (i := 381) (by decide +kernel))) rfl, lw_in (List.mem_append_right _ (List.mem_of_getElem? (i := 382) (by decide +kernel))) rfl, inE, lw_in (List.mem_append_right _ (List.mem_of_getElem? (i := 383) (by decide +kernel))) rfl, by decide +kernel, by decide +kernel, by decide +kernel⟩
abbrev cE_where : ByteArray := prog_1_method_18_code
def yE_where : MethodName := ⟨qnE, "where", "(I)I"⟩
abbrev wE_where : List Cond := Cond.code yE_where cE_where 2 (some .int) :: lw_g
theorem cbE_where : cbV yE_where cE_where 2 (some .int) 1 := ⟨lw_in (List.mem_append_right _ (List.mem_of_getElem? (i := 385) (by decide +kernel))) rfl, lw_in (List.mem_append_right _ (List.mem_of_getElem? (i := 386) (by decide +kernel))) rfl, inE, lw_in (List.mem_append_right _ (List.mem_of_getElem? (i := 387) (by decide +kernel))) rfl, by decide +kernel, by decide +kernel, by decide +kernel⟩
abbrev cE_lineAt : ByteArray := prog_1_method_19_code
def yE_lineAt : MethodName := ⟨qnE, "lineAt", "(II)I"⟩
abbrev wE_lineAt : List Cond := Cond.code yE_lineAt cE_lineAt 3 (some .int) :: lw_g
theorem cbE_lineAt : cbV yE_lineAt cE_lineAt 3 (some .int) 2 := ⟨lw_in (List.mem_append_right _ (List.mem_of_getElem? (i := 389) (by decide +kernel))) rfl, lw_in (List.mem_append_right _ (List.mem_of_getElem? (i := 390) (by decide +kernel))) rfl, inE, lw_in (List.mem_append_right _ (List.mem_of_getElem? (i := 391) (by decide +kernel))) rfl, by decide +kernel, by decide +kernel, by decide +kernel⟩
abbrev cE_held : ByteArray := prog_1_method_20_code
def yE_held : MethodName := ⟨qnE, "held", "(I)I"⟩
abbrev wE_held : List Cond := Cond.code yE_held cE_held 2 (some .int) :: lw_g
theorem cbE_held : cbV yE_held cE_held 2 (some .int) 1 := ⟨lw_in (List.mem_append_right _ (List.mem_of_getElem? (i := 394) (by decide +kernel))) rfl, lw_in (List.mem_append_right _ (List.mem_of_getElem? (i := 395) (by decide +kernel))) rfl, inE, lw_in (List.mem_append_right _ (List.mem_of_getElem? (i := 396) (by decide +kernel))) rfl, by decide +kernel, by decide +kernel, by decide +kernel⟩
abbrev cZ_cell : ByteArray := method_2_code
def yZ_cell : MethodName := ⟨qnZ, "cell", "([II)I"⟩
abbrev wZ_cell : List Cond := Cond.code yZ_cell cZ_cell 2 (some .int) :: lw_g
theorem cbZ_cell : cbS yZ_cell cZ_cell 2 (some .int) 2 := ⟨lw_in (List.mem_append_right _ (List.mem_of_getElem? (i := 398) (by decide +kernel))) rfl, inZ, lw_in (List.mem_append_right _ (List.mem_of_getElem? (i := 399) (by decide +kernel))) rfl, by decide +kernel, by decide +kernel, by decide +kernel⟩
abbrev cR_init : ByteArray := prog_6_method_1_code
def yR_init : MethodName := ⟨qnR, "<init>", "(I)V"⟩
abbrev wR_init : List Cond := Cond.code yR_init cR_init 2 none :: lw_g
abbrev cR_add : ByteArray := prog_6_method_3_code
def yR_add : MethodName := ⟨qnR, "add", "(III)I"⟩
abbrev wR_add : List Cond := Cond.code yR_add cR_add 5 (some .int) :: lw_g
theorem cbR_add : cbV yR_add cR_add 5 (some .int) 3 := ⟨lw_in (List.mem_append_right _ (List.mem_of_getElem? (i := 483) (by decide +kernel))) rfl, lw_in (List.mem_append_right _ (List.mem_of_getElem? (i := 484) (by decide +kernel))) rfl, inR, lw_in (List.mem_append_right _ (List.mem_of_getElem? (i := 485) (by decide +kernel))) rfl, by decide +kernel, by decide +kernel, by decide +kernel⟩
abbrev cR_isTask : ByteArray := prog_6_method_2_code
def yR_isTask : MethodName := ⟨qnR, "isTask", "(I)Z"⟩
abbrev wR_isTask : List Cond := Cond.code yR_isTask cR_isTask 2 (some .boolean) :: lw_g
theorem cbR_isTask : cbV yR_isTask cR_isTask 2 (some .boolean) 1 := ⟨lw_in (List.mem_append_right _ (List.mem_of_getElem? (i := 488) (by decide +kernel))) rfl, lw_in (List.mem_append_left _ (List.mem_of_getElem? (i := 21) (by decide +kernel))) rfl, inR, lw_in (List.mem_append_right _ (List.mem_of_getElem? (i := 489) (by decide +kernel))) rfl, by decide +kernel, by decide +kernel, by decide +kernel⟩
abbrev cR_edge : ByteArray := prog_6_method_5_code
def yR_edge : MethodName := ⟨qnR, "edge", "(II)Z"⟩
abbrev wR_edge : List Cond := Cond.code yR_edge cR_edge 3 (some .boolean) :: lw_g
theorem cbR_edge : cbV yR_edge cR_edge 3 (some .boolean) 2 := ⟨lw_in (List.mem_append_right _ (List.mem_of_getElem? (i := 491) (by decide +kernel))) rfl, lw_in (List.mem_append_right _ (List.mem_of_getElem? (i := 492) (by decide +kernel))) rfl, inR, lw_in (List.mem_append_right _ (List.mem_of_getElem? (i := 493) (by decide +kernel))) rfl, by decide +kernel, by decide +kernel, by decide +kernel⟩
abbrev cR_edges : ByteArray := prog_6_method_4_code
def yR_edges : MethodName := ⟨qnR, "edges", "(II)I"⟩
abbrev wR_edges : List Cond := Cond.code yR_edges cR_edges 5 (some .int) :: lw_g
theorem cbR_edges : cbV yR_edges cR_edges 5 (some .int) 2 := ⟨lw_in (List.mem_append_right _ (List.mem_of_getElem? (i := 496) (by decide +kernel))) rfl, lw_in (List.mem_append_left _ (List.mem_of_getElem? (i := 22) (by decide +kernel))) rfl, inR, lw_in (List.mem_append_right _ (List.mem_of_getElem? (i := 497) (by decide +kernel))) rfl, by decide +kernel, by decide +kernel, by decide +kernel⟩
abbrev cR_capacity : ByteArray := prog_6_method_6_code
def yR_capacity : MethodName := ⟨qnR, "capacity", "(II)Z"⟩
abbrev wR_capacity : List Cond := Cond.code yR_capacity cR_capacity 3 (some .boolean) :: lw_g
theorem cbR_capacity : cbV yR_capacity cR_capacity 3 (some .boolean) 2 := ⟨lw_in (List.mem_append_right _ (List.mem_of_getElem? (i := 499) (by decide +kernel))) rfl, lw_in (List.mem_append_right _ (List.mem_of_getElem? (i := 500) (by decide +kernel))) rfl, inR, lw_in (List.mem_append_right _ (List.mem_of_getElem? (i := 501) (by decide +kernel))) rfl, by decide +kernel, by decide +kernel, by decide +kernel⟩
abbrev cR_check : ByteArray := prog_6_method_10_code
def yR_check : MethodName := ⟨qnR, "check", "()I"⟩
abbrev wR_check : List Cond := Cond.code yR_check cR_check 2 (some .int) :: lw_g
theorem cbR_check : cbV yR_check cR_check 2 (some .int) 0 := ⟨lw_in (List.mem_append_right _ (List.mem_of_getElem? (i := 503) (by decide +kernel))) rfl, lw_in (List.mem_append_right _ (List.mem_of_getElem? (i := 504) (by decide +kernel))) rfl, inR, lw_in (List.mem_append_right _ (List.mem_of_getElem? (i := 505) (by decide +kernel))) rfl, by decide +kernel, by decide +kernel, by decide +kernel⟩
abbrev cR_groupHasSource : ByteArray := prog_6_method_8_code
def yR_groupHasSource : MethodName := ⟨qnR, "groupHasSource", "(I)Z"⟩
abbrev wR_groupHasSource : List Cond := Cond.code yR_groupHasSource cR_groupHasSource 4 (some .boolean) :: lw_g
theorem cbR_groupHasSource : cbV yR_groupHasSource cR_groupHasSource 4 (some .boolean) 1 := ⟨lw_in (List.mem_append_right _ (List.mem_of_getElem? (i := 508) (by decide +kernel))) rfl, lw_in (List.mem_append_left _ (List.mem_of_getElem? (i := 23) (by decide +kernel))) rfl, inR, lw_in (List.mem_append_right _ (List.mem_of_getElem? (i := 509) (by decide +kernel))) rfl, by decide +kernel, by decide +kernel, by decide +kernel⟩
abbrev cR_into : ByteArray := prog_6_method_7_code
def yR_into : MethodName := ⟨qnR, "into", "(IZ)I"⟩
abbrev wR_into : List Cond := Cond.code yR_into cR_into 5 (some .int) :: lw_g
theorem cbR_into : cbV yR_into cR_into 5 (some .int) 2 := ⟨lw_in (List.mem_append_right _ (List.mem_of_getElem? (i := 512) (by decide +kernel))) rfl, lw_in (List.mem_append_left _ (List.mem_of_getElem? (i := 24) (by decide +kernel))) rfl, inR, lw_in (List.mem_append_right _ (List.mem_of_getElem? (i := 513) (by decide +kernel))) rfl, by decide +kernel, by decide +kernel, by decide +kernel⟩
abbrev cR_circle : ByteArray := prog_6_method_9_code
def yR_circle : MethodName := ⟨qnR, "circle", "()Z"⟩
abbrev wR_circle : List Cond := Cond.code yR_circle cR_circle 5 (some .boolean) :: lw_g
theorem cbR_circle : cbV yR_circle cR_circle 5 (some .boolean) 0 := ⟨lw_in (List.mem_append_right _ (List.mem_of_getElem? (i := 516) (by decide +kernel))) rfl, lw_in (List.mem_append_left _ (List.mem_of_getElem? (i := 25) (by decide +kernel))) rfl, inR, lw_in (List.mem_append_right _ (List.mem_of_getElem? (i := 517) (by decide +kernel))) rfl, by decide +kernel, by decide +kernel, by decide +kernel⟩
abbrev cR_start : ByteArray := prog_6_method_18_code
def yR_start : MethodName := ⟨qnR, "start", "(I)Z"⟩
abbrev wR_start : List Cond := Cond.code yR_start cR_start 3 (some .boolean) :: lw_g
theorem cbR_start : cbV yR_start cR_start 3 (some .boolean) 1 := ⟨lw_in (List.mem_append_right _ (List.mem_of_getElem? (i := 519) (by decide +kernel))) rfl, lw_in (List.mem_append_right _ (List.mem_of_getElem? (i := 520) (by decide +kernel))) rfl, inR, lw_in (List.mem_append_right _ (List.mem_of_getElem? (i := 521) (by decide +kernel))) rfl, by decide +kernel, by decide +kernel, by decide +kernel⟩
abbrev cR_nextRound : ByteArray := prog_6_method_14_code
def yR_nextRound : MethodName := ⟨qnR, "nextRound", "()V"⟩
abbrev wR_nextRound : List Cond := Cond.code yR_nextRound cR_nextRound 2 none :: lw_g
theorem cbR_nextRound : cbV yR_nextRound cR_nextRound 2 none 0 := ⟨lw_in (List.mem_append_right _ (List.mem_of_getElem? (i := 525) (by decide +kernel))) rfl, lw_in (List.mem_append_left _ (List.mem_of_getElem? (i := 26) (by decide +kernel))) rfl, inR, lw_in (List.mem_append_right _ (List.mem_of_getElem? (i := 526) (by decide +kernel))) rfl, by decide +kernel, by decide +kernel, by decide +kernel⟩
abbrev cR_wake : ByteArray := prog_6_method_13_code
def yR_wake : MethodName := ⟨qnR, "wake", "(II)V"⟩
abbrev wR_wake : List Cond := Cond.code yR_wake cR_wake 4 none :: lw_g
theorem cbR_wake : cbV yR_wake cR_wake 4 none 2 := ⟨lw_in (List.mem_append_right _ (List.mem_of_getElem? (i := 529) (by decide +kernel))) rfl, lw_in (List.mem_append_left _ (List.mem_of_getElem? (i := 27) (by decide +kernel))) rfl, inR, lw_in (List.mem_append_right _ (List.mem_of_getElem? (i := 530) (by decide +kernel))) rfl, by decide +kernel, by decide +kernel, by decide +kernel⟩
abbrev cR_token : ByteArray := prog_6_method_11_code
def yR_token : MethodName := ⟨qnR, "token", "(II)V"⟩
abbrev wR_token : List Cond := Cond.code yR_token cR_token 3 none :: lw_g
theorem cbR_token : cbV yR_token cR_token 3 none 2 := ⟨lw_in (List.mem_append_right _ (List.mem_of_getElem? (i := 533) (by decide +kernel))) rfl, lw_in (List.mem_append_left _ (List.mem_of_getElem? (i := 28) (by decide +kernel))) rfl, inR, lw_in (List.mem_append_right _ (List.mem_of_getElem? (i := 534) (by decide +kernel))) rfl, by decide +kernel, by decide +kernel, by decide +kernel⟩
abbrev cR_ready : ByteArray := prog_6_method_12_code
def yR_ready : MethodName := ⟨qnR, "ready", "(II)V"⟩
abbrev wR_ready : List Cond := Cond.code yR_ready cR_ready 3 none :: lw_g
theorem cbR_ready : cbV yR_ready cR_ready 3 none 2 := ⟨lw_in (List.mem_append_right _ (List.mem_of_getElem? (i := 537) (by decide +kernel))) rfl, lw_in (List.mem_append_left _ (List.mem_of_getElem? (i := 29) (by decide +kernel))) rfl, inR, lw_in (List.mem_append_right _ (List.mem_of_getElem? (i := 538) (by decide +kernel))) rfl, by decide +kernel, by decide +kernel, by decide +kernel⟩
abbrev cR_begin : ByteArray := prog_6_method_21_code
def yR_begin : MethodName := ⟨qnR, "begin", "(I)I"⟩
abbrev wR_begin : List Cond := Cond.code yR_begin cR_begin 4 (some .int) :: lw_g
theorem cbR_begin : cbV yR_begin cR_begin 4 (some .int) 1 := ⟨lw_in (List.mem_append_right _ (List.mem_of_getElem? (i := 540) (by decide +kernel))) rfl, lw_in (List.mem_append_right _ (List.mem_of_getElem? (i := 541) (by decide +kernel))) rfl, inR, lw_in (List.mem_append_right _ (List.mem_of_getElem? (i := 542) (by decide +kernel))) rfl, by decide +kernel, by decide +kernel, by decide +kernel⟩
abbrev cR_running : ByteArray := prog_6_method_16_code
def yR_running : MethodName := ⟨qnR, "running", "(I)I"⟩
abbrev wR_running : List Cond := Cond.code yR_running cR_running 4 (some .int) :: lw_g
theorem cbR_running : cbV yR_running cR_running 4 (some .int) 1 := ⟨lw_in (List.mem_append_right _ (List.mem_of_getElem? (i := 545) (by decide +kernel))) rfl, lw_in (List.mem_append_left _ (List.mem_of_getElem? (i := 30) (by decide +kernel))) rfl, inR, lw_in (List.mem_append_right _ (List.mem_of_getElem? (i := 546) (by decide +kernel))) rfl, by decide +kernel, by decide +kernel, by decide +kernel⟩
abbrev cR_take : ByteArray := prog_6_method_19_code
def yR_take : MethodName := ⟨qnR, "take", "(I)I"⟩
abbrev wR_take : List Cond := Cond.code yR_take cR_take 4 (some .int) :: lw_g
theorem cbR_take : cbV yR_take cR_take 4 (some .int) 1 := ⟨lw_in (List.mem_append_right _ (List.mem_of_getElem? (i := 549) (by decide +kernel))) rfl, lw_in (List.mem_append_left _ (List.mem_of_getElem? (i := 31) (by decide +kernel))) rfl, inR, lw_in (List.mem_append_right _ (List.mem_of_getElem? (i := 550) (by decide +kernel))) rfl, by decide +kernel, by decide +kernel, by decide +kernel⟩
abbrev cR_endOf : ByteArray := prog_6_method_15_code
def yR_endOf : MethodName := ⟨qnR, "endOf", "(IZ)I"⟩
abbrev wR_endOf : List Cond := Cond.code yR_endOf cR_endOf 6 (some .int) :: lw_g
theorem cbR_endOf : cbV yR_endOf cR_endOf 6 (some .int) 2 := ⟨lw_in (List.mem_append_right _ (List.mem_of_getElem? (i := 553) (by decide +kernel))) rfl, lw_in (List.mem_append_left _ (List.mem_of_getElem? (i := 32) (by decide +kernel))) rfl, inR, lw_in (List.mem_append_right _ (List.mem_of_getElem? (i := 554) (by decide +kernel))) rfl, by decide +kernel, by decide +kernel, by decide +kernel⟩
abbrev cR_unitsFor : ByteArray := prog_6_method_20_code
def yR_unitsFor : MethodName := ⟨qnR, "unitsFor", "(I)Z"⟩
abbrev wR_unitsFor : List Cond := Cond.code yR_unitsFor cR_unitsFor 5 (some .boolean) :: lw_g
theorem cbR_unitsFor : cbV yR_unitsFor cR_unitsFor 5 (some .boolean) 1 := ⟨lw_in (List.mem_append_right _ (List.mem_of_getElem? (i := 557) (by decide +kernel))) rfl, lw_in (List.mem_append_left _ (List.mem_of_getElem? (i := 33) (by decide +kernel))) rfl, inR, lw_in (List.mem_append_right _ (List.mem_of_getElem? (i := 558) (by decide +kernel))) rfl, by decide +kernel, by decide +kernel, by decide +kernel⟩
abbrev cR_held : ByteArray := prog_6_method_38_code
def yR_held : MethodName := ⟨qnR, "held", "(I)I"⟩
abbrev wR_held : List Cond := Cond.code yR_held cR_held 4 (some .int) :: lw_g
theorem cbR_held : cbV yR_held cR_held 4 (some .int) 1 := ⟨lw_in (List.mem_append_right _ (List.mem_of_getElem? (i := 560) (by decide +kernel))) rfl, lw_in (List.mem_append_right _ (List.mem_of_getElem? (i := 561) (by decide +kernel))) rfl, inR, lw_in (List.mem_append_right _ (List.mem_of_getElem? (i := 562) (by decide +kernel))) rfl, by decide +kernel, by decide +kernel, by decide +kernel⟩
abbrev cR_finish : ByteArray := prog_6_method_26_code
def yR_finish : MethodName := ⟨qnR, "finish", "(II)I"⟩
abbrev wR_finish : List Cond := Cond.code yR_finish cR_finish 5 (some .int) :: lw_g
theorem cbR_finish : cbV yR_finish cR_finish 5 (some .int) 2 := ⟨lw_in (List.mem_append_right _ (List.mem_of_getElem? (i := 564) (by decide +kernel))) rfl, lw_in (List.mem_append_right _ (List.mem_of_getElem? (i := 565) (by decide +kernel))) rfl, inR, lw_in (List.mem_append_right _ (List.mem_of_getElem? (i := 566) (by decide +kernel))) rfl, by decide +kernel, by decide +kernel, by decide +kernel⟩
abbrev cR_release : ByteArray := prog_6_method_22_code
def yR_release : MethodName := ⟨qnR, "release", "(I)V"⟩
abbrev wR_release : List Cond := Cond.code yR_release cR_release 6 none :: lw_g
theorem cbR_release : cbV yR_release cR_release 6 none 1 := ⟨lw_in (List.mem_append_right _ (List.mem_of_getElem? (i := 569) (by decide +kernel))) rfl, lw_in (List.mem_append_left _ (List.mem_of_getElem? (i := 34) (by decide +kernel))) rfl, inR, lw_in (List.mem_append_right _ (List.mem_of_getElem? (i := 570) (by decide +kernel))) rfl, by decide +kernel, by decide +kernel, by decide +kernel⟩
abbrev cR_activeChild : ByteArray := prog_6_method_17_code
def yR_activeChild : MethodName := ⟨qnR, "activeChild", "(I)Z"⟩
abbrev wR_activeChild : List Cond := Cond.code yR_activeChild cR_activeChild 4 (some .boolean) :: lw_g
theorem cbR_activeChild : cbV yR_activeChild cR_activeChild 4 (some .boolean) 1 := ⟨lw_in (List.mem_append_right _ (List.mem_of_getElem? (i := 573) (by decide +kernel))) rfl, lw_in (List.mem_append_left _ (List.mem_of_getElem? (i := 35) (by decide +kernel))) rfl, inR, lw_in (List.mem_append_right _ (List.mem_of_getElem? (i := 574) (by decide +kernel))) rfl, by decide +kernel, by decide +kernel, by decide +kernel⟩
abbrev cR_end : ByteArray := prog_6_method_24_code
def yR_end : MethodName := ⟨qnR, "end", "(IIIZ)I"⟩
abbrev wR_end : List Cond := Cond.code yR_end cR_end 10 (some .int) :: lw_g
theorem cbR_end : cbV yR_end cR_end 10 (some .int) 4 := ⟨lw_in (List.mem_append_right _ (List.mem_of_getElem? (i := 577) (by decide +kernel))) rfl, lw_in (List.mem_append_left _ (List.mem_of_getElem? (i := 36) (by decide +kernel))) rfl, inR, lw_in (List.mem_append_right _ (List.mem_of_getElem? (i := 578) (by decide +kernel))) rfl, by decide +kernel, by decide +kernel, by decide +kernel⟩
abbrev cR_pass : ByteArray := prog_6_method_23_code
def yR_pass : MethodName := ⟨qnR, "pass", "(III)V"⟩
abbrev wR_pass : List Cond := Cond.code yR_pass cR_pass 6 none :: lw_g
theorem cbR_pass : cbV yR_pass cR_pass 6 none 3 := ⟨lw_in (List.mem_append_right _ (List.mem_of_getElem? (i := 581) (by decide +kernel))) rfl, lw_in (List.mem_append_left _ (List.mem_of_getElem? (i := 37) (by decide +kernel))) rfl, inR, lw_in (List.mem_append_right _ (List.mem_of_getElem? (i := 582) (by decide +kernel))) rfl, by decide +kernel, by decide +kernel, by decide +kernel⟩
abbrev cR_settle : ByteArray := prog_6_method_25_code
def yR_settle : MethodName := ⟨qnR, "settle", "()V"⟩
abbrev wR_settle : List Cond := Cond.code yR_settle cR_settle 3 none :: lw_g
theorem cbR_settle : cbV yR_settle cR_settle 3 none 0 := ⟨lw_in (List.mem_append_right _ (List.mem_of_getElem? (i := 585) (by decide +kernel))) rfl, lw_in (List.mem_append_left _ (List.mem_of_getElem? (i := 38) (by decide +kernel))) rfl, inR, lw_in (List.mem_append_right _ (List.mem_of_getElem? (i := 586) (by decide +kernel))) rfl, by decide +kernel, by decide +kernel, by decide +kernel⟩
abbrev cR_fail : ByteArray := prog_6_method_27_code
def yR_fail : MethodName := ⟨qnR, "fail", "(I)I"⟩
abbrev wR_fail : List Cond := Cond.code yR_fail cR_fail 4 (some .int) :: lw_g
theorem cbR_fail : cbV yR_fail cR_fail 4 (some .int) 1 := ⟨lw_in (List.mem_append_right _ (List.mem_of_getElem? (i := 588) (by decide +kernel))) rfl, lw_in (List.mem_append_right _ (List.mem_of_getElem? (i := 589) (by decide +kernel))) rfl, inR, lw_in (List.mem_append_right _ (List.mem_of_getElem? (i := 590) (by decide +kernel))) rfl, by decide +kernel, by decide +kernel, by decide +kernel⟩
abbrev cR_cancel : ByteArray := prog_6_method_28_code
def yR_cancel : MethodName := ⟨qnR, "cancel", "()I"⟩
abbrev wR_cancel : List Cond := Cond.code yR_cancel cR_cancel 4 (some .int) :: lw_g
theorem cbR_cancel : cbV yR_cancel cR_cancel 4 (some .int) 0 := ⟨lw_in (List.mem_append_right _ (List.mem_of_getElem? (i := 592) (by decide +kernel))) rfl, lw_in (List.mem_append_right _ (List.mem_of_getElem? (i := 593) (by decide +kernel))) rfl, inR, lw_in (List.mem_append_right _ (List.mem_of_getElem? (i := 594) (by decide +kernel))) rfl, by decide +kernel, by decide +kernel, by decide +kernel⟩
abbrev cR_state : ByteArray := prog_6_method_29_code
def yR_state : MethodName := ⟨qnR, "state", "()I"⟩
abbrev wR_state : List Cond := Cond.code yR_state cR_state 1 (some .int) :: lw_g
theorem cbR_state : cbV yR_state cR_state 1 (some .int) 0 := ⟨lw_in (List.mem_append_right _ (List.mem_of_getElem? (i := 596) (by decide +kernel))) rfl, lw_in (List.mem_append_right _ (List.mem_of_getElem? (i := 597) (by decide +kernel))) rfl, inR, lw_in (List.mem_append_right _ (List.mem_of_getElem? (i := 598) (by decide +kernel))) rfl, by decide +kernel, by decide +kernel, by decide +kernel⟩
abbrev cR_thrower : ByteArray := prog_6_method_30_code
def yR_thrower : MethodName := ⟨qnR, "thrower", "()I"⟩
abbrev wR_thrower : List Cond := Cond.code yR_thrower cR_thrower 1 (some .int) :: lw_g
theorem cbR_thrower : cbV yR_thrower cR_thrower 1 (some .int) 0 := ⟨lw_in (List.mem_append_right _ (List.mem_of_getElem? (i := 600) (by decide +kernel))) rfl, lw_in (List.mem_append_right _ (List.mem_of_getElem? (i := 601) (by decide +kernel))) rfl, inR, lw_in (List.mem_append_right _ (List.mem_of_getElem? (i := 602) (by decide +kernel))) rfl, by decide +kernel, by decide +kernel, by decide +kernel⟩
abbrev cR_round : ByteArray := prog_6_method_31_code
def yR_round : MethodName := ⟨qnR, "round", "()I"⟩
abbrev wR_round : List Cond := Cond.code yR_round cR_round 1 (some .int) :: lw_g
theorem cbR_round : cbV yR_round cR_round 1 (some .int) 0 := ⟨lw_in (List.mem_append_right _ (List.mem_of_getElem? (i := 604) (by decide +kernel))) rfl, lw_in (List.mem_append_right _ (List.mem_of_getElem? (i := 605) (by decide +kernel))) rfl, inR, lw_in (List.mem_append_right _ (List.mem_of_getElem? (i := 606) (by decide +kernel))) rfl, by decide +kernel, by decide +kernel, by decide +kernel⟩
abbrev cR_lost : ByteArray := prog_6_method_32_code
def yR_lost : MethodName := ⟨qnR, "lost", "()I"⟩
abbrev wR_lost : List Cond := Cond.code yR_lost cR_lost 1 (some .int) :: lw_g
theorem cbR_lost : cbV yR_lost cR_lost 1 (some .int) 0 := ⟨lw_in (List.mem_append_right _ (List.mem_of_getElem? (i := 608) (by decide +kernel))) rfl, lw_in (List.mem_append_right _ (List.mem_of_getElem? (i := 609) (by decide +kernel))) rfl, inR, lw_in (List.mem_append_right _ (List.mem_of_getElem? (i := 610) (by decide +kernel))) rfl, by decide +kernel, by decide +kernel, by decide +kernel⟩
abbrev cR_steals : ByteArray := prog_6_method_33_code
def yR_steals : MethodName := ⟨qnR, "steals", "()I"⟩
abbrev wR_steals : List Cond := Cond.code yR_steals cR_steals 1 (some .int) :: lw_g
theorem cbR_steals : cbV yR_steals cR_steals 1 (some .int) 0 := ⟨lw_in (List.mem_append_right _ (List.mem_of_getElem? (i := 612) (by decide +kernel))) rfl, lw_in (List.mem_append_right _ (List.mem_of_getElem? (i := 613) (by decide +kernel))) rfl, inR, lw_in (List.mem_append_right _ (List.mem_of_getElem? (i := 614) (by decide +kernel))) rfl, by decide +kernel, by decide +kernel, by decide +kernel⟩
abbrev cR_runs : ByteArray := prog_6_method_34_code
def yR_runs : MethodName := ⟨qnR, "runs", "(I)I"⟩
abbrev wR_runs : List Cond := Cond.code yR_runs cR_runs 2 (some .int) :: lw_g
theorem cbR_runs : cbV yR_runs cR_runs 2 (some .int) 1 := ⟨lw_in (List.mem_append_right _ (List.mem_of_getElem? (i := 616) (by decide +kernel))) rfl, lw_in (List.mem_append_right _ (List.mem_of_getElem? (i := 617) (by decide +kernel))) rfl, inR, lw_in (List.mem_append_right _ (List.mem_of_getElem? (i := 618) (by decide +kernel))) rfl, by decide +kernel, by decide +kernel, by decide +kernel⟩
abbrev cR_arrivals : ByteArray := prog_6_method_35_code
def yR_arrivals : MethodName := ⟨qnR, "arrivals", "(I)I"⟩
abbrev wR_arrivals : List Cond := Cond.code yR_arrivals cR_arrivals 2 (some .int) :: lw_g
theorem cbR_arrivals : cbV yR_arrivals cR_arrivals 2 (some .int) 1 := ⟨lw_in (List.mem_append_right _ (List.mem_of_getElem? (i := 620) (by decide +kernel))) rfl, lw_in (List.mem_append_right _ (List.mem_of_getElem? (i := 621) (by decide +kernel))) rfl, inR, lw_in (List.mem_append_right _ (List.mem_of_getElem? (i := 622) (by decide +kernel))) rfl, by decide +kernel, by decide +kernel, by decide +kernel⟩
abbrev cR_where : ByteArray := prog_6_method_36_code
def yR_where : MethodName := ⟨qnR, "where", "(I)I"⟩
abbrev wR_where : List Cond := Cond.code yR_where cR_where 2 (some .int) :: lw_g
theorem cbR_where : cbV yR_where cR_where 2 (some .int) 1 := ⟨lw_in (List.mem_append_right _ (List.mem_of_getElem? (i := 624) (by decide +kernel))) rfl, lw_in (List.mem_append_right _ (List.mem_of_getElem? (i := 625) (by decide +kernel))) rfl, inR, lw_in (List.mem_append_right _ (List.mem_of_getElem? (i := 626) (by decide +kernel))) rfl, by decide +kernel, by decide +kernel, by decide +kernel⟩
abbrev cR_lineAt : ByteArray := prog_6_method_37_code
def yR_lineAt : MethodName := ⟨qnR, "lineAt", "(II)I"⟩
abbrev wR_lineAt : List Cond := Cond.code yR_lineAt cR_lineAt 6 (some .int) :: lw_g
theorem cbR_lineAt : cbV yR_lineAt cR_lineAt 6 (some .int) 2 := ⟨lw_in (List.mem_append_right _ (List.mem_of_getElem? (i := 628) (by decide +kernel))) rfl, lw_in (List.mem_append_right _ (List.mem_of_getElem? (i := 629) (by decide +kernel))) rfl, inR, lw_in (List.mem_append_right _ (List.mem_of_getElem? (i := 630) (by decide +kernel))) rfl, by decide +kernel, by decide +kernel, by decide +kernel⟩
theorem lmE_3 : Cond.methodLink qnE 3 objectInit ∈ lw_g := lw_in (List.mem_append_right _ (List.mem_of_getElem? (i := 13) (by decide +kernel))) rfl
theorem lmE_9 : Cond.methodLink qnE 9 yH_min ∈ lw_g := lw_in (List.mem_append_right _ (List.mem_of_getElem? (i := 16) (by decide +kernel))) rfl
theorem lmE_15 : Cond.methodLink qnE 15 yH_max ∈ lw_g := lw_in (List.mem_append_right _ (List.mem_of_getElem? (i := 19) (by decide +kernel))) rfl
theorem lfE_18 : Cond.fieldLink qnE 18 qnE "workers" "I" ∈ lw_g := lw_in (List.mem_append_right _ (List.mem_of_getElem? (i := 101) (by decide +kernel))) rfl
theorem lcE_22 : Cond.classLink qnE 22 "SubflowExecutor$Graph" ∈ lw_g := lw_in (List.mem_append_right _ (List.mem_of_getElem? (i := 22) (by decide +kernel))) rfl
theorem lmE_24 : Cond.methodLinkNest qnE 24 yG_init qnE ∈ lw_tbl := List.mem_append_right _ (List.mem_of_getElem? (i := 24) (by decide +kernel))
theorem lfE_25 : Cond.fieldLink qnE 25 qnE "graph" "LSubflowExecutor$Graph;" ∈ lw_g := lw_in (List.mem_append_right _ (List.mem_of_getElem? (i := 102) (by decide +kernel))) rfl
theorem lcE_29 : Cond.classLink qnE 29 "SubflowExecutor$Semaphores" ∈ lw_g := lw_in (List.mem_append_right _ (List.mem_of_getElem? (i := 66) (by decide +kernel))) rfl
theorem lmE_31 : Cond.methodLink qnE 31 yP_init ∈ lw_g := lw_in (List.mem_append_right _ (List.mem_of_getElem? (i := 68) (by decide +kernel))) rfl
theorem lfE_32 : Cond.fieldLink qnE 32 qnE "semaphores" "LSubflowExecutor$Semaphores;" ∈ lw_g := lw_in (List.mem_append_right _ (List.mem_of_getElem? (i := 103) (by decide +kernel))) rfl
theorem lcE_36 : Cond.classLink qnE 36 "SubflowExecutor$Line" ∈ lw_g := lw_in (List.mem_append_right _ (List.mem_of_getElem? (i := 84) (by decide +kernel))) rfl
theorem lfE_38 : Cond.fieldLink qnE 38 qnE "lines" "[LSubflowExecutor$Line;" ∈ lw_g := lw_in (List.mem_append_right _ (List.mem_of_getElem? (i := 104) (by decide +kernel))) rfl
theorem lmE_42 : Cond.methodLinkNest qnE 42 yL_init qnE ∈ lw_tbl := List.mem_append_right _ (List.mem_of_getElem? (i := 87) (by decide +kernel))
theorem lfE_43 : Cond.fieldLink qnE 43 qnE "parked" "LSubflowExecutor$Line;" ∈ lw_g := lw_in (List.mem_append_right _ (List.mem_of_getElem? (i := 105) (by decide +kernel))) rfl
theorem lfE_47 : Cond.fieldLink qnE 47 qnE "running" "[I" ∈ lw_g := lw_in (List.mem_append_right _ (List.mem_of_getElem? (i := 106) (by decide +kernel))) rfl
theorem lmE_51 : Cond.methodLink qnE 51 yA_fill ∈ lw_g := lw_in (List.mem_append_right _ (List.mem_of_getElem? (i := 100) (by decide +kernel))) rfl
theorem lfE_57 : Cond.fieldLink qnE 57 qnE "place" "[I" ∈ lw_g := lw_in (List.mem_append_right _ (List.mem_of_getElem? (i := 107) (by decide +kernel))) rfl
theorem lfE_60 : Cond.fieldLink qnE 60 qnE "arrived" "[I" ∈ lw_g := lw_in (List.mem_append_right _ (List.mem_of_getElem? (i := 108) (by decide +kernel))) rfl
theorem lfE_63 : Cond.fieldLink qnE 63 qnE "runCounts" "[I" ∈ lw_g := lw_in (List.mem_append_right _ (List.mem_of_getElem? (i := 109) (by decide +kernel))) rfl
theorem lfE_66 : Cond.fieldLink qnE 66 qnE "childFailed" "[Z" ∈ lw_g := lw_in (List.mem_append_right _ (List.mem_of_getElem? (i := 110) (by decide +kernel))) rfl
theorem lfE_70 : Cond.fieldLink qnE 70 qnE "firstFailed" "I" ∈ lw_g := lw_in (List.mem_append_right _ (List.mem_of_getElem? (i := 113) (by decide +kernel))) rfl
theorem lfE_73 : Cond.fieldLink qnE 73 qnE "underWay" "Z" ∈ lw_g := lw_in (List.mem_append_right _ (List.mem_of_getElem? (i := 111) (by decide +kernel))) rfl
theorem lmE_77 : Cond.methodLink qnE 77 yG_takesTask ∈ lw_g := lw_in (List.mem_append_right _ (List.mem_of_getElem? (i := 158) (by decide +kernel))) rfl
theorem lmE_81 : Cond.methodLink qnE 81 yG_addTask ∈ lw_g := lw_in (List.mem_append_right _ (List.mem_of_getElem? (i := 170) (by decide +kernel))) rfl
theorem lmE_85 : Cond.methodLink qnE 85 yG_takesEdge ∈ lw_g := lw_in (List.mem_append_right _ (List.mem_of_getElem? (i := 178) (by decide +kernel))) rfl
theorem lmE_89 : Cond.methodLink qnE 89 yG_addEdge ∈ lw_g := lw_in (List.mem_append_right _ (List.mem_of_getElem? (i := 186) (by decide +kernel))) rfl
theorem lmE_93 : Cond.methodLink qnE 93 yE_isSemaphore ∈ lw_g := lw_in (List.mem_append_right _ (List.mem_of_getElem? (i := 194) (by decide +kernel))) rfl
theorem lfE_97 : Cond.fieldLink qnE 97 qnP "capacities" "[I" ∈ lw_g := lw_in (List.mem_append_right _ (List.mem_of_getElem? (i := 76) (by decide +kernel))) rfl
theorem lfE_100 : Cond.fieldLink qnE 100 qnG "count" "I" ∈ lw_g := lw_in (List.mem_append_right _ (List.mem_of_getElem? (i := 31) (by decide +kernel))) rfl
theorem lmE_103 : Cond.methodLink qnE 103 yG_hasGroupWithoutSource ∈ lw_g := lw_in (List.mem_append_right _ (List.mem_of_getElem? (i := 201) (by decide +kernel))) rfl
theorem lmE_107 : Cond.methodLink qnE 107 yG_hasStrongCycle ∈ lw_g := lw_in (List.mem_append_right _ (List.mem_of_getElem? (i := 213) (by decide +kernel))) rfl
theorem lmE_110 : Cond.methodLink qnE 110 yE_check ∈ lw_g := lw_in (List.mem_append_right _ (List.mem_of_getElem? (i := 225) (by decide +kernel))) rfl
theorem lfE_114 : Cond.fieldLink qnE 114 qnE "cancelled" "Z" ∈ lw_g := lw_in (List.mem_append_right _ (List.mem_of_getElem? (i := 112) (by decide +kernel))) rfl
theorem lfE_117 : Cond.fieldLink qnE 117 qnE "roundsAsked" "I" ∈ lw_g := lw_in (List.mem_append_right _ (List.mem_of_getElem? (i := 114) (by decide +kernel))) rfl
theorem lfE_120 : Cond.fieldLink qnE 120 qnE "roundsBegun" "I" ∈ lw_g := lw_in (List.mem_append_right _ (List.mem_of_getElem? (i := 115) (by decide +kernel))) rfl
theorem lfE_123 : Cond.fieldLink qnE 123 qnE "tokensLost" "I" ∈ lw_g := lw_in (List.mem_append_right _ (List.mem_of_getElem? (i := 116) (by decide +kernel))) rfl
theorem lfE_126 : Cond.fieldLink qnE 126 qnE "stealCount" "I" ∈ lw_g := lw_in (List.mem_append_right _ (List.mem_of_getElem? (i := 117) (by decide +kernel))) rfl
theorem lmE_129 : Cond.methodLink qnE 129 yE_beginRound ∈ lw_g := lw_in (List.mem_append_right _ (List.mem_of_getElem? (i := 226) (by decide +kernel))) rfl
theorem lmE_132 : Cond.methodLink qnE 132 yE_isWorker ∈ lw_g := lw_in (List.mem_append_right _ (List.mem_of_getElem? (i := 251) (by decide +kernel))) rfl
theorem lmE_135 : Cond.methodLink qnE 135 yE_take ∈ lw_g := lw_in (List.mem_append_right _ (List.mem_of_getElem? (i := 255) (by decide +kernel))) rfl
theorem lfE_139 : Cond.fieldLink qnE 139 qnG "needs" "[I" ∈ lw_g := lw_in (List.mem_append_right _ (List.mem_of_getElem? (i := 38) (by decide +kernel))) rfl
theorem lmE_142 : Cond.methodLink qnE 142 yP_areFree ∈ lw_g := lw_in (List.mem_append_right _ (List.mem_of_getElem? (i := 271) (by decide +kernel))) rfl
theorem lmE_145 : Cond.methodLink qnE 145 yE_run ∈ lw_g := lw_in (List.mem_append_right _ (List.mem_of_getElem? (i := 278) (by decide +kernel))) rfl
theorem lmE_148 : Cond.methodLink qnE 148 yE_park ∈ lw_g := lw_in (List.mem_append_right _ (List.mem_of_getElem? (i := 286) (by decide +kernel))) rfl
theorem lmE_152 : Cond.methodLink qnE 152 yE_leaveBody ∈ lw_g := lw_in (List.mem_append_right _ (List.mem_of_getElem? (i := 294) (by decide +kernel))) rfl
theorem lmE_155 : Cond.methodLink qnE 155 yG_canHoldChildren ∈ lw_g := lw_in (List.mem_append_right _ (List.mem_of_getElem? (i := 306) (by decide +kernel))) rfl
theorem lmE_158 : Cond.methodLink qnE 158 yE_spawn ∈ lw_g := lw_in (List.mem_append_right _ (List.mem_of_getElem? (i := 307) (by decide +kernel))) rfl
theorem lfE_161 : Cond.fieldLink qnE 161 qnG "kinds" "[I" ∈ lw_g := lw_in (List.mem_append_right _ (List.mem_of_getElem? (i := 33) (by decide +kernel))) rfl
theorem lmE_164 : Cond.methodLink qnE 164 yE_hasActiveChild ∈ lw_g := lw_in (List.mem_append_right _ (List.mem_of_getElem? (i := 311) (by decide +kernel))) rfl
theorem lmE_167 : Cond.methodLink qnE 167 yE_endUpwards ∈ lw_g := lw_in (List.mem_append_right _ (List.mem_of_getElem? (i := 315) (by decide +kernel))) rfl
theorem lmE_171 : Cond.methodLink qnE 171 yE_closeRound ∈ lw_g := lw_in (List.mem_append_right _ (List.mem_of_getElem? (i := 331) (by decide +kernel))) rfl
theorem lmE_174 : Cond.methodLink qnE 174 yE_dropReadyAndParked ∈ lw_g := lw_in (List.mem_append_right _ (List.mem_of_getElem? (i := 347) (by decide +kernel))) rfl
theorem lmE_177 : Cond.methodLink qnE 177 yE_endChildlessWaiting ∈ lw_g := lw_in (List.mem_append_right _ (List.mem_of_getElem? (i := 351) (by decide +kernel))) rfl
theorem lmE_180 : Cond.methodLink qnE 180 yG_isTask ∈ lw_g := lw_in (List.mem_append_right _ (List.mem_of_getElem? (i := 379) (by decide +kernel))) rfl
theorem lmE_183 : Cond.methodLink qnE 183 yL_taskAt ∈ lw_g := lw_in (List.mem_append_right _ (List.mem_of_getElem? (i := 392) (by decide +kernel))) rfl
theorem lfE_186 : Cond.fieldLink qnE 186 qnP "unitsHeld" "[I" ∈ lw_g := lw_in (List.mem_append_right _ (List.mem_of_getElem? (i := 78) (by decide +kernel))) rfl
theorem lmE_189 : Cond.methodLink qnE 189 yE_sendToSources ∈ lw_g := lw_in (List.mem_append_right _ (List.mem_of_getElem? (i := 230) (by decide +kernel))) rfl
theorem lmE_192 : Cond.methodLink qnE 192 yE_hasActiveTask ∈ lw_g := lw_in (List.mem_append_right _ (List.mem_of_getElem? (i := 335) (by decide +kernel))) rfl
theorem lfE_195 : Cond.fieldLink qnE 195 qnG "parents" "[I" ∈ lw_g := lw_in (List.mem_append_right _ (List.mem_of_getElem? (i := 35) (by decide +kernel))) rfl
theorem lmE_198 : Cond.methodLink qnE 198 yG_isSource ∈ lw_g := lw_in (List.mem_append_right _ (List.mem_of_getElem? (i := 234) (by decide +kernel))) rfl
theorem lmE_201 : Cond.methodLink qnE 201 yE_sendToken ∈ lw_g := lw_in (List.mem_append_right _ (List.mem_of_getElem? (i := 235) (by decide +kernel))) rfl
theorem lmE_204 : Cond.methodLink qnE 204 yE_makeReady ∈ lw_g := lw_in (List.mem_append_right _ (List.mem_of_getElem? (i := 239) (by decide +kernel))) rfl
theorem lmE_207 : Cond.methodLink qnE 207 yL_append ∈ lw_g := lw_in (List.mem_append_right _ (List.mem_of_getElem? (i := 243) (by decide +kernel))) rfl
theorem lfE_210 : Cond.fieldLink qnE 210 qnL "length" "I" ∈ lw_g := lw_in (List.mem_append_right _ (List.mem_of_getElem? (i := 94) (by decide +kernel))) rfl
theorem lmE_213 : Cond.methodLink qnE 213 yL_takeOut ∈ lw_g := lw_in (List.mem_append_right _ (List.mem_of_getElem? (i := 259) (by decide +kernel))) rfl
theorem lmE_216 : Cond.methodLink qnE 216 yE_steal ∈ lw_g := lw_in (List.mem_append_right _ (List.mem_of_getElem? (i := 267) (by decide +kernel))) rfl
theorem lmE_219 : Cond.methodLink qnE 219 yP_hold ∈ lw_g := lw_in (List.mem_append_right _ (List.mem_of_getElem? (i := 282) (by decide +kernel))) rfl
theorem lmE_222 : Cond.methodLink qnE 222 yP_giveBack ∈ lw_g := lw_in (List.mem_append_right _ (List.mem_of_getElem? (i := 298) (by decide +kernel))) rfl
theorem lmE_225 : Cond.methodLink qnE 225 yE_wakeParked ∈ lw_g := lw_in (List.mem_append_right _ (List.mem_of_getElem? (i := 302) (by decide +kernel))) rfl
theorem lfE_228 : Cond.fieldLink qnE 228 qnL "tasks" "[I" ∈ lw_g := lw_in (List.mem_append_right _ (List.mem_of_getElem? (i := 92) (by decide +kernel))) rfl
theorem lmE_231 : Cond.methodLink qnE 231 yE_passOn ∈ lw_g := lw_in (List.mem_append_right _ (List.mem_of_getElem? (i := 319) (by decide +kernel))) rfl
theorem lmE_235 : Cond.methodLink qnE 235 yE_parentThatEnds ∈ lw_g := lw_in (List.mem_append_right _ (List.mem_of_getElem? (i := 327) (by decide +kernel))) rfl
theorem lfE_239 : Cond.fieldLink qnE 239 qnG "edgeCounts" "[I" ∈ lw_g := lw_in (List.mem_append_right _ (List.mem_of_getElem? (i := 42) (by decide +kernel))) rfl
theorem lfE_242 : Cond.fieldLink qnE 242 qnG "edges" "[[I" ∈ lw_g := lw_in (List.mem_append_right _ (List.mem_of_getElem? (i := 40) (by decide +kernel))) rfl
theorem lmE_246 : Cond.methodLink qnE 246 yE_arrive ∈ lw_g := lw_in (List.mem_append_right _ (List.mem_of_getElem? (i := 323) (by decide +kernel))) rfl
theorem lfE_249 : Cond.fieldLink qnE 249 qnG "strongIn" "[I" ∈ lw_g := lw_in (List.mem_append_right _ (List.mem_of_getElem? (i := 45) (by decide +kernel))) rfl
theorem lmG_3 : Cond.methodLink qnG 3 objectInit ∈ lw_g := lw_in (List.mem_append_right _ (List.mem_of_getElem? (i := 27) (by decide +kernel))) rfl
theorem lfG_9 : Cond.fieldLink qnG 9 qnG "kinds" "[I" ∈ lw_g := lw_in (List.mem_append_right _ (List.mem_of_getElem? (i := 32) (by decide +kernel))) rfl
theorem lfG_15 : Cond.fieldLink qnG 15 qnG "parents" "[I" ∈ lw_g := lw_in (List.mem_append_right _ (List.mem_of_getElem? (i := 34) (by decide +kernel))) rfl
theorem lfG_18 : Cond.fieldLink qnG 18 qnG "levels" "[I" ∈ lw_g := lw_in (List.mem_append_right _ (List.mem_of_getElem? (i := 36) (by decide +kernel))) rfl
theorem lfG_21 : Cond.fieldLink qnG 21 qnG "needs" "[I" ∈ lw_g := lw_in (List.mem_append_right _ (List.mem_of_getElem? (i := 37) (by decide +kernel))) rfl
theorem lcG_24 : Cond.classLink qnG 24 "[[I" ∈ lw_g := lw_in (List.mem_append_right _ (List.mem_of_getElem? (i := 28) (by decide +kernel))) rfl
theorem lfG_26 : Cond.fieldLink qnG 26 qnG "edges" "[[I" ∈ lw_g := lw_in (List.mem_append_right _ (List.mem_of_getElem? (i := 39) (by decide +kernel))) rfl
theorem lfG_29 : Cond.fieldLink qnG 29 qnG "edgeCounts" "[I" ∈ lw_g := lw_in (List.mem_append_right _ (List.mem_of_getElem? (i := 41) (by decide +kernel))) rfl
theorem lfG_32 : Cond.fieldLink qnG 32 qnG "allIn" "[I" ∈ lw_g := lw_in (List.mem_append_right _ (List.mem_of_getElem? (i := 43) (by decide +kernel))) rfl
theorem lfG_35 : Cond.fieldLink qnG 35 qnG "strongIn" "[I" ∈ lw_g := lw_in (List.mem_append_right _ (List.mem_of_getElem? (i := 44) (by decide +kernel))) rfl
theorem lfG_38 : Cond.fieldLink qnG 38 qnG "count" "I" ∈ lw_g := lw_in (List.mem_append_right _ (List.mem_of_getElem? (i := 30) (by decide +kernel))) rfl
theorem lmG_42 : Cond.methodLink qnG 42 yG_isTask ∈ lw_g := lw_in (List.mem_append_right _ (List.mem_of_getElem? (i := 162) (by decide +kernel))) rfl
theorem lmG_46 : Cond.methodLink qnG 46 yG_canHoldChildren ∈ lw_g := lw_in (List.mem_append_right _ (List.mem_of_getElem? (i := 166) (by decide +kernel))) rfl
theorem lmG_49 : Cond.methodLink qnG 49 yG_hasEdge ∈ lw_g := lw_in (List.mem_append_right _ (List.mem_of_getElem? (i := 182) (by decide +kernel))) rfl
theorem lmG_53 : Cond.methodLink qnG 53 yG_hasSource ∈ lw_g := lw_in (List.mem_append_right _ (List.mem_of_getElem? (i := 205) (by decide +kernel))) rfl
theorem lmG_56 : Cond.methodLink qnG 56 yG_isSource ∈ lw_g := lw_in (List.mem_append_right _ (List.mem_of_getElem? (i := 209) (by decide +kernel))) rfl
theorem lmG_59 : Cond.methodLink qnG 59 yG_leadsStronglyInto ∈ lw_g := lw_in (List.mem_append_right _ (List.mem_of_getElem? (i := 217) (by decide +kernel))) rfl
theorem lmL_3 : Cond.methodLink qnL 3 objectInit ∈ lw_g := lw_in (List.mem_append_right _ (List.mem_of_getElem? (i := 90) (by decide +kernel))) rfl
theorem lfL_9 : Cond.fieldLink qnL 9 qnL "tasks" "[I" ∈ lw_g := lw_in (List.mem_append_right _ (List.mem_of_getElem? (i := 91) (by decide +kernel))) rfl
theorem lfL_15 : Cond.fieldLink qnL 15 qnL "length" "I" ∈ lw_g := lw_in (List.mem_append_right _ (List.mem_of_getElem? (i := 93) (by decide +kernel))) rfl
theorem lmL_19 : Cond.methodLink qnL 19 yL_taskAt ∈ lw_g := lw_in (List.mem_append_right _ (List.mem_of_getElem? (i := 263) (by decide +kernel))) rfl
theorem lmP_3 : Cond.methodLink qnP 3 objectInit ∈ lw_g := lw_in (List.mem_append_right _ (List.mem_of_getElem? (i := 71) (by decide +kernel))) rfl
theorem lfP_9 : Cond.fieldLink qnP 9 qnP "capacities" "[I" ∈ lw_g := lw_in (List.mem_append_right _ (List.mem_of_getElem? (i := 75) (by decide +kernel))) rfl
theorem lfP_15 : Cond.fieldLink qnP 15 qnP "unitsHeld" "[I" ∈ lw_g := lw_in (List.mem_append_right _ (List.mem_of_getElem? (i := 77) (by decide +kernel))) rfl
theorem lmP_18 : Cond.methodLink qnP 18 yA_fill ∈ lw_g := lw_in (List.mem_append_right _ (List.mem_of_getElem? (i := 72) (by decide +kernel))) rfl
theorem lmP_24 : Cond.methodLink qnP 24 yP_isIn ∈ lw_g := lw_in (List.mem_append_right _ (List.mem_of_getElem? (i := 275) (by decide +kernel))) rfl
theorem lcZ_7 : Cond.classLink qnZ 7 "SubflowExecutor" ∈ lw_g := lw_in (List.mem_append_right _ (List.mem_of_getElem? (i := 8) (by decide +kernel))) rfl
theorem lmZ_9 : Cond.methodLink qnZ 9 yZ_cell ∈ lw_g := lw_in (List.mem_append_right _ (List.mem_of_getElem? (i := 397) (by decide +kernel))) rfl
theorem lmZ_15 : Cond.methodLink qnZ 15 yE_init ∈ lw_g := lw_in (List.mem_append_right _ (List.mem_of_getElem? (i := 10) (by decide +kernel))) rfl
theorem lcZ_18 : Cond.classLink qnZ 18 "SubflowExecutorModel" ∈ lw_g := lw_in (List.mem_append_right _ (List.mem_of_getElem? (i := 400) (by decide +kernel))) rfl
theorem lmZ_20 : Cond.methodLink qnZ 20 yR_init ∈ lw_g := lw_in (List.mem_append_right _ (List.mem_of_getElem? (i := 402) (by decide +kernel))) rfl
theorem lmZ_21 : Cond.methodLink qnZ 21 yE_add ∈ lw_g := lw_in (List.mem_append_right _ (List.mem_of_getElem? (i := 154) (by decide +kernel))) rfl
theorem lmZ_25 : Cond.methodLink qnZ 25 yR_add ∈ lw_g := lw_in (List.mem_append_right _ (List.mem_of_getElem? (i := 482) (by decide +kernel))) rfl
theorem lmZ_26 : Cond.methodLink qnZ 26 yE_edge ∈ lw_g := lw_in (List.mem_append_right _ (List.mem_of_getElem? (i := 174) (by decide +kernel))) rfl
theorem lmZ_30 : Cond.methodLink qnZ 30 yR_edge ∈ lw_g := lw_in (List.mem_append_right _ (List.mem_of_getElem? (i := 490) (by decide +kernel))) rfl
theorem lmZ_31 : Cond.methodLink qnZ 31 yE_capacity ∈ lw_g := lw_in (List.mem_append_right _ (List.mem_of_getElem? (i := 190) (by decide +kernel))) rfl
theorem lmZ_34 : Cond.methodLink qnZ 34 yR_capacity ∈ lw_g := lw_in (List.mem_append_right _ (List.mem_of_getElem? (i := 498) (by decide +kernel))) rfl
theorem lmZ_35 : Cond.methodLink qnZ 35 yE_check ∈ lw_g := lw_in (List.mem_append_right _ (List.mem_of_getElem? (i := 197) (by decide +kernel))) rfl
theorem lmZ_39 : Cond.methodLink qnZ 39 yR_check ∈ lw_g := lw_in (List.mem_append_right _ (List.mem_of_getElem? (i := 502) (by decide +kernel))) rfl
theorem lmZ_40 : Cond.methodLink qnZ 40 yE_start ∈ lw_g := lw_in (List.mem_append_right _ (List.mem_of_getElem? (i := 221) (by decide +kernel))) rfl
theorem lmZ_44 : Cond.methodLink qnZ 44 yR_start ∈ lw_g := lw_in (List.mem_append_right _ (List.mem_of_getElem? (i := 518) (by decide +kernel))) rfl
theorem lmZ_45 : Cond.methodLink qnZ 45 yE_begin ∈ lw_g := lw_in (List.mem_append_right _ (List.mem_of_getElem? (i := 247) (by decide +kernel))) rfl
theorem lmZ_49 : Cond.methodLink qnZ 49 yR_begin ∈ lw_g := lw_in (List.mem_append_right _ (List.mem_of_getElem? (i := 539) (by decide +kernel))) rfl
theorem lmZ_50 : Cond.methodLink qnZ 50 yE_finish ∈ lw_g := lw_in (List.mem_append_right _ (List.mem_of_getElem? (i := 290) (by decide +kernel))) rfl
theorem lmZ_54 : Cond.methodLink qnZ 54 yR_finish ∈ lw_g := lw_in (List.mem_append_right _ (List.mem_of_getElem? (i := 563) (by decide +kernel))) rfl
theorem lmZ_55 : Cond.methodLink qnZ 55 yE_fail ∈ lw_g := lw_in (List.mem_append_right _ (List.mem_of_getElem? (i := 339) (by decide +kernel))) rfl
theorem lmZ_58 : Cond.methodLink qnZ 58 yR_fail ∈ lw_g := lw_in (List.mem_append_right _ (List.mem_of_getElem? (i := 587) (by decide +kernel))) rfl
theorem lmZ_59 : Cond.methodLink qnZ 59 yE_cancel ∈ lw_g := lw_in (List.mem_append_right _ (List.mem_of_getElem? (i := 343) (by decide +kernel))) rfl
theorem lmZ_62 : Cond.methodLink qnZ 62 yR_cancel ∈ lw_g := lw_in (List.mem_append_right _ (List.mem_of_getElem? (i := 591) (by decide +kernel))) rfl
theorem lmZ_63 : Cond.methodLink qnZ 63 yE_state ∈ lw_g := lw_in (List.mem_append_right _ (List.mem_of_getElem? (i := 355) (by decide +kernel))) rfl
theorem lmZ_66 : Cond.methodLink qnZ 66 yR_state ∈ lw_g := lw_in (List.mem_append_right _ (List.mem_of_getElem? (i := 595) (by decide +kernel))) rfl
theorem lmZ_67 : Cond.methodLink qnZ 67 yE_thrower ∈ lw_g := lw_in (List.mem_append_right _ (List.mem_of_getElem? (i := 359) (by decide +kernel))) rfl
theorem lmZ_70 : Cond.methodLink qnZ 70 yR_thrower ∈ lw_g := lw_in (List.mem_append_right _ (List.mem_of_getElem? (i := 599) (by decide +kernel))) rfl
theorem lmZ_71 : Cond.methodLink qnZ 71 yE_round ∈ lw_g := lw_in (List.mem_append_right _ (List.mem_of_getElem? (i := 363) (by decide +kernel))) rfl
theorem lmZ_74 : Cond.methodLink qnZ 74 yR_round ∈ lw_g := lw_in (List.mem_append_right _ (List.mem_of_getElem? (i := 603) (by decide +kernel))) rfl
theorem lmZ_75 : Cond.methodLink qnZ 75 yE_lost ∈ lw_g := lw_in (List.mem_append_right _ (List.mem_of_getElem? (i := 367) (by decide +kernel))) rfl
theorem lmZ_78 : Cond.methodLink qnZ 78 yR_lost ∈ lw_g := lw_in (List.mem_append_right _ (List.mem_of_getElem? (i := 607) (by decide +kernel))) rfl
theorem lmZ_79 : Cond.methodLink qnZ 79 yE_steals ∈ lw_g := lw_in (List.mem_append_right _ (List.mem_of_getElem? (i := 371) (by decide +kernel))) rfl
theorem lmZ_82 : Cond.methodLink qnZ 82 yR_steals ∈ lw_g := lw_in (List.mem_append_right _ (List.mem_of_getElem? (i := 611) (by decide +kernel))) rfl
theorem lmZ_83 : Cond.methodLink qnZ 83 yE_runs ∈ lw_g := lw_in (List.mem_append_right _ (List.mem_of_getElem? (i := 375) (by decide +kernel))) rfl
theorem lmZ_86 : Cond.methodLink qnZ 86 yR_runs ∈ lw_g := lw_in (List.mem_append_right _ (List.mem_of_getElem? (i := 615) (by decide +kernel))) rfl
theorem lmZ_87 : Cond.methodLink qnZ 87 yE_arrivals ∈ lw_g := lw_in (List.mem_append_right _ (List.mem_of_getElem? (i := 380) (by decide +kernel))) rfl
theorem lmZ_90 : Cond.methodLink qnZ 90 yR_arrivals ∈ lw_g := lw_in (List.mem_append_right _ (List.mem_of_getElem? (i := 619) (by decide +kernel))) rfl
theorem lmZ_91 : Cond.methodLink qnZ 91 yE_where ∈ lw_g := lw_in (List.mem_append_right _ (List.mem_of_getElem? (i := 384) (by decide +kernel))) rfl
theorem lmZ_94 : Cond.methodLink qnZ 94 yR_where ∈ lw_g := lw_in (List.mem_append_right _ (List.mem_of_getElem? (i := 623) (by decide +kernel))) rfl
theorem lmZ_95 : Cond.methodLink qnZ 95 yE_lineAt ∈ lw_g := lw_in (List.mem_append_right _ (List.mem_of_getElem? (i := 388) (by decide +kernel))) rfl
theorem lmZ_98 : Cond.methodLink qnZ 98 yR_lineAt ∈ lw_g := lw_in (List.mem_append_right _ (List.mem_of_getElem? (i := 627) (by decide +kernel))) rfl
theorem lmZ_99 : Cond.methodLink qnZ 99 yE_held ∈ lw_g := lw_in (List.mem_append_right _ (List.mem_of_getElem? (i := 393) (by decide +kernel))) rfl
theorem lmZ_102 : Cond.methodLink qnZ 102 yR_held ∈ lw_g := lw_in (List.mem_append_right _ (List.mem_of_getElem? (i := 631) (by decide +kernel))) rfl
theorem lmR_1 : Cond.methodLink qnR 1 objectInit ∈ lw_g := lw_in (List.mem_append_right _ (List.mem_of_getElem? (i := 405) (by decide +kernel))) rfl
theorem lfR_7 : Cond.fieldLink qnR 7 qnR "kind" "[I" ∈ lw_g := lw_in (List.mem_append_right _ (List.mem_of_getElem? (i := 408) (by decide +kernel))) rfl
theorem lfR_13 : Cond.fieldLink qnR 13 qnR "parent" "[I" ∈ lw_g := lw_in (List.mem_append_right _ (List.mem_of_getElem? (i := 409) (by decide +kernel))) rfl
theorem lfR_16 : Cond.fieldLink qnR 16 qnR "level" "[I" ∈ lw_g := lw_in (List.mem_append_right _ (List.mem_of_getElem? (i := 410) (by decide +kernel))) rfl
theorem lfR_19 : Cond.fieldLink qnR 19 qnR "needs" "[I" ∈ lw_g := lw_in (List.mem_append_right _ (List.mem_of_getElem? (i := 411) (by decide +kernel))) rfl
theorem lfR_22 : Cond.fieldLink qnR 22 qnR "state" "[I" ∈ lw_g := lw_in (List.mem_append_right _ (List.mem_of_getElem? (i := 412) (by decide +kernel))) rfl
theorem lfR_25 : Cond.fieldLink qnR 25 qnR "spot" "[I" ∈ lw_g := lw_in (List.mem_append_right _ (List.mem_of_getElem? (i := 413) (by decide +kernel))) rfl
theorem lfR_28 : Cond.fieldLink qnR 28 qnR "since" "[I" ∈ lw_g := lw_in (List.mem_append_right _ (List.mem_of_getElem? (i := 414) (by decide +kernel))) rfl
theorem lfR_31 : Cond.fieldLink qnR 31 qnR "came" "[I" ∈ lw_g := lw_in (List.mem_append_right _ (List.mem_of_getElem? (i := 415) (by decide +kernel))) rfl
theorem lfR_34 : Cond.fieldLink qnR 34 qnR "ran" "[I" ∈ lw_g := lw_in (List.mem_append_right _ (List.mem_of_getElem? (i := 416) (by decide +kernel))) rfl
theorem lfR_37 : Cond.fieldLink qnR 37 qnR "hurt" "[Z" ∈ lw_g := lw_in (List.mem_append_right _ (List.mem_of_getElem? (i := 417) (by decide +kernel))) rfl
theorem lfR_41 : Cond.fieldLink qnR 41 qnR "outs" "[I" ∈ lw_g := lw_in (List.mem_append_right _ (List.mem_of_getElem? (i := 418) (by decide +kernel))) rfl
theorem lfR_44 : Cond.fieldLink qnR 44 qnR "to" "[I" ∈ lw_g := lw_in (List.mem_append_right _ (List.mem_of_getElem? (i := 419) (by decide +kernel))) rfl
theorem lfR_47 : Cond.fieldLink qnR 47 qnR "leads" "[Z" ∈ lw_g := lw_in (List.mem_append_right _ (List.mem_of_getElem? (i := 420) (by decide +kernel))) rfl
theorem lfR_50 : Cond.fieldLink qnR 50 qnR "more" "[I" ∈ lw_g := lw_in (List.mem_append_right _ (List.mem_of_getElem? (i := 421) (by decide +kernel))) rfl
theorem lfR_53 : Cond.fieldLink qnR 53 qnR "thrower" "I" ∈ lw_g := lw_in (List.mem_append_right _ (List.mem_of_getElem? (i := 426) (by decide +kernel))) rfl
theorem lfR_57 : Cond.fieldLink qnR 57 qnR "workers" "I" ∈ lw_g := lw_in (List.mem_append_right _ (List.mem_of_getElem? (i := 406) (by decide +kernel))) rfl
theorem lfR_60 : Cond.fieldLink qnR 60 qnR "tasks" "I" ∈ lw_g := lw_in (List.mem_append_right _ (List.mem_of_getElem? (i := 407) (by decide +kernel))) rfl
theorem lmR_63 : Cond.methodLink qnR 63 yR_isTask ∈ lw_g := lw_in (List.mem_append_right _ (List.mem_of_getElem? (i := 486) (by decide +kernel))) rfl
theorem lfR_67 : Cond.fieldLink qnR 67 qnR "under" "Z" ∈ lw_g := lw_in (List.mem_append_right _ (List.mem_of_getElem? (i := 424) (by decide +kernel))) rfl
theorem lmR_71 : Cond.methodLink qnR 71 yR_edges ∈ lw_g := lw_in (List.mem_append_right _ (List.mem_of_getElem? (i := 494) (by decide +kernel))) rfl
theorem lmR_75 : Cond.methodLink qnR 75 yR_into ∈ lw_g := lw_in (List.mem_append_right _ (List.mem_of_getElem? (i := 510) (by decide +kernel))) rfl
theorem lmR_79 : Cond.methodLink qnR 79 yR_groupHasSource ∈ lw_g := lw_in (List.mem_append_right _ (List.mem_of_getElem? (i := 506) (by decide +kernel))) rfl
theorem lmR_82 : Cond.methodLink qnR 82 yR_circle ∈ lw_g := lw_in (List.mem_append_right _ (List.mem_of_getElem? (i := 514) (by decide +kernel))) rfl
theorem lfR_86 : Cond.fieldLink qnR 86 qnR "lost" "I" ∈ lw_g := lw_in (List.mem_append_right _ (List.mem_of_getElem? (i := 429) (by decide +kernel))) rfl
theorem lmR_89 : Cond.methodLink qnR 89 yR_ready ∈ lw_g := lw_in (List.mem_append_right _ (List.mem_of_getElem? (i := 535) (by decide +kernel))) rfl
theorem lfR_93 : Cond.fieldLink qnR 93 qnR "clock" "I" ∈ lw_g := lw_in (List.mem_append_right _ (List.mem_of_getElem? (i := 422) (by decide +kernel))) rfl
theorem lmR_96 : Cond.methodLink qnR 96 yR_token ∈ lw_g := lw_in (List.mem_append_right _ (List.mem_of_getElem? (i := 531) (by decide +kernel))) rfl
theorem lfR_99 : Cond.fieldLink qnR 99 qnR "round" "I" ∈ lw_g := lw_in (List.mem_append_right _ (List.mem_of_getElem? (i := 428) (by decide +kernel))) rfl
theorem lmR_102 : Cond.methodLink qnR 102 yR_wake ∈ lw_g := lw_in (List.mem_append_right _ (List.mem_of_getElem? (i := 527) (by decide +kernel))) rfl
theorem lmR_105 : Cond.methodLink qnR 105 yR_check ∈ lw_g := lw_in (List.mem_append_right _ (List.mem_of_getElem? (i := 522) (by decide +kernel))) rfl
theorem lfR_109 : Cond.fieldLink qnR 109 qnR "begun" "Z" ∈ lw_g := lw_in (List.mem_append_right _ (List.mem_of_getElem? (i := 423) (by decide +kernel))) rfl
theorem lfR_112 : Cond.fieldLink qnR 112 qnR "cancelled" "Z" ∈ lw_g := lw_in (List.mem_append_right _ (List.mem_of_getElem? (i := 425) (by decide +kernel))) rfl
theorem lfR_115 : Cond.fieldLink qnR 115 qnR "rounds" "I" ∈ lw_g := lw_in (List.mem_append_right _ (List.mem_of_getElem? (i := 427) (by decide +kernel))) rfl
theorem lfR_118 : Cond.fieldLink qnR 118 qnR "steals" "I" ∈ lw_g := lw_in (List.mem_append_right _ (List.mem_of_getElem? (i := 430) (by decide +kernel))) rfl
theorem lmR_121 : Cond.methodLink qnR 121 yR_nextRound ∈ lw_g := lw_in (List.mem_append_right _ (List.mem_of_getElem? (i := 523) (by decide +kernel))) rfl
theorem lmR_124 : Cond.methodLink qnR 124 yR_endOf ∈ lw_g := lw_in (List.mem_append_right _ (List.mem_of_getElem? (i := 551) (by decide +kernel))) rfl
theorem lmR_127 : Cond.methodLink qnR 127 yR_held ∈ lw_g := lw_in (List.mem_append_right _ (List.mem_of_getElem? (i := 559) (by decide +kernel))) rfl
theorem lmR_131 : Cond.methodLink qnR 131 yR_running ∈ lw_g := lw_in (List.mem_append_right _ (List.mem_of_getElem? (i := 543) (by decide +kernel))) rfl
theorem lmR_134 : Cond.methodLink qnR 134 yR_take ∈ lw_g := lw_in (List.mem_append_right _ (List.mem_of_getElem? (i := 547) (by decide +kernel))) rfl
theorem lmR_137 : Cond.methodLink qnR 137 yR_unitsFor ∈ lw_g := lw_in (List.mem_append_right _ (List.mem_of_getElem? (i := 555) (by decide +kernel))) rfl
theorem lmR_140 : Cond.methodLink qnR 140 yR_pass ∈ lw_g := lw_in (List.mem_append_right _ (List.mem_of_getElem? (i := 579) (by decide +kernel))) rfl
theorem lmR_144 : Cond.methodLink qnR 144 yR_activeChild ∈ lw_g := lw_in (List.mem_append_right _ (List.mem_of_getElem? (i := 571) (by decide +kernel))) rfl
theorem lmR_147 : Cond.methodLink qnR 147 yR_release ∈ lw_g := lw_in (List.mem_append_right _ (List.mem_of_getElem? (i := 567) (by decide +kernel))) rfl
theorem lmR_151 : Cond.methodLink qnR 151 yR_end ∈ lw_g := lw_in (List.mem_append_right _ (List.mem_of_getElem? (i := 575) (by decide +kernel))) rfl
theorem lmR_155 : Cond.methodLink qnR 155 yR_settle ∈ lw_g := lw_in (List.mem_append_right _ (List.mem_of_getElem? (i := 583) (by decide +kernel))) rfl
