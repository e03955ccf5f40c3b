-- names, fields, words
def R_M : String := "WitnessedMirror"
def R_N : String := "WitnessedMirror$Node"
def R_D : String := "WitnessedMirror$Disk"
def R_T : String := "WitnessedMirror$Witness"
def R_B : String := "WitnessedMirror$Batch"
def R_K : String := "WitnessedMirrorModel"
def R_L : String := "WitnessedMirrorLaw"
def R_J : String := "java/lang/Integer"
def R_H : String := "java/lang/Math"
def R_Y : String := "java/util/Arrays"
def T_B : u_T := fun k => match k with
  | 0 => ("WitnessedMirror$Batch", "cells", "[I", true)
  | 1 => ("WitnessedMirror$Batch", "values", "[I", true)
  | _ => ("WitnessedMirror$Batch", "size", "I", false)
def fy_B : Nat → FieldType := fun k => match k with
  | 0 => .array .int
  | 1 => .array .int
  | _ => .int
theorem n_B : ∀ a, a < 3 → ∀ b, b < 3 → a ≠ b → (T_B a).2.1 ≠ (T_B b).2.1 := by decide +kernel
theorem fy_B_ok : ∀ k, k < 3 → parseFieldDescriptor (T_B k).2.2.1 = some (fy_B k) := by decide +kernel
def T_D : u_T := fun k => match k with
  | 0 => ("WitnessedMirror$Disk", "stable", "[I", true)
  | 1 => ("WitnessedMirror$Disk", "cached", "[I", true)
  | _ => ("WitnessedMirror$Disk", "cachedBits", "I", false)
def fy_D : Nat → FieldType := fun k => match k with
  | 0 => .array .int
  | 1 => .array .int
  | _ => .int
theorem n_D : ∀ a, a < 3 → ∀ b, b < 3 → a ≠ b → (T_D a).2.1 ≠ (T_D b).2.1 := by decide +kernel
theorem fy_D_ok : ∀ k, k < 3 → parseFieldDescriptor (T_D k).2.2.1 = some (fy_D k) := by decide +kernel
def T_N : u_T := fun k => match k with
  | 0 => ("WitnessedMirror$Node", "disk", "LWitnessedMirror$Disk;", true)
  | 1 => ("WitnessedMirror$Node", "up", "Z", false)
  | 2 => ("WitnessedMirror$Node", "primary", "Z", false)
  | 3 => ("WitnessedMirror$Node", "generation", "I", false)
  | 4 => ("WitnessedMirror$Node", "base", "I", false)
  | 5 => ("WitnessedMirror$Node", "alone", "Z", false)
  | 6 => ("WitnessedMirror$Node", "marks", "I", false)
  | _ => ("WitnessedMirror$Node", "witnessLineUp", "Z", false)
def fy_N : Nat → FieldType := fun k => match k with
  | 0 => .object "WitnessedMirror$Disk"
  | 1 => .boolean
  | 2 => .boolean
  | 3 => .int
  | 4 => .int
  | 5 => .boolean
  | 6 => .int
  | _ => .boolean
theorem n_N : ∀ a, a < 8 → ∀ b, b < 8 → a ≠ b → (T_N a).2.1 ≠ (T_N b).2.1 := by decide +kernel
theorem fy_N_ok : ∀ k, k < 8 → parseFieldDescriptor (T_N k).2.2.1 = some (fy_N k) := by decide +kernel
def T_T : u_T := fun k => match k with
  | 0 => ("WitnessedMirror$Witness", "length", "I", true)
  | 1 => ("WitnessedMirror$Witness", "generation", "I", false)
  | 2 => ("WitnessedMirror$Witness", "time", "I", false)
  | 3 => ("WitnessedMirror$Witness", "holder", "I", false)
  | _ => ("WitnessedMirror$Witness", "end", "I", false)
def fy_T : Nat → FieldType := fun k => match k with
  | 0 => .int
  | 1 => .int
  | 2 => .int
  | 3 => .int
  | _ => .int
theorem n_T : ∀ a, a < 5 → ∀ b, b < 5 → a ≠ b → (T_T a).2.1 ≠ (T_T b).2.1 := by decide +kernel
theorem fy_T_ok : ∀ k, k < 5 → parseFieldDescriptor (T_T k).2.2.1 = some (fy_T k) := by decide +kernel
def T_M : u_T := fun k => match k with
  | 0 => ("WitnessedMirror", "nodes", "[LWitnessedMirror$Node;", true)
  | 1 => ("WitnessedMirror", "witness", "LWitnessedMirror$Witness;", true)
  | 2 => ("WitnessedMirror", "batch", "LWitnessedMirror$Batch;", true)
  | 3 => ("WitnessedMirror", "lineUp", "Z", false)
  | 4 => ("WitnessedMirror", "connected", "Z", false)
  | 5 => ("WitnessedMirror", "syncing", "Z", false)
  | _ => ("WitnessedMirror", "source", "I", false)
def fy_M : Nat → FieldType := fun k => match k with
  | 0 => .array (.object "WitnessedMirror$Node")
  | 1 => .object "WitnessedMirror$Witness"
  | 2 => .object "WitnessedMirror$Batch"
  | 3 => .boolean
  | 4 => .boolean
  | 5 => .boolean
  | _ => .int
theorem n_M : ∀ a, a < 7 → ∀ b, b < 7 → a ≠ b → (T_M a).2.1 ≠ (T_M b).2.1 := by decide +kernel
theorem fy_M_ok : ∀ k, k < 7 → parseFieldDescriptor (T_M k).2.2.1 = some (fy_M k) := by decide +kernel
def T_K : u_T := fun k => match k with
  | 0 => ("WitnessedMirrorModel", "lease", "I", true)
  | 1 => ("WitnessedMirrorModel", "stable", "[I", true)
  | 2 => ("WitnessedMirrorModel", "cached", "[I", true)
  | 3 => ("WitnessedMirrorModel", "has", "[Z", true)
  | 4 => ("WitnessedMirrorModel", "down", "[Z", true)
  | 5 => ("WitnessedMirrorModel", "alone", "[Z", true)
  | 6 => ("WitnessedMirrorModel", "cutOff", "[Z", true)
  | 7 => ("WitnessedMirrorModel", "generation", "[I", true)
  | 8 => ("WitnessedMirrorModel", "base", "[I", true)
  | 9 => ("WitnessedMirrorModel", "marks", "[I", true)
  | 10 => ("WitnessedMirrorModel", "primary", "I", false)
  | 11 => ("WitnessedMirrorModel", "source", "I", false)
  | 12 => ("WitnessedMirrorModel", "holder", "I", false)
  | 13 => ("WitnessedMirrorModel", "connected", "Z", false)
  | 14 => ("WitnessedMirrorModel", "lineUp", "Z", false)
  | 15 => ("WitnessedMirrorModel", "witness", "I", false)
  | 16 => ("WitnessedMirrorModel", "time", "I", false)
  | 17 => ("WitnessedMirrorModel", "end", "I", false)
  | 18 => ("WitnessedMirrorModel", "entries", "I", false)
  | 19 => ("WitnessedMirrorModel", "entryCell", "[I", true)
  | _ => ("WitnessedMirrorModel", "entryValue", "[I", true)
def fy_K : Nat → FieldType := fun k => match k with
  | 0 => .int
  | 1 => .array .int
  | 2 => .array .int
  | 3 => .array .boolean
  | 4 => .array .boolean
  | 5 => .array .boolean
  | 6 => .array .boolean
  | 7 => .array .int
  | 8 => .array .int
  | 9 => .array .int
  | 10 => .int
  | 11 => .int
  | 12 => .int
  | 13 => .boolean
  | 14 => .boolean
  | 15 => .int
  | 16 => .int
  | 17 => .int
  | 18 => .int
  | 19 => .array .int
  | _ => .array .int
theorem n_K : ∀ a, a < 21 → ∀ b, b < 21 → a ≠ b → (T_K a).2.1 ≠ (T_K b).2.1 := by decide +kernel
theorem fy_K_ok : ∀ k, k < 21 → parseFieldDescriptor (T_K k).2.2.1 = some (fy_K k) := by decide +kernel
abbrev c_M_init : ByteArray := prog_1_method_1_code
def y_M_init : MethodName := ⟨R_M, "<init>", "(I)V"⟩
abbrev c_B_init : ByteArray := prog_2_method_1_code
def y_B_init : MethodName := ⟨R_B, "<init>", "()V"⟩
abbrev c_N_init : ByteArray := prog_4_method_1_code
def y_N_init : MethodName := ⟨R_N, "<init>", "()V"⟩
abbrev c_D_init : ByteArray := prog_3_method_1_code
def y_D_init : MethodName := ⟨R_D, "<init>", "()V"⟩
abbrev c_H_min : ByteArray := prog_9_method_69_code
def y_H_min : MethodName := ⟨R_H, "min", "(II)I"⟩
abbrev c_H_max : ByteArray := prog_9_method_65_code
def y_H_max : MethodName := ⟨R_H, "max", "(II)I"⟩
abbrev c_T_init : ByteArray := prog_5_method_1_code
def y_T_init : MethodName := ⟨R_T, "<init>", "(I)V"⟩
abbrev c_M_stage : ByteArray := prog_1_method_2_code
def y_M_stage : MethodName := ⟨R_M, "stage", "(II)I"⟩
abbrev c_M_isCell : ByteArray := prog_1_method_20_code
def y_M_isCell : MethodName := ⟨R_M, "isCell", "(I)Z"⟩
abbrev c_M_findPrimary : ByteArray := prog_1_method_22_code
def y_M_findPrimary : MethodName := ⟨R_M, "findPrimary", "()I"⟩
abbrev c_B_append : ByteArray := prog_2_method_2_code
def y_B_append : MethodName := ⟨R_B, "append", "(II)V"⟩
abbrev c_M_commit : ByteArray := prog_1_method_3_code
def y_M_commit : MethodName := ⟨R_M, "commit", "(II)I"⟩
abbrev c_M_isUnpaired : ByteArray := prog_1_method_25_code
def y_M_isUnpaired : MethodName := ⟨R_M, "isUnpaired", "(I)Z"⟩
abbrev c_M_goAlone : ByteArray := prog_1_method_26_code
def y_M_goAlone : MethodName := ⟨R_M, "goAlone", "(I)V"⟩
abbrev c_M_doCommitStep : ByteArray := prog_1_method_30_code
def y_M_doCommitStep : MethodName := ⟨R_M, "doCommitStep", "(II)V"⟩
abbrev c_M_flushBy : ByteArray := prog_1_method_29_code
def y_M_flushBy : MethodName := ⟨R_M, "flushBy", "(I)V"⟩
abbrev c_D_flush : ByteArray := prog_3_method_5_code
def y_D_flush : MethodName := ⟨R_D, "flush", "()V"⟩
abbrev c_D_settle : ByteArray := prog_3_method_6_code
def y_D_settle : MethodName := ⟨R_D, "settle", "(I)V"⟩
abbrev c_D_isCached : ByteArray := prog_3_method_2_code
def y_D_isCached : MethodName := ⟨R_D, "isCached", "(I)Z"⟩
abbrev c_M_writeBy : ByteArray := prog_1_method_28_code
def y_M_writeBy : MethodName := ⟨R_M, "writeBy", "(III)V"⟩
abbrev c_D_put : ByteArray := prog_3_method_4_code
def y_D_put : MethodName := ⟨R_D, "put", "(II)V"⟩
abbrev c_M_bringDown : ByteArray := prog_1_method_27_code
def y_M_bringDown : MethodName := ⟨R_M, "bringDown", "(II)V"⟩
abbrev c_D_cachedExtents : ByteArray := prog_3_method_8_code
def y_D_cachedExtents : MethodName := ⟨R_D, "cachedExtents", "()I"⟩
abbrev c_M_makeSecondary : ByteArray := prog_1_method_23_code
def y_M_makeSecondary : MethodName := ⟨R_M, "makeSecondary", "(I)V"⟩
abbrev c_M_disconnect : ByteArray := prog_1_method_24_code
def y_M_disconnect : MethodName := ⟨R_M, "disconnect", "()V"⟩
abbrev c_M_cell : ByteArray := prog_1_method_4_code
def y_M_cell : MethodName := ⟨R_M, "cell", "(I)J"⟩
abbrev c_D_held : ByteArray := prog_3_method_3_code
def y_D_held : MethodName := ⟨R_D, "held", "(I)I"⟩
abbrev c_M_crash : ByteArray := prog_1_method_5_code
def y_M_crash : MethodName := ⟨R_M, "crash", "(II)I"⟩
abbrev c_M_isNode : ByteArray := prog_1_method_19_code
def y_M_isNode : MethodName := ⟨R_M, "isNode", "(I)Z"⟩
abbrev c_M_restart : ByteArray := prog_1_method_6_code
def y_M_restart : MethodName := ⟨R_M, "restart", "(I)I"⟩
abbrev c_M_swap : ByteArray := prog_1_method_7_code
def y_M_swap : MethodName := ⟨R_M, "swap", "(I)I"⟩
abbrev c_N_renewDisk : ByteArray := prog_4_method_3_code
def y_N_renewDisk : MethodName := ⟨R_N, "renewDisk", "()V"⟩
abbrev c_D_erase : ByteArray := prog_3_method_9_code
def y_D_erase : MethodName := ⟨R_D, "erase", "()V"⟩
abbrev c_Y_fill : ByteArray := prog_10_method_103_code
def y_Y_fill : MethodName := ⟨R_Y, "fill", "([II)V"⟩
abbrev c_M_line : ByteArray := prog_1_method_8_code
def y_M_line : MethodName := ⟨R_M, "line", "(Z)I"⟩
abbrev c_M_witnessLine : ByteArray := prog_1_method_9_code
def y_M_witnessLine : MethodName := ⟨R_M, "witnessLine", "(IZ)I"⟩
abbrev c_M_connect : ByteArray := prog_1_method_10_code
def y_M_connect : MethodName := ⟨R_M, "connect", "()I"⟩
abbrev c_M_chooseSource : ByteArray := prog_1_method_32_code
def y_M_chooseSource : MethodName := ⟨R_M, "chooseSource", "()I"⟩
abbrev c_M_extentsThatMayDiffer : ByteArray := prog_1_method_33_code
def y_M_extentsThatMayDiffer : MethodName := ⟨R_M, "extentsThatMayDiffer", "()I"⟩
abbrev c_M_finishSync : ByteArray := prog_1_method_35_code
def y_M_finishSync : MethodName := ⟨R_M, "finishSync", "()V"⟩
abbrev c_M_startSync : ByteArray := prog_1_method_34_code
def y_M_startSync : MethodName := ⟨R_M, "startSync", "(I)V"⟩
abbrev c_J_bitCount : ByteArray := prog_8_method_49_code
def y_J_bitCount : MethodName := ⟨R_J, "bitCount", "(I)I"⟩
abbrev c_M_resync : ByteArray := prog_1_method_11_code
def y_M_resync : MethodName := ⟨R_M, "resync", "(I)I"⟩
abbrev c_J_numberOfTrailingZeros : ByteArray := prog_8_method_48_code
def y_J_numberOfTrailingZeros : MethodName := ⟨R_J, "numberOfTrailingZeros", "(I)I"⟩
abbrev c_M_copyExtent : ByteArray := prog_1_method_36_code
def y_M_copyExtent : MethodName := ⟨R_M, "copyExtent", "(I)V"⟩
abbrev c_M_promote : ByteArray := prog_1_method_12_code
def y_M_promote : MethodName := ⟨R_M, "promote", "(IZ)I"⟩
abbrev c_N_mayAskForLease : ByteArray := prog_4_method_2_code
def y_N_mayAskForLease : MethodName := ⟨R_N, "mayAskForLease", "()Z"⟩
abbrev c_T_isLentTo : ByteArray := prog_5_method_3_code
def y_T_isLentTo : MethodName := ⟨R_T, "isLentTo", "(I)Z"⟩
abbrev c_T_isRunning : ByteArray := prog_5_method_2_code
def y_T_isRunning : MethodName := ⟨R_T, "isRunning", "()Z"⟩
abbrev c_T_lendTo : ByteArray := prog_5_method_4_code
def y_T_lendTo : MethodName := ⟨R_T, "lendTo", "(I)V"⟩
abbrev c_T_extendLease : ByteArray := prog_5_method_5_code
def y_T_extendLease : MethodName := ⟨R_T, "extendLease", "()V"⟩
abbrev c_M_redoJournal : ByteArray := prog_1_method_31_code
def y_M_redoJournal : MethodName := ⟨R_M, "redoJournal", "(I)I"⟩
abbrev c_M_demote : ByteArray := prog_1_method_13_code
def y_M_demote : MethodName := ⟨R_M, "demote", "(I)I"⟩
abbrev c_M_renew : ByteArray := prog_1_method_14_code
def y_M_renew : MethodName := ⟨R_M, "renew", "()I"⟩
abbrev c_M_tick : ByteArray := prog_1_method_15_code
def y_M_tick : MethodName := ⟨R_M, "tick", "(I)I"⟩
abbrev c_M_block : ByteArray := prog_1_method_16_code
def y_M_block : MethodName := ⟨R_M, "block", "(IIZ)J"⟩
abbrev c_M_node : ByteArray := prog_1_method_17_code
def y_M_node : MethodName := ⟨R_M, "node", "(II)I"⟩
abbrev c_M_asNumber : ByteArray := prog_1_method_21_code
def y_M_asNumber : MethodName := ⟨R_M, "asNumber", "(Z)I"⟩
abbrev c_D_countCached : ByteArray := prog_3_method_7_code
def y_D_countCached : MethodName := ⟨R_D, "countCached", "()I"⟩
abbrev c_M_mirror : ByteArray := prog_1_method_18_code
def y_M_mirror : MethodName := ⟨R_M, "mirror", "(I)I"⟩
abbrev c_L_cell : ByteArray := method_2_code
def y_L_cell : MethodName := ⟨R_L, "cell", "([II)I"⟩
abbrev c_K_init : ByteArray := prog_7_method_1_code
def y_K_init : MethodName := ⟨R_K, "<init>", "(I)V"⟩
abbrev c_K_stage : ByteArray := prog_7_method_13_code
def y_K_stage : MethodName := ⟨R_K, "stage", "(II)I"⟩
abbrev c_K_out : ByteArray := prog_7_method_2_code
def y_K_out : MethodName := ⟨R_K, "out", "(II)Z"⟩
abbrev c_K_commit : ByteArray := prog_7_method_14_code
def y_K_commit : MethodName := ⟨R_K, "commit", "(II)I"⟩
abbrev c_K_goAlone : ByteArray := prog_7_method_7_code
def y_K_goAlone : MethodName := ⟨R_K, "goAlone", "(I)V"⟩
abbrev c_K_step : ByteArray := prog_7_method_12_code
def y_K_step : MethodName := ⟨R_K, "step", "(II)V"⟩
abbrev c_K_flushStep : ByteArray := prog_7_method_11_code
def y_K_flushStep : MethodName := ⟨R_K, "flushStep", "()V"⟩
abbrev c_K_settle : ByteArray := prog_7_method_10_code
def y_K_settle : MethodName := ⟨R_K, "settle", "(I)V"⟩
abbrev c_K_holds : ByteArray := prog_7_method_3_code
def y_K_holds : MethodName := ⟨R_K, "holds", "(II)I"⟩
abbrev c_K_writeStep : ByteArray := prog_7_method_9_code
def y_K_writeStep : MethodName := ⟨R_K, "writeStep", "(II)V"⟩
abbrev c_K_keepIn : ByteArray := prog_7_method_8_code
def y_K_keepIn : MethodName := ⟨R_K, "keepIn", "(III)V"⟩
abbrev c_K_extentBit : ByteArray := prog_7_method_4_code
def y_K_extentBit : MethodName := ⟨R_K, "extentBit", "(I)I"⟩
abbrev c_K_crash : ByteArray := prog_7_method_16_code
def y_K_crash : MethodName := ⟨R_K, "crash", "(II)I"⟩
abbrev c_K_noPrimary : ByteArray := prog_7_method_6_code
def y_K_noPrimary : MethodName := ⟨R_K, "noPrimary", "()V"⟩
abbrev c_K_disconnect : ByteArray := prog_7_method_5_code
def y_K_disconnect : MethodName := ⟨R_K, "disconnect", "()V"⟩
abbrev c_K_cell : ByteArray := prog_7_method_15_code
def y_K_cell : MethodName := ⟨R_K, "cell", "(I)J"⟩
abbrev c_K_restart : ByteArray := prog_7_method_17_code
def y_K_restart : MethodName := ⟨R_K, "restart", "(I)I"⟩
abbrev c_K_swap : ByteArray := prog_7_method_18_code
def y_K_swap : MethodName := ⟨R_K, "swap", "(I)I"⟩
abbrev c_K_line : ByteArray := prog_7_method_19_code
def y_K_line : MethodName := ⟨R_K, "line", "(Z)I"⟩
abbrev c_K_witnessLine : ByteArray := prog_7_method_20_code
def y_K_witnessLine : MethodName := ⟨R_K, "witnessLine", "(IZ)I"⟩
abbrev c_K_connect : ByteArray := prog_7_method_22_code
def y_K_connect : MethodName := ⟨R_K, "connect", "()I"⟩
abbrev c_K_finished : ByteArray := prog_7_method_21_code
def y_K_finished : MethodName := ⟨R_K, "finished", "(I)V"⟩
abbrev c_K_resync : ByteArray := prog_7_method_23_code
def y_K_resync : MethodName := ⟨R_K, "resync", "(I)I"⟩
abbrev c_K_promote : ByteArray := prog_7_method_24_code
def y_K_promote : MethodName := ⟨R_K, "promote", "(IZ)I"⟩
abbrev c_K_demote : ByteArray := prog_7_method_25_code
def y_K_demote : MethodName := ⟨R_K, "demote", "(I)I"⟩
abbrev c_K_renew : ByteArray := prog_7_method_26_code
def y_K_renew : MethodName := ⟨R_K, "renew", "()I"⟩
abbrev c_K_tick : ByteArray := prog_7_method_27_code
def y_K_tick : MethodName := ⟨R_K, "tick", "(I)I"⟩
abbrev c_K_block : ByteArray := prog_7_method_28_code
def y_K_block : MethodName := ⟨R_K, "block", "(IIZ)J"⟩
abbrev c_K_node : ByteArray := prog_7_method_29_code
def y_K_node : MethodName := ⟨R_K, "node", "(II)I"⟩
abbrev c_K_mirror : ByteArray := prog_7_method_30_code
def y_K_mirror : MethodName := ⟨R_K, "mirror", "(I)I"⟩
abbrev c_L_law : ByteArray := code
def y_L_law : MethodName := ⟨R_L, "law", "([I)Z"⟩
abbrev vwCl : List vw_C := [(R_B, T_B, 3), (R_D, T_D, 3), (R_N, T_N, 8), (R_T, T_T, 5), (R_M, T_M, 7), (R_K, T_K, 21)]
def gT : List Cond := lw_tbl.filter goodWord
theorem gT_in : ∀ w ∈ gT, w ∈ lw_tbl := fun _ h => (List.mem_filter.mp h).1
theorem gT_good : ∀ w ∈ gT, goodWord w = true := fun _ h => (List.mem_filter.mp h).2
theorem g_p {w : Cond} {i : Nat} (h : (k2_sels lw_privs)[i]? = some w) (g : goodWord w = true) : w ∈ gT := List.mem_filter.mpr ⟨List.mem_append_left _ (List.mem_of_getElem? h), g⟩
theorem g_1 {w : Cond} {i : Nat} (h : tables_1_1[i]? = some w) (g : goodWord w = true) : w ∈ gT := List.mem_filter.mpr ⟨List.mem_append_right _ (List.mem_append_left _ (List.mem_of_getElem? h)), g⟩
theorem g_2 {w : Cond} {i : Nat} (h : tables_1_2[i]? = some w) (g : goodWord w = true) : w ∈ gT := List.mem_filter.mpr ⟨List.mem_append_right _ (List.mem_append_right _ (List.mem_append_left _ (List.mem_of_getElem? h))), g⟩
theorem g_3 {w : Cond} {i : Nat} (h : tables_1_3[i]? = some w) (g : goodWord w = true) : w ∈ gT := List.mem_filter.mpr ⟨List.mem_append_right _ (List.mem_append_right _ (List.mem_append_right _ (List.mem_of_getElem? h))), g⟩
theorem gm_0 : (.selects R_M y_M_findPrimary y_M_findPrimary : Cond) ∈ gT := g_p (i := 0) rfl rfl
theorem gm_1 : (.selects R_M y_M_isUnpaired y_M_isUnpaired : Cond) ∈ gT := g_p (i := 1) rfl rfl
theorem gm_2 : (.selects R_M y_M_goAlone y_M_goAlone : Cond) ∈ gT := g_p (i := 2) rfl rfl
theorem gm_3 : (.selects R_M y_M_doCommitStep y_M_doCommitStep : Cond) ∈ gT := g_p (i := 3) rfl rfl
theorem gm_4 : (.selects R_M y_M_flushBy y_M_flushBy : Cond) ∈ gT := g_p (i := 4) rfl rfl
theorem gm_5 : (.selects R_M y_M_writeBy y_M_writeBy : Cond) ∈ gT := g_p (i := 5) rfl rfl
theorem gm_6 : (.selects R_M y_M_bringDown y_M_bringDown : Cond) ∈ gT := g_p (i := 6) rfl rfl
theorem gm_7 : (.selects R_M y_M_makeSecondary y_M_makeSecondary : Cond) ∈ gT := g_p (i := 7) rfl rfl
theorem gm_8 : (.selects R_M y_M_disconnect y_M_disconnect : Cond) ∈ gT := g_p (i := 8) rfl rfl
theorem gm_9 : (.selects R_M y_M_chooseSource y_M_chooseSource : Cond) ∈ gT := g_p (i := 9) rfl rfl
theorem gm_10 : (.selects R_M y_M_extentsThatMayDiffer y_M_extentsThatMayDiffer : Cond) ∈ gT := g_p (i := 10) rfl rfl
theorem gm_11 : (.selects R_M y_M_finishSync y_M_finishSync : Cond) ∈ gT := g_p (i := 11) rfl rfl
theorem gm_12 : (.selects R_M y_M_startSync y_M_startSync : Cond) ∈ gT := g_p (i := 12) rfl rfl
theorem gm_13 : (.selects R_M y_M_copyExtent y_M_copyExtent : Cond) ∈ gT := g_p (i := 13) rfl rfl
theorem gm_14 : (.selects R_M y_M_redoJournal y_M_redoJournal : Cond) ∈ gT := g_p (i := 14) rfl rfl
theorem gm_15 : (.selects R_K y_K_out y_K_out : Cond) ∈ gT := g_p (i := 15) rfl rfl
theorem gm_16 : (.selects R_K y_K_goAlone y_K_goAlone : Cond) ∈ gT := g_p (i := 16) rfl rfl
theorem gm_17 : (.selects R_K y_K_step y_K_step : Cond) ∈ gT := g_p (i := 17) rfl rfl
theorem gm_18 : (.selects R_K y_K_flushStep y_K_flushStep : Cond) ∈ gT := g_p (i := 18) rfl rfl
theorem gm_19 : (.selects R_K y_K_settle y_K_settle : Cond) ∈ gT := g_p (i := 19) rfl rfl
theorem gm_20 : (.selects R_K y_K_holds y_K_holds : Cond) ∈ gT := g_p (i := 20) rfl rfl
theorem gm_21 : (.selects R_K y_K_writeStep y_K_writeStep : Cond) ∈ gT := g_p (i := 21) rfl rfl
theorem gm_22 : (.selects R_K y_K_keepIn y_K_keepIn : Cond) ∈ gT := g_p (i := 22) rfl rfl
theorem gm_23 : (.selects R_K y_K_extentBit y_K_extentBit : Cond) ∈ gT := g_p (i := 23) rfl rfl
theorem gm_24 : (.selects R_K y_K_noPrimary y_K_noPrimary : Cond) ∈ gT := g_p (i := 24) rfl rfl
theorem gm_25 : (.selects R_K y_K_disconnect y_K_disconnect : Cond) ∈ gT := g_p (i := 25) rfl rfl
theorem gm_26 : (.selects R_K y_K_finished y_K_finished : Cond) ∈ gT := g_p (i := 26) rfl rfl
theorem gm_27 : (.initialized R_L : Cond) ∈ gT := g_1 (i := 0) rfl rfl
theorem gm_28 : (.initialized R_M : Cond) ∈ gT := g_1 (i := 1) rfl rfl
theorem gm_29 : (.initialized R_B : Cond) ∈ gT := g_1 (i := 2) rfl rfl
theorem gm_30 : (.initialized R_N : Cond) ∈ gT := g_1 (i := 3) rfl rfl
theorem gm_31 : (.initialized R_D : Cond) ∈ gT := g_1 (i := 4) rfl rfl
theorem gm_32 : (.initialized R_T : Cond) ∈ gT := g_1 (i := 5) rfl rfl
theorem gm_33 : (.initialized R_H : Cond) ∈ gT := g_1 (i := 6) rfl rfl
theorem gm_34 : (.initialized R_K : Cond) ∈ gT := g_1 (i := 7) rfl rfl
theorem gm_35 : (.initialized R_Y : Cond) ∈ gT := g_1 (i := 8) rfl rfl
theorem gm_36 : (.initialized R_J : Cond) ∈ gT := g_1 (i := 9) rfl rfl
theorem gm_37 : (.classLink R_L 7 R_M : Cond) ∈ gT := g_1 (i := 10) rfl rfl
theorem gm_38 : (.instantiable R_M 7 : Cond) ∈ gT := g_1 (i := 11) rfl rfl
theorem gm_39 : (.methodLink R_L 15 y_M_init : Cond) ∈ gT := g_1 (i := 12) rfl rfl
theorem gm_40 : (.instanceMethod y_M_init : Cond) ∈ gT := g_1 (i := 13) rfl rfl
theorem gm_41 : (.code y_M_init c_M_init 2 none : Cond) ∈ gT := g_1 (i := 14) rfl rfl
theorem gm_42 : (.methodLink R_M 1 objectInit : Cond) ∈ gT := g_1 (i := 15) rfl rfl
theorem gm_43 : (.instanceMethod objectInit : Cond) ∈ gT := g_1 (i := 16) rfl rfl
theorem gm_44 : (.code objectInit object_method_1_code 1 none : Cond) ∈ gT := g_1 (i := 17) rfl rfl
theorem gm_45 : (.classLink R_M 9 R_N : Cond) ∈ gT := g_1 (i := 18) rfl rfl
theorem gm_47 : (.classLink R_M 15 R_B : Cond) ∈ gT := g_1 (i := 20) rfl rfl
theorem gm_48 : (.instantiable R_B 3 : Cond) ∈ gT := g_1 (i := 21) rfl rfl
theorem gm_50 : (.instanceMethod y_B_init : Cond) ∈ gT := g_1 (i := 23) rfl rfl
theorem gm_51 : (.code y_B_init c_B_init 1 none : Cond) ∈ gT := g_1 (i := 24) rfl rfl
theorem gm_52 : (.methodLink R_B 3 objectInit : Cond) ∈ gT := g_1 (i := 25) rfl rfl
theorem gm_53 : (.fieldLink R_B 9 "WitnessedMirror$Batch" "cells" "[I" : Cond) ∈ gT := g_1 (i := 26) rfl rfl
theorem gm_54 : (.fieldLink R_M 209 "WitnessedMirror$Batch" "cells" "[I" : Cond) ∈ gT := g_1 (i := 27) rfl rfl
theorem gm_55 : (.fieldLink R_B 15 "WitnessedMirror$Batch" "values" "[I" : Cond) ∈ gT := g_1 (i := 28) rfl rfl
theorem gm_56 : (.fieldLink R_M 212 "WitnessedMirror$Batch" "values" "[I" : Cond) ∈ gT := g_1 (i := 29) rfl rfl
theorem gm_57 : (.fieldLink R_B 18 "WitnessedMirror$Batch" "size" "I" : Cond) ∈ gT := g_1 (i := 30) rfl rfl
theorem gm_58 : (.fieldLink R_M 63 "WitnessedMirror$Batch" "size" "I" : Cond) ∈ gT := g_1 (i := 31) rfl rfl
theorem gm_59 : (.laysFinal R_B "WitnessedMirror$Batch" "cells" "[I" : Cond) ∈ gT := g_1 (i := 32) rfl rfl
theorem gm_61 : (.laysFinal R_B "WitnessedMirror$Batch" "values" "[I" : Cond) ∈ gT := g_1 (i := 34) rfl rfl
theorem gm_63 : (.lays R_B "WitnessedMirror$Batch" "size" "I" : Cond) ∈ gT := g_1 (i := 36) rfl rfl
theorem gm_66 : (.arrayClass .int : Cond) ∈ gT := g_1 (i := 39) rfl rfl
theorem gm_67 : (.instantiable R_N 8 : Cond) ∈ gT := g_1 (i := 40) rfl rfl
theorem gm_69 : (.instanceMethod y_N_init : Cond) ∈ gT := g_1 (i := 42) rfl rfl
theorem gm_70 : (.code y_N_init c_N_init 1 none : Cond) ∈ gT := g_1 (i := 43) rfl rfl
theorem gm_71 : (.methodLink R_N 1 objectInit : Cond) ∈ gT := g_1 (i := 44) rfl rfl
theorem gm_72 : (.classLink R_N 7 R_D : Cond) ∈ gT := g_1 (i := 45) rfl rfl
theorem gm_73 : (.instantiable R_D 3 : Cond) ∈ gT := g_1 (i := 46) rfl rfl
theorem gm_75 : (.instanceMethod y_D_init : Cond) ∈ gT := g_1 (i := 48) rfl rfl
theorem gm_76 : (.code y_D_init c_D_init 1 none : Cond) ∈ gT := g_1 (i := 49) rfl rfl
theorem gm_77 : (.methodLink R_D 3 objectInit : Cond) ∈ gT := g_1 (i := 50) rfl rfl
theorem gm_78 : (.fieldLink R_D 9 "WitnessedMirror$Disk" "stable" "[I" : Cond) ∈ gT := g_1 (i := 51) rfl rfl
theorem gm_79 : (.fieldLink R_M 176 "WitnessedMirror$Disk" "stable" "[I" : Cond) ∈ gT := g_1 (i := 52) rfl rfl
theorem gm_80 : (.fieldLink R_D 15 "WitnessedMirror$Disk" "cached" "[I" : Cond) ∈ gT := g_1 (i := 53) rfl rfl
theorem gm_81 : (.fieldLink R_D 18 "WitnessedMirror$Disk" "cachedBits" "I" : Cond) ∈ gT := g_1 (i := 54) rfl rfl
theorem gm_82 : (.laysFinal R_D "WitnessedMirror$Disk" "stable" "[I" : Cond) ∈ gT := g_1 (i := 55) rfl rfl
theorem gm_84 : (.laysFinal R_D "WitnessedMirror$Disk" "cached" "[I" : Cond) ∈ gT := g_1 (i := 57) rfl rfl
theorem gm_86 : (.lays R_D "WitnessedMirror$Disk" "cachedBits" "I" : Cond) ∈ gT := g_1 (i := 59) rfl rfl
theorem gm_89 : (.fieldLink R_N 10 "WitnessedMirror$Node" "disk" "LWitnessedMirror$Disk;" : Cond) ∈ gT := g_1 (i := 62) rfl rfl
theorem gm_90 : (.fieldLink R_M 87 "WitnessedMirror$Node" "disk" "LWitnessedMirror$Disk;" : Cond) ∈ gT := g_1 (i := 63) rfl rfl
theorem gm_91 : (.fieldLink R_N 16 "WitnessedMirror$Node" "up" "Z" : Cond) ∈ gT := g_1 (i := 64) rfl rfl
theorem gm_92 : (.fieldLink R_M 100 "WitnessedMirror$Node" "up" "Z" : Cond) ∈ gT := g_1 (i := 65) rfl rfl
theorem gm_93 : (.fieldLink R_N 20 "WitnessedMirror$Node" "primary" "Z" : Cond) ∈ gT := g_1 (i := 66) rfl rfl
theorem gm_94 : (.fieldLink R_M 149 "WitnessedMirror$Node" "primary" "Z" : Cond) ∈ gT := g_1 (i := 67) rfl rfl
theorem gm_95 : (.fieldLink R_N 23 "WitnessedMirror$Node" "generation" "I" : Cond) ∈ gT := g_1 (i := 68) rfl rfl
theorem gm_96 : (.fieldLink R_M 109 "WitnessedMirror$Node" "generation" "I" : Cond) ∈ gT := g_1 (i := 69) rfl rfl
theorem gm_97 : (.fieldLink R_N 27 "WitnessedMirror$Node" "base" "I" : Cond) ∈ gT := g_1 (i := 70) rfl rfl
theorem gm_98 : (.fieldLink R_M 184 "WitnessedMirror$Node" "base" "I" : Cond) ∈ gT := g_1 (i := 71) rfl rfl
theorem gm_99 : (.fieldLink R_N 30 "WitnessedMirror$Node" "alone" "Z" : Cond) ∈ gT := g_1 (i := 72) rfl rfl
theorem gm_100 : (.fieldLink R_M 187 "WitnessedMirror$Node" "alone" "Z" : Cond) ∈ gT := g_1 (i := 73) rfl rfl
theorem gm_101 : (.fieldLink R_N 33 "WitnessedMirror$Node" "marks" "I" : Cond) ∈ gT := g_1 (i := 74) rfl rfl
theorem gm_102 : (.fieldLink R_M 129 "WitnessedMirror$Node" "marks" "I" : Cond) ∈ gT := g_1 (i := 75) rfl rfl
theorem gm_103 : (.fieldLink R_N 36 "WitnessedMirror$Node" "witnessLineUp" "Z" : Cond) ∈ gT := g_1 (i := 76) rfl rfl
theorem gm_104 : (.fieldLink R_M 73 "WitnessedMirror$Node" "witnessLineUp" "Z" : Cond) ∈ gT := g_1 (i := 77) rfl rfl
theorem gm_105 : (.laysFinal R_N "WitnessedMirror$Node" "disk" "LWitnessedMirror$Disk;" : Cond) ∈ gT := g_1 (i := 78) rfl rfl
theorem gm_107 : (.lays R_N "WitnessedMirror$Node" "up" "Z" : Cond) ∈ gT := g_1 (i := 80) rfl rfl
theorem gm_109 : (.lays R_N "WitnessedMirror$Node" "primary" "Z" : Cond) ∈ gT := g_1 (i := 82) rfl rfl
theorem gm_111 : (.lays R_N "WitnessedMirror$Node" "generation" "I" : Cond) ∈ gT := g_1 (i := 84) rfl rfl
theorem gm_113 : (.lays R_N "WitnessedMirror$Node" "base" "I" : Cond) ∈ gT := g_1 (i := 86) rfl rfl
theorem gm_115 : (.lays R_N "WitnessedMirror$Node" "alone" "Z" : Cond) ∈ gT := g_1 (i := 88) rfl rfl
theorem gm_117 : (.lays R_N "WitnessedMirror$Node" "marks" "I" : Cond) ∈ gT := g_1 (i := 90) rfl rfl
theorem gm_119 : (.lays R_N "WitnessedMirror$Node" "witnessLineUp" "Z" : Cond) ∈ gT := g_1 (i := 92) rfl rfl
theorem gm_122 : (.classLink R_M 37 R_T : Cond) ∈ gT := g_1 (i := 95) rfl rfl
theorem gm_123 : (.instantiable R_T 5 : Cond) ∈ gT := g_1 (i := 96) rfl rfl
theorem gm_124 : (.methodLink R_M 39 y_H_min : Cond) ∈ gT := g_1 (i := 97) rfl rfl
theorem gm_125 : (.static y_H_min : Cond) ∈ gT := g_1 (i := 98) rfl rfl
theorem gm_126 : (.code y_H_min c_H_min 2 (some .int) : Cond) ∈ gT := g_1 (i := 99) rfl rfl
theorem gm_127 : (.methodLink R_M 45 y_H_max : Cond) ∈ gT := g_1 (i := 100) rfl rfl
theorem gm_128 : (.static y_H_max : Cond) ∈ gT := g_1 (i := 101) rfl rfl
theorem gm_129 : (.code y_H_max c_H_max 2 (some .int) : Cond) ∈ gT := g_1 (i := 102) rfl rfl
theorem gm_130 : (.methodLink R_M 48 y_T_init : Cond) ∈ gT := g_1 (i := 103) rfl rfl
theorem gm_131 : (.instanceMethod y_T_init : Cond) ∈ gT := g_1 (i := 104) rfl rfl
theorem gm_132 : (.code y_T_init c_T_init 2 none : Cond) ∈ gT := g_1 (i := 105) rfl rfl
theorem gm_133 : (.methodLink R_T 3 objectInit : Cond) ∈ gT := g_1 (i := 106) rfl rfl
theorem gm_134 : (.fieldLink R_T 24 "WitnessedMirror$Witness" "length" "I" : Cond) ∈ gT := g_1 (i := 107) rfl rfl
theorem gm_135 : (.fieldLink R_T 9 "WitnessedMirror$Witness" "generation" "I" : Cond) ∈ gT := g_1 (i := 108) rfl rfl
theorem gm_136 : (.fieldLink R_M 145 "WitnessedMirror$Witness" "generation" "I" : Cond) ∈ gT := g_1 (i := 109) rfl rfl
theorem gm_137 : (.fieldLink R_T 15 "WitnessedMirror$Witness" "time" "I" : Cond) ∈ gT := g_1 (i := 110) rfl rfl
theorem gm_138 : (.fieldLink R_M 170 "WitnessedMirror$Witness" "time" "I" : Cond) ∈ gT := g_1 (i := 111) rfl rfl
theorem gm_139 : (.fieldLink R_T 18 "WitnessedMirror$Witness" "holder" "I" : Cond) ∈ gT := g_1 (i := 112) rfl rfl
theorem gm_140 : (.fieldLink R_M 161 "WitnessedMirror$Witness" "holder" "I" : Cond) ∈ gT := g_1 (i := 113) rfl rfl
theorem gm_141 : (.fieldLink R_T 21 "WitnessedMirror$Witness" "end" "I" : Cond) ∈ gT := g_1 (i := 114) rfl rfl
theorem gm_142 : (.fieldLink R_M 167 "WitnessedMirror$Witness" "end" "I" : Cond) ∈ gT := g_1 (i := 115) rfl rfl
theorem gm_143 : (.laysFinal R_T "WitnessedMirror$Witness" "length" "I" : Cond) ∈ gT := g_1 (i := 116) rfl rfl
theorem gm_145 : (.lays R_T "WitnessedMirror$Witness" "generation" "I" : Cond) ∈ gT := g_1 (i := 118) rfl rfl
theorem gm_147 : (.lays R_T "WitnessedMirror$Witness" "time" "I" : Cond) ∈ gT := g_1 (i := 120) rfl rfl
theorem gm_149 : (.lays R_T "WitnessedMirror$Witness" "holder" "I" : Cond) ∈ gT := g_1 (i := 122) rfl rfl
theorem gm_151 : (.lays R_T "WitnessedMirror$Witness" "end" "I" : Cond) ∈ gT := g_1 (i := 124) rfl rfl
theorem gm_154 : (.fieldLink R_M 11 "WitnessedMirror" "nodes" "[LWitnessedMirror$Node;" : Cond) ∈ gT := g_1 (i := 127) rfl rfl
theorem gm_155 : (.fieldLink R_M 51 "WitnessedMirror" "witness" "LWitnessedMirror$Witness;" : Cond) ∈ gT := g_1 (i := 128) rfl rfl
theorem gm_156 : (.fieldLink R_M 18 "WitnessedMirror" "batch" "LWitnessedMirror$Batch;" : Cond) ∈ gT := g_1 (i := 129) rfl rfl
theorem gm_157 : (.fieldLink R_M 22 "WitnessedMirror" "lineUp" "Z" : Cond) ∈ gT := g_1 (i := 130) rfl rfl
theorem gm_158 : (.fieldLink R_M 26 "WitnessedMirror" "connected" "Z" : Cond) ∈ gT := g_1 (i := 131) rfl rfl
theorem gm_159 : (.fieldLink R_M 29 "WitnessedMirror" "syncing" "Z" : Cond) ∈ gT := g_1 (i := 132) rfl rfl
theorem gm_160 : (.fieldLink R_M 32 "WitnessedMirror" "source" "I" : Cond) ∈ gT := g_1 (i := 133) rfl rfl
theorem gm_161 : (.laysFinal R_M "WitnessedMirror" "nodes" "[LWitnessedMirror$Node;" : Cond) ∈ gT := g_1 (i := 134) rfl rfl
theorem gm_163 : (.laysFinal R_M "WitnessedMirror" "witness" "LWitnessedMirror$Witness;" : Cond) ∈ gT := g_1 (i := 136) rfl rfl
theorem gm_165 : (.laysFinal R_M "WitnessedMirror" "batch" "LWitnessedMirror$Batch;" : Cond) ∈ gT := g_1 (i := 138) rfl rfl
theorem gm_167 : (.lays R_M "WitnessedMirror" "lineUp" "Z" : Cond) ∈ gT := g_1 (i := 140) rfl rfl
theorem gm_169 : (.lays R_M "WitnessedMirror" "connected" "Z" : Cond) ∈ gT := g_1 (i := 142) rfl rfl
theorem gm_171 : (.lays R_M "WitnessedMirror" "syncing" "Z" : Cond) ∈ gT := g_1 (i := 144) rfl rfl
theorem gm_173 : (.lays R_M "WitnessedMirror" "source" "I" : Cond) ∈ gT := g_1 (i := 146) rfl rfl
theorem gm_176 : (.methodLink R_L 21 y_M_stage : Cond) ∈ gT := g_1 (i := 149) rfl rfl
theorem gm_177 : (.instanceMethod y_M_stage : Cond) ∈ gT := g_1 (i := 150) rfl rfl
theorem gm_178 : (.selects R_M y_M_stage y_M_stage : Cond) ∈ gT := g_1 (i := 151) rfl rfl
theorem gm_179 : (.code y_M_stage c_M_stage 3 (some .int) : Cond) ∈ gT := g_1 (i := 152) rfl rfl
theorem gm_180 : (.methodLink R_M 55 y_M_isCell : Cond) ∈ gT := g_1 (i := 153) rfl rfl
theorem gm_181 : (.static y_M_isCell : Cond) ∈ gT := g_1 (i := 154) rfl rfl
theorem gm_182 : (.code y_M_isCell c_M_isCell 1 (some .boolean) : Cond) ∈ gT := g_1 (i := 155) rfl rfl
theorem gm_183 : (.methodLink R_M 59 y_M_findPrimary : Cond) ∈ gT := g_1 (i := 156) rfl rfl
theorem gm_185 : (.instanceMethod y_M_findPrimary : Cond) ∈ gT := g_1 (i := 158) rfl rfl
theorem gm_186 : (.code y_M_findPrimary c_M_findPrimary 1 (some .int) : Cond) ∈ gT := g_1 (i := 159) rfl rfl
theorem gm_187 : (.methodLink R_M 66 y_B_append : Cond) ∈ gT := g_1 (i := 160) rfl rfl
theorem gm_188 : (.instanceMethod y_B_append : Cond) ∈ gT := g_1 (i := 161) rfl rfl
theorem gm_189 : (.selects R_B y_B_append y_B_append : Cond) ∈ gT := g_1 (i := 162) rfl rfl
theorem gm_190 : (.code y_B_append c_B_append 3 none : Cond) ∈ gT := g_1 (i := 163) rfl rfl
theorem gm_191 : (.methodLink R_L 26 y_M_commit : Cond) ∈ gT := g_1 (i := 164) rfl rfl
theorem gm_192 : (.instanceMethod y_M_commit : Cond) ∈ gT := g_1 (i := 165) rfl rfl
theorem gm_193 : (.selects R_M y_M_commit y_M_commit : Cond) ∈ gT := g_1 (i := 166) rfl rfl
theorem gm_194 : (.code y_M_commit c_M_commit 8 (some .int) : Cond) ∈ gT := g_1 (i := 167) rfl rfl
theorem gm_195 : (.methodLink R_M 70 y_M_isUnpaired : Cond) ∈ gT := g_1 (i := 168) rfl rfl
theorem gm_197 : (.instanceMethod y_M_isUnpaired : Cond) ∈ gT := g_1 (i := 170) rfl rfl
theorem gm_198 : (.code y_M_isUnpaired c_M_isUnpaired 2 (some .boolean) : Cond) ∈ gT := g_1 (i := 171) rfl rfl
theorem gm_199 : (.methodLink R_M 76 y_M_goAlone : Cond) ∈ gT := g_1 (i := 172) rfl rfl
theorem gm_201 : (.instanceMethod y_M_goAlone : Cond) ∈ gT := g_1 (i := 174) rfl rfl
theorem gm_202 : (.code y_M_goAlone c_M_goAlone 2 none : Cond) ∈ gT := g_1 (i := 175) rfl rfl
theorem gm_203 : (.methodLink R_M 79 y_M_doCommitStep : Cond) ∈ gT := g_1 (i := 176) rfl rfl
theorem gm_205 : (.instanceMethod y_M_doCommitStep : Cond) ∈ gT := g_1 (i := 178) rfl rfl
theorem gm_206 : (.code y_M_doCommitStep c_M_doCommitStep 8 none : Cond) ∈ gT := g_1 (i := 179) rfl rfl
theorem gm_207 : (.methodLink R_M 155 y_M_flushBy : Cond) ∈ gT := g_1 (i := 180) rfl rfl
theorem gm_209 : (.instanceMethod y_M_flushBy : Cond) ∈ gT := g_1 (i := 182) rfl rfl
theorem gm_210 : (.code y_M_flushBy c_M_flushBy 2 none : Cond) ∈ gT := g_1 (i := 183) rfl rfl
theorem gm_211 : (.methodLink R_M 202 y_D_flush : Cond) ∈ gT := g_1 (i := 184) rfl rfl
theorem gm_212 : (.instanceMethod y_D_flush : Cond) ∈ gT := g_1 (i := 185) rfl rfl
theorem gm_213 : (.selects R_D y_D_flush y_D_flush : Cond) ∈ gT := g_1 (i := 186) rfl rfl
theorem gm_214 : (.code y_D_flush c_D_flush 1 none : Cond) ∈ gT := g_1 (i := 187) rfl rfl
theorem gm_215 : (.methodLink R_D 26 y_D_settle : Cond) ∈ gT := g_1 (i := 188) rfl rfl
theorem gm_216 : (.instanceMethod y_D_settle : Cond) ∈ gT := g_1 (i := 189) rfl rfl
theorem gm_217 : (.selects R_D y_D_settle y_D_settle : Cond) ∈ gT := g_1 (i := 190) rfl rfl
theorem gm_218 : (.code y_D_settle c_D_settle 3 none : Cond) ∈ gT := g_1 (i := 191) rfl rfl
theorem gm_219 : (.methodLink R_D 22 y_D_isCached : Cond) ∈ gT := g_1 (i := 192) rfl rfl
theorem gm_220 : (.instanceMethod y_D_isCached : Cond) ∈ gT := g_1 (i := 193) rfl rfl
theorem gm_221 : (.selects R_D y_D_isCached y_D_isCached : Cond) ∈ gT := g_1 (i := 194) rfl rfl
theorem gm_222 : (.code y_D_isCached c_D_isCached 2 (some .boolean) : Cond) ∈ gT := g_1 (i := 195) rfl rfl
theorem gm_223 : (.methodLink R_M 205 y_M_writeBy : Cond) ∈ gT := g_1 (i := 196) rfl rfl
theorem gm_225 : (.instanceMethod y_M_writeBy : Cond) ∈ gT := g_1 (i := 198) rfl rfl
theorem gm_226 : (.code y_M_writeBy c_M_writeBy 4 none : Cond) ∈ gT := g_1 (i := 199) rfl rfl
theorem gm_227 : (.methodLink R_M 199 y_D_put : Cond) ∈ gT := g_1 (i := 200) rfl rfl
theorem gm_228 : (.instanceMethod y_D_put : Cond) ∈ gT := g_1 (i := 201) rfl rfl
theorem gm_229 : (.selects R_D y_D_put y_D_put : Cond) ∈ gT := g_1 (i := 202) rfl rfl
theorem gm_230 : (.code y_D_put c_D_put 3 none : Cond) ∈ gT := g_1 (i := 203) rfl rfl
theorem gm_231 : (.methodLink R_M 82 y_M_bringDown : Cond) ∈ gT := g_1 (i := 204) rfl rfl
theorem gm_233 : (.instanceMethod y_M_bringDown : Cond) ∈ gT := g_1 (i := 206) rfl rfl
theorem gm_234 : (.code y_M_bringDown c_M_bringDown 4 none : Cond) ∈ gT := g_1 (i := 207) rfl rfl
theorem gm_235 : (.methodLink R_M 193 y_D_cachedExtents : Cond) ∈ gT := g_1 (i := 208) rfl rfl
theorem gm_236 : (.instanceMethod y_D_cachedExtents : Cond) ∈ gT := g_1 (i := 209) rfl rfl
theorem gm_237 : (.selects R_D y_D_cachedExtents y_D_cachedExtents : Cond) ∈ gT := g_1 (i := 210) rfl rfl
theorem gm_238 : (.code y_D_cachedExtents c_D_cachedExtents 3 (some .int) : Cond) ∈ gT := g_1 (i := 211) rfl rfl
theorem gm_239 : (.methodLink R_M 196 y_D_settle : Cond) ∈ gT := g_1 (i := 212) rfl rfl
theorem gm_240 : (.methodLink R_M 146 y_M_makeSecondary : Cond) ∈ gT := g_1 (i := 213) rfl rfl
theorem gm_242 : (.instanceMethod y_M_makeSecondary : Cond) ∈ gT := g_1 (i := 215) rfl rfl
theorem gm_243 : (.code y_M_makeSecondary c_M_makeSecondary 2 none : Cond) ∈ gT := g_1 (i := 216) rfl rfl
theorem gm_244 : (.methodLink R_M 106 y_M_disconnect : Cond) ∈ gT := g_1 (i := 217) rfl rfl
theorem gm_246 : (.instanceMethod y_M_disconnect : Cond) ∈ gT := g_1 (i := 219) rfl rfl
theorem gm_247 : (.code y_M_disconnect c_M_disconnect 1 none : Cond) ∈ gT := g_1 (i := 220) rfl rfl
theorem gm_248 : (.methodLink R_L 30 y_M_cell : Cond) ∈ gT := g_1 (i := 221) rfl rfl
theorem gm_249 : (.instanceMethod y_M_cell : Cond) ∈ gT := g_1 (i := 222) rfl rfl
theorem gm_250 : (.selects R_M y_M_cell y_M_cell : Cond) ∈ gT := g_1 (i := 223) rfl rfl
theorem gm_251 : (.code y_M_cell c_M_cell 3 (some .long) : Cond) ∈ gT := g_1 (i := 224) rfl rfl
theorem gm_252 : (.constantLong R_M 85 (-1000000000000) : Cond) ∈ gT := g_1 (i := 225) rfl rfl
theorem gm_253 : (.methodLink R_M 91 y_D_held : Cond) ∈ gT := g_1 (i := 226) rfl rfl
theorem gm_254 : (.instanceMethod y_D_held : Cond) ∈ gT := g_1 (i := 227) rfl rfl
theorem gm_255 : (.selects R_D y_D_held y_D_held : Cond) ∈ gT := g_1 (i := 228) rfl rfl
theorem gm_256 : (.code y_D_held c_D_held 2 (some .int) : Cond) ∈ gT := g_1 (i := 229) rfl rfl
theorem gm_257 : (.methodLink R_L 34 y_M_crash : Cond) ∈ gT := g_1 (i := 230) rfl rfl
theorem gm_258 : (.instanceMethod y_M_crash : Cond) ∈ gT := g_1 (i := 231) rfl rfl
theorem gm_259 : (.selects R_M y_M_crash y_M_crash : Cond) ∈ gT := g_1 (i := 232) rfl rfl
theorem gm_260 : (.code y_M_crash c_M_crash 3 (some .int) : Cond) ∈ gT := g_1 (i := 233) rfl rfl
theorem gm_261 : (.methodLink R_M 97 y_M_isNode : Cond) ∈ gT := g_1 (i := 234) rfl rfl
theorem gm_262 : (.static y_M_isNode : Cond) ∈ gT := g_1 (i := 235) rfl rfl
theorem gm_263 : (.code y_M_isNode c_M_isNode 1 (some .boolean) : Cond) ∈ gT := g_1 (i := 236) rfl rfl
theorem gm_264 : (.methodLink R_L 38 y_M_restart : Cond) ∈ gT := g_1 (i := 237) rfl rfl
theorem gm_265 : (.instanceMethod y_M_restart : Cond) ∈ gT := g_1 (i := 238) rfl rfl
theorem gm_266 : (.selects R_M y_M_restart y_M_restart : Cond) ∈ gT := g_1 (i := 239) rfl rfl
theorem gm_267 : (.code y_M_restart c_M_restart 2 (some .int) : Cond) ∈ gT := g_2 (i := 0) rfl rfl
theorem gm_268 : (.methodLink R_L 43 y_M_swap : Cond) ∈ gT := g_2 (i := 1) rfl rfl
theorem gm_269 : (.instanceMethod y_M_swap : Cond) ∈ gT := g_2 (i := 2) rfl rfl
theorem gm_270 : (.selects R_M y_M_swap y_M_swap : Cond) ∈ gT := g_2 (i := 3) rfl rfl
theorem gm_271 : (.code y_M_swap c_M_swap 2 (some .int) : Cond) ∈ gT := g_2 (i := 4) rfl rfl
theorem gm_272 : (.methodLink R_M 103 y_N_renewDisk : Cond) ∈ gT := g_2 (i := 5) rfl rfl
theorem gm_273 : (.instanceMethod y_N_renewDisk : Cond) ∈ gT := g_2 (i := 6) rfl rfl
theorem gm_274 : (.selects R_N y_N_renewDisk y_N_renewDisk : Cond) ∈ gT := g_2 (i := 7) rfl rfl
theorem gm_275 : (.code y_N_renewDisk c_N_renewDisk 1 none : Cond) ∈ gT := g_2 (i := 8) rfl rfl
theorem gm_276 : (.methodLink R_N 39 y_D_erase : Cond) ∈ gT := g_2 (i := 9) rfl rfl
theorem gm_277 : (.instanceMethod y_D_erase : Cond) ∈ gT := g_2 (i := 10) rfl rfl
theorem gm_278 : (.selects R_D y_D_erase y_D_erase : Cond) ∈ gT := g_2 (i := 11) rfl rfl
theorem gm_279 : (.code y_D_erase c_D_erase 1 none : Cond) ∈ gT := g_2 (i := 12) rfl rfl
theorem gm_280 : (.methodLink R_D 36 y_Y_fill : Cond) ∈ gT := g_2 (i := 13) rfl rfl
theorem gm_281 : (.static y_Y_fill : Cond) ∈ gT := g_2 (i := 14) rfl rfl
theorem gm_282 : (.code y_Y_fill c_Y_fill 4 none : Cond) ∈ gT := g_2 (i := 15) rfl rfl
theorem gm_283 : (.methodLink R_L 47 y_M_line : Cond) ∈ gT := g_2 (i := 16) rfl rfl
theorem gm_284 : (.instanceMethod y_M_line : Cond) ∈ gT := g_2 (i := 17) rfl rfl
theorem gm_285 : (.selects R_M y_M_line y_M_line : Cond) ∈ gT := g_2 (i := 18) rfl rfl
theorem gm_286 : (.code y_M_line c_M_line 2 (some .int) : Cond) ∈ gT := g_2 (i := 19) rfl rfl
theorem gm_287 : (.methodLink R_L 52 y_M_witnessLine : Cond) ∈ gT := g_2 (i := 20) rfl rfl
theorem gm_288 : (.instanceMethod y_M_witnessLine : Cond) ∈ gT := g_2 (i := 21) rfl rfl
theorem gm_289 : (.selects R_M y_M_witnessLine y_M_witnessLine : Cond) ∈ gT := g_2 (i := 22) rfl rfl
theorem gm_290 : (.code y_M_witnessLine c_M_witnessLine 3 (some .int) : Cond) ∈ gT := g_2 (i := 23) rfl rfl
theorem gm_291 : (.methodLink R_L 57 y_M_connect : Cond) ∈ gT := g_2 (i := 24) rfl rfl
theorem gm_292 : (.instanceMethod y_M_connect : Cond) ∈ gT := g_2 (i := 25) rfl rfl
theorem gm_293 : (.selects R_M y_M_connect y_M_connect : Cond) ∈ gT := g_2 (i := 26) rfl rfl
theorem gm_294 : (.code y_M_connect c_M_connect 2 (some .int) : Cond) ∈ gT := g_2 (i := 27) rfl rfl
theorem gm_295 : (.methodLink R_M 112 y_M_chooseSource : Cond) ∈ gT := g_2 (i := 28) rfl rfl
theorem gm_297 : (.instanceMethod y_M_chooseSource : Cond) ∈ gT := g_2 (i := 30) rfl rfl
theorem gm_298 : (.code y_M_chooseSource c_M_chooseSource 1 (some .int) : Cond) ∈ gT := g_2 (i := 31) rfl rfl
theorem gm_299 : (.methodLink R_M 115 y_M_extentsThatMayDiffer : Cond) ∈ gT := g_2 (i := 32) rfl rfl
theorem gm_301 : (.instanceMethod y_M_extentsThatMayDiffer : Cond) ∈ gT := g_2 (i := 34) rfl rfl
theorem gm_302 : (.code y_M_extentsThatMayDiffer c_M_extentsThatMayDiffer 4 (some .int) : Cond) ∈ gT := g_2 (i := 35) rfl rfl
theorem gm_303 : (.methodLink R_M 118 y_M_finishSync : Cond) ∈ gT := g_2 (i := 36) rfl rfl
theorem gm_305 : (.instanceMethod y_M_finishSync : Cond) ∈ gT := g_2 (i := 38) rfl rfl
theorem gm_306 : (.code y_M_finishSync c_M_finishSync 2 none : Cond) ∈ gT := g_2 (i := 39) rfl rfl
theorem gm_307 : (.methodLink R_M 121 y_M_startSync : Cond) ∈ gT := g_2 (i := 40) rfl rfl
theorem gm_309 : (.instanceMethod y_M_startSync : Cond) ∈ gT := g_2 (i := 42) rfl rfl
theorem gm_310 : (.code y_M_startSync c_M_startSync 3 none : Cond) ∈ gT := g_2 (i := 43) rfl rfl
theorem gm_311 : (.methodLink R_M 124 y_J_bitCount : Cond) ∈ gT := g_2 (i := 44) rfl rfl
theorem gm_312 : (.static y_J_bitCount : Cond) ∈ gT := g_2 (i := 45) rfl rfl
theorem gm_313 : (.code y_J_bitCount c_J_bitCount 1 (some .int) : Cond) ∈ gT := g_2 (i := 46) rfl rfl
theorem gm_314 : (.constant R_J 265 1431655765 : Cond) ∈ gT := g_2 (i := 47) rfl rfl
theorem gm_315 : (.constant R_J 266 858993459 : Cond) ∈ gT := g_2 (i := 48) rfl rfl
theorem gm_316 : (.constant R_J 267 252645135 : Cond) ∈ gT := g_2 (i := 49) rfl rfl
theorem gm_317 : (.methodLink R_L 62 y_M_resync : Cond) ∈ gT := g_2 (i := 50) rfl rfl
theorem gm_318 : (.instanceMethod y_M_resync : Cond) ∈ gT := g_2 (i := 51) rfl rfl
theorem gm_319 : (.selects R_M y_M_resync y_M_resync : Cond) ∈ gT := g_2 (i := 52) rfl rfl
theorem gm_320 : (.code y_M_resync c_M_resync 5 (some .int) : Cond) ∈ gT := g_2 (i := 53) rfl rfl
theorem gm_321 : (.methodLink R_M 132 y_J_numberOfTrailingZeros : Cond) ∈ gT := g_2 (i := 54) rfl rfl
theorem gm_322 : (.static y_J_numberOfTrailingZeros : Cond) ∈ gT := g_2 (i := 55) rfl rfl
theorem gm_323 : (.code y_J_numberOfTrailingZeros c_J_numberOfTrailingZeros 2 (some .int) : Cond) ∈ gT := g_2 (i := 56) rfl rfl
theorem gm_324 : (.constant R_J 264 65536 : Cond) ∈ gT := g_2 (i := 57) rfl rfl
theorem gm_325 : (.methodLink R_M 135 y_M_copyExtent : Cond) ∈ gT := g_2 (i := 58) rfl rfl
theorem gm_327 : (.instanceMethod y_M_copyExtent : Cond) ∈ gT := g_2 (i := 60) rfl rfl
theorem gm_328 : (.code y_M_copyExtent c_M_copyExtent 6 none : Cond) ∈ gT := g_2 (i := 61) rfl rfl
theorem gm_329 : (.methodLink R_L 66 y_M_promote : Cond) ∈ gT := g_2 (i := 62) rfl rfl
theorem gm_330 : (.instanceMethod y_M_promote : Cond) ∈ gT := g_2 (i := 63) rfl rfl
theorem gm_331 : (.selects R_M y_M_promote y_M_promote : Cond) ∈ gT := g_2 (i := 64) rfl rfl
theorem gm_332 : (.code y_M_promote c_M_promote 5 (some .int) : Cond) ∈ gT := g_2 (i := 65) rfl rfl
theorem gm_333 : (.methodLink R_M 138 y_N_mayAskForLease : Cond) ∈ gT := g_2 (i := 66) rfl rfl
theorem gm_334 : (.instanceMethod y_N_mayAskForLease : Cond) ∈ gT := g_2 (i := 67) rfl rfl
theorem gm_335 : (.selects R_N y_N_mayAskForLease y_N_mayAskForLease : Cond) ∈ gT := g_2 (i := 68) rfl rfl
theorem gm_336 : (.code y_N_mayAskForLease c_N_mayAskForLease 1 (some .boolean) : Cond) ∈ gT := g_2 (i := 69) rfl rfl
theorem gm_337 : (.methodLink R_M 142 y_T_isLentTo : Cond) ∈ gT := g_2 (i := 70) rfl rfl
theorem gm_338 : (.instanceMethod y_T_isLentTo : Cond) ∈ gT := g_2 (i := 71) rfl rfl
theorem gm_339 : (.selects R_T y_T_isLentTo y_T_isLentTo : Cond) ∈ gT := g_2 (i := 72) rfl rfl
theorem gm_340 : (.code y_T_isLentTo c_T_isLentTo 2 (some .boolean) : Cond) ∈ gT := g_2 (i := 73) rfl rfl
theorem gm_341 : (.methodLink R_T 27 y_T_isRunning : Cond) ∈ gT := g_2 (i := 74) rfl rfl
theorem gm_342 : (.instanceMethod y_T_isRunning : Cond) ∈ gT := g_2 (i := 75) rfl rfl
theorem gm_343 : (.selects R_T y_T_isRunning y_T_isRunning : Cond) ∈ gT := g_2 (i := 76) rfl rfl
theorem gm_344 : (.code y_T_isRunning c_T_isRunning 1 (some .boolean) : Cond) ∈ gT := g_2 (i := 77) rfl rfl
theorem gm_345 : (.methodLink R_M 152 y_T_lendTo : Cond) ∈ gT := g_2 (i := 78) rfl rfl
theorem gm_346 : (.instanceMethod y_T_lendTo : Cond) ∈ gT := g_2 (i := 79) rfl rfl
theorem gm_347 : (.selects R_T y_T_lendTo y_T_lendTo : Cond) ∈ gT := g_2 (i := 80) rfl rfl
theorem gm_348 : (.code y_T_lendTo c_T_lendTo 2 none : Cond) ∈ gT := g_2 (i := 81) rfl rfl
theorem gm_349 : (.methodLink R_T 31 y_T_extendLease : Cond) ∈ gT := g_2 (i := 82) rfl rfl
theorem gm_350 : (.instanceMethod y_T_extendLease : Cond) ∈ gT := g_2 (i := 83) rfl rfl
theorem gm_351 : (.selects R_T y_T_extendLease y_T_extendLease : Cond) ∈ gT := g_2 (i := 84) rfl rfl
theorem gm_352 : (.code y_T_extendLease c_T_extendLease 1 none : Cond) ∈ gT := g_2 (i := 85) rfl rfl
theorem gm_353 : (.methodLink R_M 158 y_M_redoJournal : Cond) ∈ gT := g_2 (i := 86) rfl rfl
theorem gm_355 : (.instanceMethod y_M_redoJournal : Cond) ∈ gT := g_2 (i := 88) rfl rfl
theorem gm_356 : (.code y_M_redoJournal c_M_redoJournal 6 (some .int) : Cond) ∈ gT := g_2 (i := 89) rfl rfl
theorem gm_357 : (.methodLink R_L 70 y_M_demote : Cond) ∈ gT := g_2 (i := 90) rfl rfl
theorem gm_358 : (.instanceMethod y_M_demote : Cond) ∈ gT := g_2 (i := 91) rfl rfl
theorem gm_359 : (.selects R_M y_M_demote y_M_demote : Cond) ∈ gT := g_2 (i := 92) rfl rfl
theorem gm_360 : (.code y_M_demote c_M_demote 2 (some .int) : Cond) ∈ gT := g_2 (i := 93) rfl rfl
theorem gm_361 : (.methodLink R_L 74 y_M_renew : Cond) ∈ gT := g_2 (i := 94) rfl rfl
theorem gm_362 : (.instanceMethod y_M_renew : Cond) ∈ gT := g_2 (i := 95) rfl rfl
theorem gm_363 : (.selects R_M y_M_renew y_M_renew : Cond) ∈ gT := g_2 (i := 96) rfl rfl
theorem gm_364 : (.code y_M_renew c_M_renew 2 (some .int) : Cond) ∈ gT := g_2 (i := 97) rfl rfl
theorem gm_365 : (.methodLink R_M 164 y_T_extendLease : Cond) ∈ gT := g_2 (i := 98) rfl rfl
theorem gm_366 : (.methodLink R_L 78 y_M_tick : Cond) ∈ gT := g_2 (i := 99) rfl rfl
theorem gm_367 : (.instanceMethod y_M_tick : Cond) ∈ gT := g_2 (i := 100) rfl rfl
theorem gm_368 : (.selects R_M y_M_tick y_M_tick : Cond) ∈ gT := g_2 (i := 101) rfl rfl
theorem gm_369 : (.code y_M_tick c_M_tick 2 (some .int) : Cond) ∈ gT := g_2 (i := 102) rfl rfl
theorem gm_370 : (.methodLink R_M 173 y_T_isRunning : Cond) ∈ gT := g_2 (i := 103) rfl rfl
theorem gm_371 : (.methodLink R_L 82 y_M_block : Cond) ∈ gT := g_2 (i := 104) rfl rfl
theorem gm_372 : (.instanceMethod y_M_block : Cond) ∈ gT := g_2 (i := 105) rfl rfl
theorem gm_373 : (.selects R_M y_M_block y_M_block : Cond) ∈ gT := g_2 (i := 106) rfl rfl
theorem gm_374 : (.code y_M_block c_M_block 5 (some .long) : Cond) ∈ gT := g_2 (i := 107) rfl rfl
theorem gm_375 : (.methodLink R_L 87 y_M_node : Cond) ∈ gT := g_2 (i := 108) rfl rfl
theorem gm_376 : (.instanceMethod y_M_node : Cond) ∈ gT := g_2 (i := 109) rfl rfl
theorem gm_377 : (.selects R_M y_M_node y_M_node : Cond) ∈ gT := g_2 (i := 110) rfl rfl
theorem gm_378 : (.code y_M_node c_M_node 4 (some .int) : Cond) ∈ gT := g_2 (i := 111) rfl rfl
theorem gm_379 : (.methodLink R_M 180 y_M_asNumber : Cond) ∈ gT := g_2 (i := 112) rfl rfl
theorem gm_380 : (.static y_M_asNumber : Cond) ∈ gT := g_2 (i := 113) rfl rfl
theorem gm_381 : (.code y_M_asNumber c_M_asNumber 1 (some .int) : Cond) ∈ gT := g_2 (i := 114) rfl rfl
theorem gm_382 : (.methodLink R_M 190 y_D_countCached : Cond) ∈ gT := g_2 (i := 115) rfl rfl
theorem gm_383 : (.instanceMethod y_D_countCached : Cond) ∈ gT := g_2 (i := 116) rfl rfl
theorem gm_384 : (.selects R_D y_D_countCached y_D_countCached : Cond) ∈ gT := g_2 (i := 117) rfl rfl
theorem gm_385 : (.code y_D_countCached c_D_countCached 1 (some .int) : Cond) ∈ gT := g_2 (i := 118) rfl rfl
theorem gm_386 : (.methodLink R_D 30 y_J_bitCount : Cond) ∈ gT := g_2 (i := 119) rfl rfl
theorem gm_387 : (.methodLink R_L 91 y_M_mirror : Cond) ∈ gT := g_2 (i := 120) rfl rfl
theorem gm_388 : (.instanceMethod y_M_mirror : Cond) ∈ gT := g_2 (i := 121) rfl rfl
theorem gm_389 : (.selects R_M y_M_mirror y_M_mirror : Cond) ∈ gT := g_2 (i := 122) rfl rfl
theorem gm_390 : (.code y_M_mirror c_M_mirror 2 (some .int) : Cond) ∈ gT := g_2 (i := 123) rfl rfl
theorem gm_391 : (.methodLink R_L 9 y_L_cell : Cond) ∈ gT := g_2 (i := 124) rfl rfl
theorem gm_392 : (.static y_L_cell : Cond) ∈ gT := g_2 (i := 125) rfl rfl
theorem gm_393 : (.code y_L_cell c_L_cell 2 (some .int) : Cond) ∈ gT := g_2 (i := 126) rfl rfl
theorem gm_394 : (.classLink R_L 18 R_K : Cond) ∈ gT := g_2 (i := 127) rfl rfl
theorem gm_395 : (.instantiable R_K 21 : Cond) ∈ gT := g_2 (i := 128) rfl rfl
theorem gm_396 : (.methodLink R_L 20 y_K_init : Cond) ∈ gT := g_2 (i := 129) rfl rfl
theorem gm_397 : (.instanceMethod y_K_init : Cond) ∈ gT := g_2 (i := 130) rfl rfl
theorem gm_398 : (.code y_K_init c_K_init 2 none : Cond) ∈ gT := g_2 (i := 131) rfl rfl
theorem gm_399 : (.methodLink R_K 1 objectInit : Cond) ∈ gT := g_2 (i := 132) rfl rfl
theorem gm_400 : (.fieldLink R_K 64 "WitnessedMirrorModel" "lease" "I" : Cond) ∈ gT := g_2 (i := 133) rfl rfl
theorem gm_401 : (.fieldLink R_K 7 "WitnessedMirrorModel" "stable" "[I" : Cond) ∈ gT := g_2 (i := 134) rfl rfl
theorem gm_402 : (.fieldLink R_K 13 "WitnessedMirrorModel" "cached" "[I" : Cond) ∈ gT := g_2 (i := 135) rfl rfl
theorem gm_403 : (.fieldLink R_K 16 "WitnessedMirrorModel" "has" "[Z" : Cond) ∈ gT := g_2 (i := 136) rfl rfl
theorem gm_404 : (.fieldLink R_K 20 "WitnessedMirrorModel" "down" "[Z" : Cond) ∈ gT := g_2 (i := 137) rfl rfl
theorem gm_405 : (.fieldLink R_K 23 "WitnessedMirrorModel" "alone" "[Z" : Cond) ∈ gT := g_2 (i := 138) rfl rfl
theorem gm_406 : (.fieldLink R_K 26 "WitnessedMirrorModel" "cutOff" "[Z" : Cond) ∈ gT := g_2 (i := 139) rfl rfl
theorem gm_407 : (.fieldLink R_K 29 "WitnessedMirrorModel" "generation" "[I" : Cond) ∈ gT := g_2 (i := 140) rfl rfl
theorem gm_408 : (.fieldLink R_K 32 "WitnessedMirrorModel" "base" "[I" : Cond) ∈ gT := g_2 (i := 141) rfl rfl
theorem gm_409 : (.fieldLink R_K 35 "WitnessedMirrorModel" "marks" "[I" : Cond) ∈ gT := g_2 (i := 142) rfl rfl
theorem gm_410 : (.fieldLink R_K 38 "WitnessedMirrorModel" "primary" "I" : Cond) ∈ gT := g_2 (i := 143) rfl rfl
theorem gm_411 : (.fieldLink R_K 42 "WitnessedMirrorModel" "source" "I" : Cond) ∈ gT := g_2 (i := 144) rfl rfl
theorem gm_412 : (.fieldLink R_K 45 "WitnessedMirrorModel" "holder" "I" : Cond) ∈ gT := g_2 (i := 145) rfl rfl
theorem gm_413 : (.fieldLink R_K 48 "WitnessedMirrorModel" "connected" "Z" : Cond) ∈ gT := g_2 (i := 146) rfl rfl
theorem gm_414 : (.fieldLink R_K 52 "WitnessedMirrorModel" "lineUp" "Z" : Cond) ∈ gT := g_2 (i := 147) rfl rfl
theorem gm_415 : (.fieldLink R_K 55 "WitnessedMirrorModel" "witness" "I" : Cond) ∈ gT := g_2 (i := 148) rfl rfl
theorem gm_416 : (.fieldLink R_K 120 "WitnessedMirrorModel" "time" "I" : Cond) ∈ gT := g_2 (i := 149) rfl rfl
theorem gm_417 : (.fieldLink R_K 117 "WitnessedMirrorModel" "end" "I" : Cond) ∈ gT := g_2 (i := 150) rfl rfl
theorem gm_418 : (.fieldLink R_K 67 "WitnessedMirrorModel" "entries" "I" : Cond) ∈ gT := g_2 (i := 151) rfl rfl
theorem gm_419 : (.fieldLink R_K 58 "WitnessedMirrorModel" "entryCell" "[I" : Cond) ∈ gT := g_2 (i := 152) rfl rfl
theorem gm_420 : (.fieldLink R_K 61 "WitnessedMirrorModel" "entryValue" "[I" : Cond) ∈ gT := g_2 (i := 153) rfl rfl
theorem gm_421 : (.laysFinal R_K "WitnessedMirrorModel" "lease" "I" : Cond) ∈ gT := g_2 (i := 154) rfl rfl
theorem gm_423 : (.laysFinal R_K "WitnessedMirrorModel" "stable" "[I" : Cond) ∈ gT := g_2 (i := 156) rfl rfl
theorem gm_425 : (.laysFinal R_K "WitnessedMirrorModel" "cached" "[I" : Cond) ∈ gT := g_2 (i := 158) rfl rfl
theorem gm_427 : (.laysFinal R_K "WitnessedMirrorModel" "has" "[Z" : Cond) ∈ gT := g_2 (i := 160) rfl rfl
theorem gm_429 : (.laysFinal R_K "WitnessedMirrorModel" "down" "[Z" : Cond) ∈ gT := g_2 (i := 162) rfl rfl
theorem gm_431 : (.laysFinal R_K "WitnessedMirrorModel" "alone" "[Z" : Cond) ∈ gT := g_2 (i := 164) rfl rfl
theorem gm_433 : (.laysFinal R_K "WitnessedMirrorModel" "cutOff" "[Z" : Cond) ∈ gT := g_2 (i := 166) rfl rfl
theorem gm_435 : (.laysFinal R_K "WitnessedMirrorModel" "generation" "[I" : Cond) ∈ gT := g_2 (i := 168) rfl rfl
theorem gm_437 : (.laysFinal R_K "WitnessedMirrorModel" "base" "[I" : Cond) ∈ gT := g_2 (i := 170) rfl rfl
theorem gm_439 : (.laysFinal R_K "WitnessedMirrorModel" "marks" "[I" : Cond) ∈ gT := g_2 (i := 172) rfl rfl
theorem gm_441 : (.lays R_K "WitnessedMirrorModel" "primary" "I" : Cond) ∈ gT := g_2 (i := 174) rfl rfl
theorem gm_443 : (.lays R_K "WitnessedMirrorModel" "source" "I" : Cond) ∈ gT := g_2 (i := 176) rfl rfl
theorem gm_445 : (.lays R_K "WitnessedMirrorModel" "holder" "I" : Cond) ∈ gT := g_2 (i := 178) rfl rfl
theorem gm_447 : (.lays R_K "WitnessedMirrorModel" "connected" "Z" : Cond) ∈ gT := g_2 (i := 180) rfl rfl
theorem gm_449 : (.lays R_K "WitnessedMirrorModel" "lineUp" "Z" : Cond) ∈ gT := g_2 (i := 182) rfl rfl
theorem gm_451 : (.lays R_K "WitnessedMirrorModel" "witness" "I" : Cond) ∈ gT := g_2 (i := 184) rfl rfl
theorem gm_453 : (.lays R_K "WitnessedMirrorModel" "time" "I" : Cond) ∈ gT := g_2 (i := 186) rfl rfl
theorem gm_455 : (.lays R_K "WitnessedMirrorModel" "end" "I" : Cond) ∈ gT := g_2 (i := 188) rfl rfl
theorem gm_457 : (.lays R_K "WitnessedMirrorModel" "entries" "I" : Cond) ∈ gT := g_2 (i := 190) rfl rfl
theorem gm_459 : (.laysFinal R_K "WitnessedMirrorModel" "entryCell" "[I" : Cond) ∈ gT := g_2 (i := 192) rfl rfl
theorem gm_461 : (.laysFinal R_K "WitnessedMirrorModel" "entryValue" "[I" : Cond) ∈ gT := g_2 (i := 194) rfl rfl
theorem gm_464 : (.arrayClass .boolean : Cond) ∈ gT := g_2 (i := 197) rfl rfl
theorem gm_465 : (.methodLink R_L 25 y_K_stage : Cond) ∈ gT := g_2 (i := 198) rfl rfl
theorem gm_466 : (.instanceMethod y_K_stage : Cond) ∈ gT := g_2 (i := 199) rfl rfl
theorem gm_467 : (.selects R_K y_K_stage y_K_stage : Cond) ∈ gT := g_2 (i := 200) rfl rfl
theorem gm_468 : (.code y_K_stage c_K_stage 3 (some .int) : Cond) ∈ gT := g_2 (i := 201) rfl rfl
theorem gm_469 : (.methodLink R_K 93 y_K_out : Cond) ∈ gT := g_2 (i := 202) rfl rfl
theorem gm_471 : (.instanceMethod y_K_out : Cond) ∈ gT := g_2 (i := 204) rfl rfl
theorem gm_472 : (.code y_K_out c_K_out 3 (some .boolean) : Cond) ∈ gT := g_2 (i := 205) rfl rfl
theorem gm_473 : (.methodLink R_L 29 y_K_commit : Cond) ∈ gT := g_2 (i := 206) rfl rfl
theorem gm_474 : (.instanceMethod y_K_commit : Cond) ∈ gT := g_2 (i := 207) rfl rfl
theorem gm_475 : (.selects R_K y_K_commit y_K_commit : Cond) ∈ gT := g_2 (i := 208) rfl rfl
theorem gm_476 : (.code y_K_commit c_K_commit 7 (some .int) : Cond) ∈ gT := g_2 (i := 209) rfl rfl
theorem gm_477 : (.methodLink R_K 97 y_K_goAlone : Cond) ∈ gT := g_2 (i := 210) rfl rfl
theorem gm_479 : (.instanceMethod y_K_goAlone : Cond) ∈ gT := g_2 (i := 212) rfl rfl
theorem gm_480 : (.code y_K_goAlone c_K_goAlone 2 none : Cond) ∈ gT := g_2 (i := 213) rfl rfl
theorem gm_481 : (.methodLink R_K 100 y_K_step : Cond) ∈ gT := g_2 (i := 214) rfl rfl
theorem gm_483 : (.instanceMethod y_K_step : Cond) ∈ gT := g_2 (i := 216) rfl rfl
theorem gm_484 : (.code y_K_step c_K_step 6 none : Cond) ∈ gT := g_2 (i := 217) rfl rfl
theorem gm_485 : (.methodLink R_K 86 y_K_flushStep : Cond) ∈ gT := g_2 (i := 218) rfl rfl
theorem gm_487 : (.instanceMethod y_K_flushStep : Cond) ∈ gT := g_2 (i := 220) rfl rfl
theorem gm_488 : (.code y_K_flushStep c_K_flushStep 1 none : Cond) ∈ gT := g_2 (i := 221) rfl rfl
theorem gm_489 : (.methodLink R_K 82 y_K_settle : Cond) ∈ gT := g_2 (i := 222) rfl rfl
theorem gm_491 : (.instanceMethod y_K_settle : Cond) ∈ gT := g_2 (i := 224) rfl rfl
theorem gm_492 : (.code y_K_settle c_K_settle 3 none : Cond) ∈ gT := g_2 (i := 225) rfl rfl
theorem gm_493 : (.methodLink R_K 78 y_K_holds : Cond) ∈ gT := g_2 (i := 226) rfl rfl
theorem gm_495 : (.instanceMethod y_K_holds : Cond) ∈ gT := g_2 (i := 228) rfl rfl
theorem gm_496 : (.code y_K_holds c_K_holds 3 (some .int) : Cond) ∈ gT := g_2 (i := 229) rfl rfl
theorem gm_497 : (.methodLink R_K 89 y_K_writeStep : Cond) ∈ gT := g_2 (i := 230) rfl rfl
theorem gm_499 : (.instanceMethod y_K_writeStep : Cond) ∈ gT := g_2 (i := 232) rfl rfl
theorem gm_500 : (.code y_K_writeStep c_K_writeStep 3 none : Cond) ∈ gT := g_2 (i := 233) rfl rfl
theorem gm_501 : (.methodLink R_K 70 y_K_keepIn : Cond) ∈ gT := g_2 (i := 234) rfl rfl
theorem gm_503 : (.instanceMethod y_K_keepIn : Cond) ∈ gT := g_2 (i := 236) rfl rfl
theorem gm_504 : (.code y_K_keepIn c_K_keepIn 4 none : Cond) ∈ gT := g_2 (i := 237) rfl rfl
theorem gm_505 : (.methodLink R_K 74 y_K_extentBit : Cond) ∈ gT := g_2 (i := 238) rfl rfl
theorem gm_507 : (.instanceMethod y_K_extentBit : Cond) ∈ gT := g_3 (i := 0) rfl rfl
theorem gm_508 : (.code y_K_extentBit c_K_extentBit 2 (some .int) : Cond) ∈ gT := g_3 (i := 1) rfl rfl
theorem gm_509 : (.methodLink R_K 103 y_K_crash : Cond) ∈ gT := g_3 (i := 2) rfl rfl
theorem gm_510 : (.instanceMethod y_K_crash : Cond) ∈ gT := g_3 (i := 3) rfl rfl
theorem gm_511 : (.selects R_K y_K_crash y_K_crash : Cond) ∈ gT := g_3 (i := 4) rfl rfl
theorem gm_512 : (.code y_K_crash c_K_crash 4 (some .int) : Cond) ∈ gT := g_3 (i := 5) rfl rfl
theorem gm_513 : (.methodLink R_K 108 y_K_noPrimary : Cond) ∈ gT := g_3 (i := 6) rfl rfl
theorem gm_515 : (.instanceMethod y_K_noPrimary : Cond) ∈ gT := g_3 (i := 8) rfl rfl
theorem gm_516 : (.code y_K_noPrimary c_K_noPrimary 1 none : Cond) ∈ gT := g_3 (i := 9) rfl rfl
theorem gm_517 : (.methodLink R_K 111 y_K_disconnect : Cond) ∈ gT := g_3 (i := 10) rfl rfl
theorem gm_519 : (.instanceMethod y_K_disconnect : Cond) ∈ gT := g_3 (i := 12) rfl rfl
theorem gm_520 : (.code y_K_disconnect c_K_disconnect 1 none : Cond) ∈ gT := g_3 (i := 13) rfl rfl
theorem gm_521 : (.methodLink R_L 33 y_K_cell : Cond) ∈ gT := g_3 (i := 14) rfl rfl
theorem gm_522 : (.instanceMethod y_K_cell : Cond) ∈ gT := g_3 (i := 15) rfl rfl
theorem gm_523 : (.selects R_K y_K_cell y_K_cell : Cond) ∈ gT := g_3 (i := 16) rfl rfl
theorem gm_524 : (.code y_K_cell c_K_cell 2 (some .long) : Cond) ∈ gT := g_3 (i := 17) rfl rfl
theorem gm_525 : (.constantLong R_K 106 (-1000000000000) : Cond) ∈ gT := g_3 (i := 18) rfl rfl
theorem gm_526 : (.methodLink R_L 37 y_K_crash : Cond) ∈ gT := g_3 (i := 19) rfl rfl
theorem gm_527 : (.methodLink R_L 42 y_K_restart : Cond) ∈ gT := g_3 (i := 20) rfl rfl
theorem gm_528 : (.instanceMethod y_K_restart : Cond) ∈ gT := g_3 (i := 21) rfl rfl
theorem gm_529 : (.selects R_K y_K_restart y_K_restart : Cond) ∈ gT := g_3 (i := 22) rfl rfl
theorem gm_530 : (.code y_K_restart c_K_restart 2 (some .int) : Cond) ∈ gT := g_3 (i := 23) rfl rfl
theorem gm_531 : (.methodLink R_L 46 y_K_swap : Cond) ∈ gT := g_3 (i := 24) rfl rfl
theorem gm_532 : (.instanceMethod y_K_swap : Cond) ∈ gT := g_3 (i := 25) rfl rfl
theorem gm_533 : (.selects R_K y_K_swap y_K_swap : Cond) ∈ gT := g_3 (i := 26) rfl rfl
theorem gm_534 : (.code y_K_swap c_K_swap 3 (some .int) : Cond) ∈ gT := g_3 (i := 27) rfl rfl
theorem gm_535 : (.methodLink R_L 51 y_K_line : Cond) ∈ gT := g_3 (i := 28) rfl rfl
theorem gm_536 : (.instanceMethod y_K_line : Cond) ∈ gT := g_3 (i := 29) rfl rfl
theorem gm_537 : (.selects R_K y_K_line y_K_line : Cond) ∈ gT := g_3 (i := 30) rfl rfl
theorem gm_538 : (.code y_K_line c_K_line 2 (some .int) : Cond) ∈ gT := g_3 (i := 31) rfl rfl
theorem gm_539 : (.methodLink R_L 56 y_K_witnessLine : Cond) ∈ gT := g_3 (i := 32) rfl rfl
theorem gm_540 : (.instanceMethod y_K_witnessLine : Cond) ∈ gT := g_3 (i := 33) rfl rfl
theorem gm_541 : (.selects R_K y_K_witnessLine y_K_witnessLine : Cond) ∈ gT := g_3 (i := 34) rfl rfl
theorem gm_542 : (.code y_K_witnessLine c_K_witnessLine 3 (some .int) : Cond) ∈ gT := g_3 (i := 35) rfl rfl
theorem gm_543 : (.methodLink R_L 61 y_K_connect : Cond) ∈ gT := g_3 (i := 36) rfl rfl
theorem gm_544 : (.instanceMethod y_K_connect : Cond) ∈ gT := g_3 (i := 37) rfl rfl
theorem gm_545 : (.selects R_K y_K_connect y_K_connect : Cond) ∈ gT := g_3 (i := 38) rfl rfl
theorem gm_546 : (.code y_K_connect c_K_connect 5 (some .int) : Cond) ∈ gT := g_3 (i := 39) rfl rfl
theorem gm_547 : (.methodLink R_K 114 y_K_finished : Cond) ∈ gT := g_3 (i := 40) rfl rfl
theorem gm_549 : (.instanceMethod y_K_finished : Cond) ∈ gT := g_3 (i := 42) rfl rfl
theorem gm_550 : (.code y_K_finished c_K_finished 3 none : Cond) ∈ gT := g_3 (i := 43) rfl rfl
theorem gm_551 : (.methodLink R_L 65 y_K_resync : Cond) ∈ gT := g_3 (i := 44) rfl rfl
theorem gm_552 : (.instanceMethod y_K_resync : Cond) ∈ gT := g_3 (i := 45) rfl rfl
theorem gm_553 : (.selects R_K y_K_resync y_K_resync : Cond) ∈ gT := g_3 (i := 46) rfl rfl
theorem gm_554 : (.code y_K_resync c_K_resync 7 (some .int) : Cond) ∈ gT := g_3 (i := 47) rfl rfl
theorem gm_555 : (.methodLink R_L 69 y_K_promote : Cond) ∈ gT := g_3 (i := 48) rfl rfl
theorem gm_556 : (.instanceMethod y_K_promote : Cond) ∈ gT := g_3 (i := 49) rfl rfl
theorem gm_557 : (.selects R_K y_K_promote y_K_promote : Cond) ∈ gT := g_3 (i := 50) rfl rfl
theorem gm_558 : (.code y_K_promote c_K_promote 7 (some .int) : Cond) ∈ gT := g_3 (i := 51) rfl rfl
theorem gm_559 : (.methodLink R_L 73 y_K_demote : Cond) ∈ gT := g_3 (i := 52) rfl rfl
theorem gm_560 : (.instanceMethod y_K_demote : Cond) ∈ gT := g_3 (i := 53) rfl rfl
theorem gm_561 : (.selects R_K y_K_demote y_K_demote : Cond) ∈ gT := g_3 (i := 54) rfl rfl
theorem gm_562 : (.code y_K_demote c_K_demote 2 (some .int) : Cond) ∈ gT := g_3 (i := 55) rfl rfl
theorem gm_563 : (.methodLink R_L 77 y_K_renew : Cond) ∈ gT := g_3 (i := 56) rfl rfl
theorem gm_564 : (.instanceMethod y_K_renew : Cond) ∈ gT := g_3 (i := 57) rfl rfl
theorem gm_565 : (.selects R_K y_K_renew y_K_renew : Cond) ∈ gT := g_3 (i := 58) rfl rfl
theorem gm_566 : (.code y_K_renew c_K_renew 1 (some .int) : Cond) ∈ gT := g_3 (i := 59) rfl rfl
theorem gm_567 : (.methodLink R_L 81 y_K_tick : Cond) ∈ gT := g_3 (i := 60) rfl rfl
theorem gm_568 : (.instanceMethod y_K_tick : Cond) ∈ gT := g_3 (i := 61) rfl rfl
theorem gm_569 : (.selects R_K y_K_tick y_K_tick : Cond) ∈ gT := g_3 (i := 62) rfl rfl
theorem gm_570 : (.code y_K_tick c_K_tick 2 (some .int) : Cond) ∈ gT := g_3 (i := 63) rfl rfl
theorem gm_571 : (.methodLink R_L 86 y_K_block : Cond) ∈ gT := g_3 (i := 64) rfl rfl
theorem gm_572 : (.instanceMethod y_K_block : Cond) ∈ gT := g_3 (i := 65) rfl rfl
theorem gm_573 : (.selects R_K y_K_block y_K_block : Cond) ∈ gT := g_3 (i := 66) rfl rfl
theorem gm_574 : (.code y_K_block c_K_block 4 (some .long) : Cond) ∈ gT := g_3 (i := 67) rfl rfl
theorem gm_575 : (.methodLink R_L 90 y_K_node : Cond) ∈ gT := g_3 (i := 68) rfl rfl
theorem gm_576 : (.instanceMethod y_K_node : Cond) ∈ gT := g_3 (i := 69) rfl rfl
theorem gm_577 : (.selects R_K y_K_node y_K_node : Cond) ∈ gT := g_3 (i := 70) rfl rfl
theorem gm_578 : (.code y_K_node c_K_node 5 (some .int) : Cond) ∈ gT := g_3 (i := 71) rfl rfl
theorem gm_579 : (.methodLink R_L 94 y_K_mirror : Cond) ∈ gT := g_3 (i := 72) rfl rfl
theorem gm_580 : (.instanceMethod y_K_mirror : Cond) ∈ gT := g_3 (i := 73) rfl rfl
theorem gm_581 : (.selects R_K y_K_mirror y_K_mirror : Cond) ∈ gT := g_3 (i := 74) rfl rfl
theorem gm_582 : (.code y_K_mirror c_K_mirror 2 (some .int) : Cond) ∈ gT := g_3 (i := 75) rfl rfl
theorem in_B : ∀ w ∈ u_ws R_B T_B 3, w ∈ gT := fun w hw => by
  obtain ⟨k, hk, rfl⟩ := List.mem_map.mp hw
  have hk := List.mem_range.mp hk
  match k, hk with
  | 0, _ => exact gm_59
  | 1, _ => exact gm_61
  | 2, _ => exact gm_63
  | n + 3, h => exact absurd h (by omega)
theorem in_D : ∀ w ∈ u_ws R_D T_D 3, w ∈ gT := fun w hw => by
  obtain ⟨k, hk, rfl⟩ := List.mem_map.mp hw
  have hk := List.mem_range.mp hk
  match k, hk with
  | 0, _ => exact gm_82
  | 1, _ => exact gm_84
  | 2, _ => exact gm_86
  | n + 3, h => exact absurd h (by omega)
theorem in_N : ∀ w ∈ u_ws R_N T_N 8, w ∈ gT := fun w hw => by
  obtain ⟨k, hk, rfl⟩ := List.mem_map.mp hw
  have hk := List.mem_range.mp hk
  match k, hk with
  | 0, _ => exact gm_105
  | 1, _ => exact gm_107
  | 2, _ => exact gm_109
  | 3, _ => exact gm_111
  | 4, _ => exact gm_113
  | 5, _ => exact gm_115
  | 6, _ => exact gm_117
  | 7, _ => exact gm_119
  | n + 8, h => exact absurd h (by omega)
theorem in_T : ∀ w ∈ u_ws R_T T_T 5, w ∈ gT := fun w hw => by
  obtain ⟨k, hk, rfl⟩ := List.mem_map.mp hw
  have hk := List.mem_range.mp hk
  match k, hk with
  | 0, _ => exact gm_143
  | 1, _ => exact gm_145
  | 2, _ => exact gm_147
  | 3, _ => exact gm_149
  | 4, _ => exact gm_151
  | n + 5, h => exact absurd h (by omega)
theorem in_M : ∀ w ∈ u_ws R_M T_M 7, w ∈ gT := fun w hw => by
  obtain ⟨k, hk, rfl⟩ := List.mem_map.mp hw
  have hk := List.mem_range.mp hk
  match k, hk with
  | 0, _ => exact gm_161
  | 1, _ => exact gm_163
  | 2, _ => exact gm_165
  | 3, _ => exact gm_167
  | 4, _ => exact gm_169
  | 5, _ => exact gm_171
  | 6, _ => exact gm_173
  | n + 7, h => exact absurd h (by omega)
theorem in_K : ∀ w ∈ u_ws R_K T_K 21, w ∈ gT := fun w hw => by
  obtain ⟨k, hk, rfl⟩ := List.mem_map.mp hw
  have hk := List.mem_range.mp hk
  match k, hk with
  | 0, _ => exact gm_421
  | 1, _ => exact gm_423
  | 2, _ => exact gm_425
  | 3, _ => exact gm_427
  | 4, _ => exact gm_429
  | 5, _ => exact gm_431
  | 6, _ => exact gm_433
  | 7, _ => exact gm_435
  | 8, _ => exact gm_437
  | 9, _ => exact gm_439
  | 10, _ => exact gm_441
  | 11, _ => exact gm_443
  | 12, _ => exact gm_445
  | 13, _ => exact gm_447
  | 14, _ => exact gm_449
  | 15, _ => exact gm_451
  | 16, _ => exact gm_453
  | 17, _ => exact gm_455
  | 18, _ => exact gm_457
  | 19, _ => exact gm_459
  | 20, _ => exact gm_461
  | n + 21, h => exact absurd h (by omega)
