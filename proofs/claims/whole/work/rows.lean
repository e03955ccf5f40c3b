section
-- ===== PART A: goes FIRST, ahead of the names: the tables' words, and 'selects' of the private methods out of them =====
/-- a private method of a class that the tables say can be made, by its rows of tables_1 -/
def lw_okq (q : MethodName × Nat) : Prop := (q.1.cls ≠ "java/lang/invoke/MethodHandle" ∧ q.1.cls ≠ "java/lang/invoke/VarHandle") ∧ Cond.instantiable q.1.cls q.2 ∈ tables_1 ∧ Cond.privateMethod q.1 ∈ tables_1 ∧ Cond.instanceMethod q.1 ∈ tables_1
theorem lw_p0 : lw_okq (⟨"WitnessedMirror", "findPrimary", "()I"⟩, 7) := ⟨⟨by decide +kernel, by decide +kernel⟩, List.mem_of_getElem? (i := 11) (by decide +kernel), List.mem_of_getElem? (i := 157) (by decide +kernel), List.mem_of_getElem? (i := 158) (by decide +kernel)⟩
theorem lw_p1 : lw_okq (⟨"WitnessedMirror", "isUnpaired", "(I)Z"⟩, 7) := ⟨⟨by decide +kernel, by decide +kernel⟩, List.mem_of_getElem? (i := 11) (by decide +kernel), List.mem_of_getElem? (i := 169) (by decide +kernel), List.mem_of_getElem? (i := 170) (by decide +kernel)⟩
theorem lw_p2 : lw_okq (⟨"WitnessedMirror", "goAlone", "(I)V"⟩, 7) := ⟨⟨by decide +kernel, by decide +kernel⟩, List.mem_of_getElem? (i := 11) (by decide +kernel), List.mem_of_getElem? (i := 173) (by decide +kernel), List.mem_of_getElem? (i := 174) (by decide +kernel)⟩
theorem lw_p3 : lw_okq (⟨"WitnessedMirror", "doCommitStep", "(II)V"⟩, 7) := ⟨⟨by decide +kernel, by decide +kernel⟩, List.mem_of_getElem? (i := 11) (by decide +kernel), List.mem_of_getElem? (i := 177) (by decide +kernel), List.mem_of_getElem? (i := 178) (by decide +kernel)⟩
theorem lw_p4 : lw_okq (⟨"WitnessedMirror", "flushBy", "(I)V"⟩, 7) := ⟨⟨by decide +kernel, by decide +kernel⟩, List.mem_of_getElem? (i := 11) (by decide +kernel), List.mem_of_getElem? (i := 181) (by decide +kernel), List.mem_of_getElem? (i := 182) (by decide +kernel)⟩
theorem lw_p5 : lw_okq (⟨"WitnessedMirror", "writeBy", "(III)V"⟩, 7) := ⟨⟨by decide +kernel, by decide +kernel⟩, List.mem_of_getElem? (i := 11) (by decide +kernel), List.mem_of_getElem? (i := 197) (by decide +kernel), List.mem_of_getElem? (i := 198) (by decide +kernel)⟩
theorem lw_p6 : lw_okq (⟨"WitnessedMirror", "bringDown", "(II)V"⟩, 7) := ⟨⟨by decide +kernel, by decide +kernel⟩, List.mem_of_getElem? (i := 11) (by decide +kernel), List.mem_of_getElem? (i := 205) (by decide +kernel), List.mem_of_getElem? (i := 206) (by decide +kernel)⟩
theorem lw_p7 : lw_okq (⟨"WitnessedMirror", "makeSecondary", "(I)V"⟩, 7) := ⟨⟨by decide +kernel, by decide +kernel⟩, List.mem_of_getElem? (i := 11) (by decide +kernel), List.mem_of_getElem? (i := 214) (by decide +kernel), List.mem_of_getElem? (i := 215) (by decide +kernel)⟩
theorem lw_p8 : lw_okq (⟨"WitnessedMirror", "disconnect", "()V"⟩, 7) := ⟨⟨by decide +kernel, by decide +kernel⟩, List.mem_of_getElem? (i := 11) (by decide +kernel), List.mem_of_getElem? (i := 218) (by decide +kernel), List.mem_of_getElem? (i := 219) (by decide +kernel)⟩
theorem lw_p9 : lw_okq (⟨"WitnessedMirror", "chooseSource", "()I"⟩, 7) := ⟨⟨by decide +kernel, by decide +kernel⟩, List.mem_of_getElem? (i := 11) (by decide +kernel), List.mem_of_getElem? (i := 269) (by decide +kernel), List.mem_of_getElem? (i := 270) (by decide +kernel)⟩
theorem lw_p10 : lw_okq (⟨"WitnessedMirror", "extentsThatMayDiffer", "()I"⟩, 7) := ⟨⟨by decide +kernel, by decide +kernel⟩, List.mem_of_getElem? (i := 11) (by decide +kernel), List.mem_of_getElem? (i := 273) (by decide +kernel), List.mem_of_getElem? (i := 274) (by decide +kernel)⟩
theorem lw_p11 : lw_okq (⟨"WitnessedMirror", "finishSync", "()V"⟩, 7) := ⟨⟨by decide +kernel, by decide +kernel⟩, List.mem_of_getElem? (i := 11) (by decide +kernel), List.mem_of_getElem? (i := 277) (by decide +kernel), List.mem_of_getElem? (i := 278) (by decide +kernel)⟩
theorem lw_p12 : lw_okq (⟨"WitnessedMirror", "startSync", "(I)V"⟩, 7) := ⟨⟨by decide +kernel, by decide +kernel⟩, List.mem_of_getElem? (i := 11) (by decide +kernel), List.mem_of_getElem? (i := 281) (by decide +kernel), List.mem_of_getElem? (i := 282) (by decide +kernel)⟩
theorem lw_p13 : lw_okq (⟨"WitnessedMirror", "copyExtent", "(I)V"⟩, 7) := ⟨⟨by decide +kernel, by decide +kernel⟩, List.mem_of_getElem? (i := 11) (by decide +kernel), List.mem_of_getElem? (i := 299) (by decide +kernel), List.mem_of_getElem? (i := 300) (by decide +kernel)⟩
theorem lw_p14 : lw_okq (⟨"WitnessedMirror", "redoJournal", "(I)I"⟩, 7) := ⟨⟨by decide +kernel, by decide +kernel⟩, List.mem_of_getElem? (i := 11) (by decide +kernel), List.mem_of_getElem? (i := 327) (by decide +kernel), List.mem_of_getElem? (i := 328) (by decide +kernel)⟩
theorem lw_p15 : lw_okq (⟨"WitnessedMirrorModel", "out", "(II)Z"⟩, 21) := ⟨⟨by decide +kernel, by decide +kernel⟩, List.mem_of_getElem? (i := 368) (by decide +kernel), List.mem_of_getElem? (i := 443) (by decide +kernel), List.mem_of_getElem? (i := 444) (by decide +kernel)⟩
def lw_privs_1 : List (MethodName × Nat) := [(⟨"WitnessedMirror", "findPrimary", "()I"⟩, 7), (⟨"WitnessedMirror", "isUnpaired", "(I)Z"⟩, 7), (⟨"WitnessedMirror", "goAlone", "(I)V"⟩, 7), (⟨"WitnessedMirror", "doCommitStep", "(II)V"⟩, 7), (⟨"WitnessedMirror", "flushBy", "(I)V"⟩, 7), (⟨"WitnessedMirror", "writeBy", "(III)V"⟩, 7), (⟨"WitnessedMirror", "bringDown", "(II)V"⟩, 7), (⟨"WitnessedMirror", "makeSecondary", "(I)V"⟩, 7), (⟨"WitnessedMirror", "disconnect", "()V"⟩, 7), (⟨"WitnessedMirror", "chooseSource", "()I"⟩, 7), (⟨"WitnessedMirror", "extentsThatMayDiffer", "()I"⟩, 7), (⟨"WitnessedMirror", "finishSync", "()V"⟩, 7), (⟨"WitnessedMirror", "startSync", "(I)V"⟩, 7), (⟨"WitnessedMirror", "copyExtent", "(I)V"⟩, 7), (⟨"WitnessedMirror", "redoJournal", "(I)I"⟩, 7), (⟨"WitnessedMirrorModel", "out", "(II)Z"⟩, 21)]
theorem lw_r1 : ∀ q ∈ lw_privs_1, lw_okq q := List.forall_mem_cons.mpr ⟨lw_p0, List.forall_mem_cons.mpr ⟨lw_p1, List.forall_mem_cons.mpr ⟨lw_p2, List.forall_mem_cons.mpr ⟨lw_p3, List.forall_mem_cons.mpr ⟨lw_p4, List.forall_mem_cons.mpr ⟨lw_p5, List.forall_mem_cons.mpr ⟨lw_p6, List.forall_mem_cons.mpr ⟨lw_p7, List.forall_mem_cons.mpr ⟨lw_p8, List.forall_mem_cons.mpr ⟨lw_p9, List.forall_mem_cons.mpr ⟨lw_p10, List.forall_mem_cons.mpr ⟨lw_p11, List.forall_mem_cons.mpr ⟨lw_p12, List.forall_mem_cons.mpr ⟨lw_p13, List.forall_mem_cons.mpr ⟨lw_p14, List.forall_mem_cons.mpr ⟨lw_p15, fun _ h => absurd h List.not_mem_nil⟩⟩⟩⟩⟩⟩⟩⟩⟩⟩⟩⟩⟩⟩⟩⟩
theorem lw_p16 : lw_okq (⟨"WitnessedMirrorModel", "goAlone", "(I)V"⟩, 21) := ⟨⟨by decide +kernel, by decide +kernel⟩, List.mem_of_getElem? (i := 368) (by decide +kernel), List.mem_of_getElem? (i := 451) (by decide +kernel), List.mem_of_getElem? (i := 452) (by decide +kernel)⟩
theorem lw_p17 : lw_okq (⟨"WitnessedMirrorModel", "step", "(II)V"⟩, 21) := ⟨⟨by decide +kernel, by decide +kernel⟩, List.mem_of_getElem? (i := 368) (by decide +kernel), List.mem_of_getElem? (i := 455) (by decide +kernel), List.mem_of_getElem? (i := 456) (by decide +kernel)⟩
theorem lw_p18 : lw_okq (⟨"WitnessedMirrorModel", "flushStep", "()V"⟩, 21) := ⟨⟨by decide +kernel, by decide +kernel⟩, List.mem_of_getElem? (i := 368) (by decide +kernel), List.mem_of_getElem? (i := 459) (by decide +kernel), List.mem_of_getElem? (i := 460) (by decide +kernel)⟩
theorem lw_p19 : lw_okq (⟨"WitnessedMirrorModel", "settle", "(I)V"⟩, 21) := ⟨⟨by decide +kernel, by decide +kernel⟩, List.mem_of_getElem? (i := 368) (by decide +kernel), List.mem_of_getElem? (i := 463) (by decide +kernel), List.mem_of_getElem? (i := 464) (by decide +kernel)⟩
theorem lw_p20 : lw_okq (⟨"WitnessedMirrorModel", "holds", "(II)I"⟩, 21) := ⟨⟨by decide +kernel, by decide +kernel⟩, List.mem_of_getElem? (i := 368) (by decide +kernel), List.mem_of_getElem? (i := 467) (by decide +kernel), List.mem_of_getElem? (i := 468) (by decide +kernel)⟩
theorem lw_p21 : lw_okq (⟨"WitnessedMirrorModel", "writeStep", "(II)V"⟩, 21) := ⟨⟨by decide +kernel, by decide +kernel⟩, List.mem_of_getElem? (i := 368) (by decide +kernel), List.mem_of_getElem? (i := 471) (by decide +kernel), List.mem_of_getElem? (i := 472) (by decide +kernel)⟩
theorem lw_p22 : lw_okq (⟨"WitnessedMirrorModel", "keepIn", "(III)V"⟩, 21) := ⟨⟨by decide +kernel, by decide +kernel⟩, List.mem_of_getElem? (i := 368) (by decide +kernel), List.mem_of_getElem? (i := 475) (by decide +kernel), List.mem_of_getElem? (i := 476) (by decide +kernel)⟩
theorem lw_p23 : lw_okq (⟨"WitnessedMirrorModel", "extentBit", "(I)I"⟩, 21) := ⟨⟨by decide +kernel, by decide +kernel⟩, List.mem_of_getElem? (i := 368) (by decide +kernel), List.mem_of_getElem? (i := 479) (by decide +kernel), List.mem_of_getElem? (i := 480) (by decide +kernel)⟩
theorem lw_p24 : lw_okq (⟨"WitnessedMirrorModel", "noPrimary", "()V"⟩, 21) := ⟨⟨by decide +kernel, by decide +kernel⟩, List.mem_of_getElem? (i := 368) (by decide +kernel), List.mem_of_getElem? (i := 487) (by decide +kernel), List.mem_of_getElem? (i := 488) (by decide +kernel)⟩
theorem lw_p25 : lw_okq (⟨"WitnessedMirrorModel", "disconnect", "()V"⟩, 21) := ⟨⟨by decide +kernel, by decide +kernel⟩, List.mem_of_getElem? (i := 368) (by decide +kernel), List.mem_of_getElem? (i := 491) (by decide +kernel), List.mem_of_getElem? (i := 492) (by decide +kernel)⟩
theorem lw_p26 : lw_okq (⟨"WitnessedMirrorModel", "finished", "(I)V"⟩, 21) := ⟨⟨by decide +kernel, by decide +kernel⟩, List.mem_of_getElem? (i := 368) (by decide +kernel), List.mem_of_getElem? (i := 521) (by decide +kernel), List.mem_of_getElem? (i := 522) (by decide +kernel)⟩
def lw_privs_2 : List (MethodName × Nat) := [(⟨"WitnessedMirrorModel", "goAlone", "(I)V"⟩, 21), (⟨"WitnessedMirrorModel", "step", "(II)V"⟩, 21), (⟨"WitnessedMirrorModel", "flushStep", "()V"⟩, 21), (⟨"WitnessedMirrorModel", "settle", "(I)V"⟩, 21), (⟨"WitnessedMirrorModel", "holds", "(II)I"⟩, 21), (⟨"WitnessedMirrorModel", "writeStep", "(II)V"⟩, 21), (⟨"WitnessedMirrorModel", "keepIn", "(III)V"⟩, 21), (⟨"WitnessedMirrorModel", "extentBit", "(I)I"⟩, 21), (⟨"WitnessedMirrorModel", "noPrimary", "()V"⟩, 21), (⟨"WitnessedMirrorModel", "disconnect", "()V"⟩, 21), (⟨"WitnessedMirrorModel", "finished", "(I)V"⟩, 21)]
theorem lw_r2 : ∀ q ∈ lw_privs_2, lw_okq q := List.forall_mem_cons.mpr ⟨lw_p16, List.forall_mem_cons.mpr ⟨lw_p17, List.forall_mem_cons.mpr ⟨lw_p18, List.forall_mem_cons.mpr ⟨lw_p19, List.forall_mem_cons.mpr ⟨lw_p20, List.forall_mem_cons.mpr ⟨lw_p21, List.forall_mem_cons.mpr ⟨lw_p22, List.forall_mem_cons.mpr ⟨lw_p23, List.forall_mem_cons.mpr ⟨lw_p24, List.forall_mem_cons.mpr ⟨lw_p25, List.forall_mem_cons.mpr ⟨lw_p26, fun _ h => absurd h List.not_mem_nil⟩⟩⟩⟩⟩⟩⟩⟩⟩⟩⟩
def lw_privs : List (MethodName × Nat) := lw_privs_1 ++ (lw_privs_2)
def lw_tbl : List Cond := k2_sels lw_privs ++ tables_1
theorem lw_privs_ok : ∀ q ∈ lw_privs, lw_okq q := by
  show ∀ q ∈ lw_privs_1 ++ (lw_privs_2), lw_okq q
  exact List.forall_mem_append.mpr ⟨lw_r1, lw_r2⟩
end
section
-- names, fields, words
def R_M : String := "WitnessedMirror"
def R_N : String := "WitnessedMirror$Node"
def R_D : String := "WitnessedMirror$Disk"
def R_T : String := "WitnessedMirror$Witness"
def R_B : String := "WitnessedMirror$Batch"
def R_K : String := "WitnessedMirrorModel"
def R_L : String := "WitnessedMirrorLaw"
def R_J : String := "java/lang/Integer"
def R_H : String := "java/lang/Math"
def R_Y : String := "java/util/Arrays"
def T_B : u_T := fun k => match k with
  | 0 => ("WitnessedMirror$Batch", "cells", "[I", true)
  | 1 => ("WitnessedMirror$Batch", "values", "[I", true)
  | _ => ("WitnessedMirror$Batch", "size", "I", false)
def fy_B : Nat → FieldType := fun k => match k with
  | 0 => .array .int
  | 1 => .array .int
  | _ => .int
theorem n_B : ∀ a, a < 3 → ∀ b, b < 3 → a ≠ b → (T_B a).2.1 ≠ (T_B b).2.1 := by decide +kernel
theorem fy_B_ok : ∀ k, k < 3 → parseFieldDescriptor (T_B k).2.2.1 = some (fy_B k) := by decide +kernel
def T_D : u_T := fun k => match k with
  | 0 => ("WitnessedMirror$Disk", "stable", "[I", true)
  | 1 => ("WitnessedMirror$Disk", "cached", "[I", true)
  | _ => ("WitnessedMirror$Disk", "cachedBits", "I", false)
def fy_D : Nat → FieldType := fun k => match k with
  | 0 => .array .int
  | 1 => .array .int
  | _ => .int
theorem n_D : ∀ a, a < 3 → ∀ b, b < 3 → a ≠ b → (T_D a).2.1 ≠ (T_D b).2.1 := by decide +kernel
theorem fy_D_ok : ∀ k, k < 3 → parseFieldDescriptor (T_D k).2.2.1 = some (fy_D k) := by decide +kernel
def T_N : u_T := fun k => match k with
  | 0 => ("WitnessedMirror$Node", "disk", "LWitnessedMirror$Disk;", true)
  | 1 => ("WitnessedMirror$Node", "up", "Z", false)
  | 2 => ("WitnessedMirror$Node", "primary", "Z", false)
  | 3 => ("WitnessedMirror$Node", "generation", "I", false)
  | 4 => ("WitnessedMirror$Node", "base", "I", false)
  | 5 => ("WitnessedMirror$Node", "alone", "Z", false)
  | 6 => ("WitnessedMirror$Node", "marks", "I", false)
  | _ => ("WitnessedMirror$Node", "witnessLineUp", "Z", false)
def fy_N : Nat → FieldType := fun k => match k with
  | 0 => .object "WitnessedMirror$Disk"
  | 1 => .boolean
  | 2 => .boolean
  | 3 => .int
  | 4 => .int
  | 5 => .boolean
  | 6 => .int
  | _ => .boolean
theorem n_N : ∀ a, a < 8 → ∀ b, b < 8 → a ≠ b → (T_N a).2.1 ≠ (T_N b).2.1 := by decide +kernel
theorem fy_N_ok : ∀ k, k < 8 → parseFieldDescriptor (T_N k).2.2.1 = some (fy_N k) := by decide +kernel
def T_T : u_T := fun k => match k with
  | 0 => ("WitnessedMirror$Witness", "length", "I", true)
  | 1 => ("WitnessedMirror$Witness", "generation", "I", false)
  | 2 => ("WitnessedMirror$Witness", "time", "I", false)
  | 3 => ("WitnessedMirror$Witness", "holder", "I", false)
  | _ => ("WitnessedMirror$Witness", "end", "I", false)
def fy_T : Nat → FieldType := fun k => match k with
  | 0 => .int
  | 1 => .int
  | 2 => .int
  | 3 => .int
  | _ => .int
theorem n_T : ∀ a, a < 5 → ∀ b, b < 5 → a ≠ b → (T_T a).2.1 ≠ (T_T b).2.1 := by decide +kernel
theorem fy_T_ok : ∀ k, k < 5 → parseFieldDescriptor (T_T k).2.2.1 = some (fy_T k) := by decide +kernel
def T_M : u_T := fun k => match k with
  | 0 => ("WitnessedMirror", "nodes", "[LWitnessedMirror$Node;", true)
  | 1 => ("WitnessedMirror", "witness", "LWitnessedMirror$Witness;", true)
  | 2 => ("WitnessedMirror", "batch", "LWitnessedMirror$Batch;", true)
  | 3 => ("WitnessedMirror", "lineUp", "Z", false)
  | 4 => ("WitnessedMirror", "connected", "Z", false)
  | 5 => ("WitnessedMirror", "syncing", "Z", false)
  | _ => ("WitnessedMirror", "source", "I", false)
def fy_M : Nat → FieldType := fun k => match k with
  | 0 => .array (.object "WitnessedMirror$Node")
  | 1 => .object "WitnessedMirror$Witness"
  | 2 => .object "WitnessedMirror$Batch"
  | 3 => .boolean
  | 4 => .boolean
  | 5 => .boolean
  | _ => .int
theorem n_M : ∀ a, a < 7 → ∀ b, b < 7 → a ≠ b → (T_M a).2.1 ≠ (T_M b).2.1 := by decide +kernel
theorem fy_M_ok : ∀ k, k < 7 → parseFieldDescriptor (T_M k).2.2.1 = some (fy_M k) := by decide +kernel
def T_K : u_T := fun k => match k with
  | 0 => ("WitnessedMirrorModel", "lease", "I", true)
  | 1 => ("WitnessedMirrorModel", "stable", "[I", true)
  | 2 => ("WitnessedMirrorModel", "cached", "[I", true)
  | 3 => ("WitnessedMirrorModel", "has", "[Z", true)
  | 4 => ("WitnessedMirrorModel", "down", "[Z", true)
  | 5 => ("WitnessedMirrorModel", "alone", "[Z", true)
  | 6 => ("WitnessedMirrorModel", "cutOff", "[Z", true)
  | 7 => ("WitnessedMirrorModel", "generation", "[I", true)
  | 8 => ("WitnessedMirrorModel", "base", "[I", true)
  | 9 => ("WitnessedMirrorModel", "marks", "[I", true)
  | 10 => ("WitnessedMirrorModel", "primary", "I", false)
  | 11 => ("WitnessedMirrorModel", "source", "I", false)
  | 12 => ("WitnessedMirrorModel", "holder", "I", false)
  | 13 => ("WitnessedMirrorModel", "connected", "Z", false)
  | 14 => ("WitnessedMirrorModel", "lineUp", "Z", false)
  | 15 => ("WitnessedMirrorModel", "witness", "I", false)
  | 16 => ("WitnessedMirrorModel", "time", "I", false)
  | 17 => ("WitnessedMirrorModel", "end", "I", false)
  | 18 => ("WitnessedMirrorModel", "entries", "I", false)
  | 19 => ("WitnessedMirrorModel", "entryCell", "[I", true)
  | _ => ("WitnessedMirrorModel", "entryValue", "[I", true)
def fy_K : Nat → FieldType := fun k => match k with
  | 0 => .int
  | 1 => .array .int
  | 2 => .array .int
  | 3 => .array .boolean
  | 4 => .array .boolean
  | 5 => .array .boolean
  | 6 => .array .boolean
  | 7 => .array .int
  | 8 => .array .int
  | 9 => .array .int
  | 10 => .int
  | 11 => .int
  | 12 => .int
  | 13 => .boolean
  | 14 => .boolean
  | 15 => .int
  | 16 => .int
  | 17 => .int
  | 18 => .int
  | 19 => .array .int
  | _ => .array .int
theorem n_K : ∀ a, a < 21 → ∀ b, b < 21 → a ≠ b → (T_K a).2.1 ≠ (T_K b).2.1 := by decide +kernel
theorem fy_K_ok : ∀ k, k < 21 → parseFieldDescriptor (T_K k).2.2.1 = some (fy_K k) := by decide +kernel
abbrev c_M_init : ByteArray := prog_1_method_1_code
def y_M_init : MethodName := ⟨R_M, "<init>", "(I)V"⟩
abbrev c_B_init : ByteArray := prog_2_method_1_code
def y_B_init : MethodName := ⟨R_B, "<init>", "()V"⟩
abbrev c_N_init : ByteArray := prog_4_method_1_code
def y_N_init : MethodName := ⟨R_N, "<init>", "()V"⟩
abbrev c_D_init : ByteArray := prog_3_method_1_code
def y_D_init : MethodName := ⟨R_D, "<init>", "()V"⟩
abbrev c_H_min : ByteArray := prog_9_method_69_code
def y_H_min : MethodName := ⟨R_H, "min", "(II)I"⟩
abbrev c_H_max : ByteArray := prog_9_method_65_code
def y_H_max : MethodName := ⟨R_H, "max", "(II)I"⟩
abbrev c_T_init : ByteArray := prog_5_method_1_code
def y_T_init : MethodName := ⟨R_T, "<init>", "(I)V"⟩
abbrev c_M_stage : ByteArray := prog_1_method_2_code
def y_M_stage : MethodName := ⟨R_M, "stage", "(II)I"⟩
abbrev c_M_isCell : ByteArray := prog_1_method_20_code
def y_M_isCell : MethodName := ⟨R_M, "isCell", "(I)Z"⟩
abbrev c_M_findPrimary : ByteArray := prog_1_method_22_code
def y_M_findPrimary : MethodName := ⟨R_M, "findPrimary", "()I"⟩
abbrev c_B_append : ByteArray := prog_2_method_2_code
def y_B_append : MethodName := ⟨R_B, "append", "(II)V"⟩
abbrev c_M_commit : ByteArray := prog_1_method_3_code
def y_M_commit : MethodName := ⟨R_M, "commit", "(II)I"⟩
abbrev c_M_isUnpaired : ByteArray := prog_1_method_25_code
def y_M_isUnpaired : MethodName := ⟨R_M, "isUnpaired", "(I)Z"⟩
abbrev c_M_goAlone : ByteArray := prog_1_method_26_code
def y_M_goAlone : MethodName := ⟨R_M, "goAlone", "(I)V"⟩
abbrev c_M_doCommitStep : ByteArray := prog_1_method_30_code
def y_M_doCommitStep : MethodName := ⟨R_M, "doCommitStep", "(II)V"⟩
abbrev c_M_flushBy : ByteArray := prog_1_method_29_code
def y_M_flushBy : MethodName := ⟨R_M, "flushBy", "(I)V"⟩
abbrev c_D_flush : ByteArray := prog_3_method_5_code
def y_D_flush : MethodName := ⟨R_D, "flush", "()V"⟩
abbrev c_D_settle : ByteArray := prog_3_method_6_code
def y_D_settle : MethodName := ⟨R_D, "settle", "(I)V"⟩
abbrev c_D_isCached : ByteArray := prog_3_method_2_code
def y_D_isCached : MethodName := ⟨R_D, "isCached", "(I)Z"⟩
abbrev c_M_writeBy : ByteArray := prog_1_method_28_code
def y_M_writeBy : MethodName := ⟨R_M, "writeBy", "(III)V"⟩
abbrev c_D_put : ByteArray := prog_3_method_4_code
def y_D_put : MethodName := ⟨R_D, "put", "(II)V"⟩
abbrev c_M_bringDown : ByteArray := prog_1_method_27_code
def y_M_bringDown : MethodName := ⟨R_M, "bringDown", "(II)V"⟩
abbrev c_D_cachedExtents : ByteArray := prog_3_method_8_code
def y_D_cachedExtents : MethodName := ⟨R_D, "cachedExtents", "()I"⟩
abbrev c_M_makeSecondary : ByteArray := prog_1_method_23_code
def y_M_makeSecondary : MethodName := ⟨R_M, "makeSecondary", "(I)V"⟩
abbrev c_M_disconnect : ByteArray := prog_1_method_24_code
def y_M_disconnect : MethodName := ⟨R_M, "disconnect", "()V"⟩
abbrev c_M_cell : ByteArray := prog_1_method_4_code
def y_M_cell : MethodName := ⟨R_M, "cell", "(I)J"⟩
abbrev c_D_held : ByteArray := prog_3_method_3_code
def y_D_held : MethodName := ⟨R_D, "held", "(I)I"⟩
abbrev c_M_crash : ByteArray := prog_1_method_5_code
def y_M_crash : MethodName := ⟨R_M, "crash", "(II)I"⟩
abbrev c_M_isNode : ByteArray := prog_1_method_19_code
def y_M_isNode : MethodName := ⟨R_M, "isNode", "(I)Z"⟩
abbrev c_M_restart : ByteArray := prog_1_method_6_code
def y_M_restart : MethodName := ⟨R_M, "restart", "(I)I"⟩
abbrev c_M_swap : ByteArray := prog_1_method_7_code
def y_M_swap : MethodName := ⟨R_M, "swap", "(I)I"⟩
abbrev c_N_renewDisk : ByteArray := prog_4_method_3_code
def y_N_renewDisk : MethodName := ⟨R_N, "renewDisk", "()V"⟩
abbrev c_D_erase : ByteArray := prog_3_method_9_code
def y_D_erase : MethodName := ⟨R_D, "erase", "()V"⟩
abbrev c_Y_fill : ByteArray := prog_10_method_103_code
def y_Y_fill : MethodName := ⟨R_Y, "fill", "([II)V"⟩
abbrev c_M_line : ByteArray := prog_1_method_8_code
def y_M_line : MethodName := ⟨R_M, "line", "(Z)I"⟩
abbrev c_M_witnessLine : ByteArray := prog_1_method_9_code
def y_M_witnessLine : MethodName := ⟨R_M, "witnessLine", "(IZ)I"⟩
abbrev c_M_connect : ByteArray := prog_1_method_10_code
def y_M_connect : MethodName := ⟨R_M, "connect", "()I"⟩
abbrev c_M_chooseSource : ByteArray := prog_1_method_32_code
def y_M_chooseSource : MethodName := ⟨R_M, "chooseSource", "()I"⟩
abbrev c_M_extentsThatMayDiffer : ByteArray := prog_1_method_33_code
def y_M_extentsThatMayDiffer : MethodName := ⟨R_M, "extentsThatMayDiffer", "()I"⟩
abbrev c_M_finishSync : ByteArray := prog_1_method_35_code
def y_M_finishSync : MethodName := ⟨R_M, "finishSync", "()V"⟩
abbrev c_M_startSync : ByteArray := prog_1_method_34_code
def y_M_startSync : MethodName := ⟨R_M, "startSync", "(I)V"⟩
abbrev c_J_bitCount : ByteArray := prog_8_method_49_code
def y_J_bitCount : MethodName := ⟨R_J, "bitCount", "(I)I"⟩
abbrev c_M_resync : ByteArray := prog_1_method_11_code
def y_M_resync : MethodName := ⟨R_M, "resync", "(I)I"⟩
abbrev c_J_numberOfTrailingZeros : ByteArray := prog_8_method_48_code
def y_J_numberOfTrailingZeros : MethodName := ⟨R_J, "numberOfTrailingZeros", "(I)I"⟩
abbrev c_M_copyExtent : ByteArray := prog_1_method_36_code
def y_M_copyExtent : MethodName := ⟨R_M, "copyExtent", "(I)V"⟩
abbrev c_M_promote : ByteArray := prog_1_method_12_code
def y_M_promote : MethodName := ⟨R_M, "promote", "(IZ)I"⟩
abbrev c_N_mayAskForLease : ByteArray := prog_4_method_2_code
def y_N_mayAskForLease : MethodName := ⟨R_N, "mayAskForLease", "()Z"⟩
abbrev c_T_isLentTo : ByteArray := prog_5_method_3_code
def y_T_isLentTo : MethodName := ⟨R_T, "isLentTo", "(I)Z"⟩
abbrev c_T_isRunning : ByteArray := prog_5_method_2_code
def y_T_isRunning : MethodName := ⟨R_T, "isRunning", "()Z"⟩
abbrev c_T_lendTo : ByteArray := prog_5_method_4_code
def y_T_lendTo : MethodName := ⟨R_T, "lendTo", "(I)V"⟩
abbrev c_T_extendLease : ByteArray := prog_5_method_5_code
def y_T_extendLease : MethodName := ⟨R_T, "extendLease", "()V"⟩
abbrev c_M_redoJournal : ByteArray := prog_1_method_31_code
def y_M_redoJournal : MethodName := ⟨R_M, "redoJournal", "(I)I"⟩
abbrev c_M_demote : ByteArray := prog_1_method_13_code
def y_M_demote : MethodName := ⟨R_M, "demote", "(I)I"⟩
abbrev c_M_renew : ByteArray := prog_1_method_14_code
def y_M_renew : MethodName := ⟨R_M, "renew", "()I"⟩
abbrev c_M_tick : ByteArray := prog_1_method_15_code
def y_M_tick : MethodName := ⟨R_M, "tick", "(I)I"⟩
abbrev c_M_block : ByteArray := prog_1_method_16_code
def y_M_block : MethodName := ⟨R_M, "block", "(IIZ)J"⟩
abbrev c_M_node : ByteArray := prog_1_method_17_code
def y_M_node : MethodName := ⟨R_M, "node", "(II)I"⟩
abbrev c_M_asNumber : ByteArray := prog_1_method_21_code
def y_M_asNumber : MethodName := ⟨R_M, "asNumber", "(Z)I"⟩
abbrev c_D_countCached : ByteArray := prog_3_method_7_code
def y_D_countCached : MethodName := ⟨R_D, "countCached", "()I"⟩
abbrev c_M_mirror : ByteArray := prog_1_method_18_code
def y_M_mirror : MethodName := ⟨R_M, "mirror", "(I)I"⟩
abbrev c_L_cell : ByteArray := method_2_code
def y_L_cell : MethodName := ⟨R_L, "cell", "([II)I"⟩
abbrev c_K_init : ByteArray := prog_7_method_1_code
def y_K_init : MethodName := ⟨R_K, "<init>", "(I)V"⟩
abbrev c_K_stage : ByteArray := prog_7_method_13_code
def y_K_stage : MethodName := ⟨R_K, "stage", "(II)I"⟩
abbrev c_K_out : ByteArray := prog_7_method_2_code
def y_K_out : MethodName := ⟨R_K, "out", "(II)Z"⟩
abbrev c_K_commit : ByteArray := prog_7_method_14_code
def y_K_commit : MethodName := ⟨R_K, "commit", "(II)I"⟩
abbrev c_K_goAlone : ByteArray := prog_7_method_7_code
def y_K_goAlone : MethodName := ⟨R_K, "goAlone", "(I)V"⟩
abbrev c_K_step : ByteArray := prog_7_method_12_code
def y_K_step : MethodName := ⟨R_K, "step", "(II)V"⟩
abbrev c_K_flushStep : ByteArray := prog_7_method_11_code
def y_K_flushStep : MethodName := ⟨R_K, "flushStep", "()V"⟩
abbrev c_K_settle : ByteArray := prog_7_method_10_code
def y_K_settle : MethodName := ⟨R_K, "settle", "(I)V"⟩
abbrev c_K_holds : ByteArray := prog_7_method_3_code
def y_K_holds : MethodName := ⟨R_K, "holds", "(II)I"⟩
abbrev c_K_writeStep : ByteArray := prog_7_method_9_code
def y_K_writeStep : MethodName := ⟨R_K, "writeStep", "(II)V"⟩
abbrev c_K_keepIn : ByteArray := prog_7_method_8_code
def y_K_keepIn : MethodName := ⟨R_K, "keepIn", "(III)V"⟩
abbrev c_K_extentBit : ByteArray := prog_7_method_4_code
def y_K_extentBit : MethodName := ⟨R_K, "extentBit", "(I)I"⟩
abbrev c_K_crash : ByteArray := prog_7_method_16_code
def y_K_crash : MethodName := ⟨R_K, "crash", "(II)I"⟩
abbrev c_K_noPrimary : ByteArray := prog_7_method_6_code
def y_K_noPrimary : MethodName := ⟨R_K, "noPrimary", "()V"⟩
abbrev c_K_disconnect : ByteArray := prog_7_method_5_code
def y_K_disconnect : MethodName := ⟨R_K, "disconnect", "()V"⟩
abbrev c_K_cell : ByteArray := prog_7_method_15_code
def y_K_cell : MethodName := ⟨R_K, "cell", "(I)J"⟩
abbrev c_K_restart : ByteArray := prog_7_method_17_code
def y_K_restart : MethodName := ⟨R_K, "restart", "(I)I"⟩
abbrev c_K_swap : ByteArray := prog_7_method_18_code
def y_K_swap : MethodName := ⟨R_K, "swap", "(I)I"⟩
abbrev c_K_line : ByteArray := prog_7_method_19_code
def y_K_line : MethodName := ⟨R_K, "line", "(Z)I"⟩
abbrev c_K_witnessLine : ByteArray := prog_7_method_20_code
def y_K_witnessLine : MethodName := ⟨R_K, "witnessLine", "(IZ)I"⟩
abbrev c_K_connect : ByteArray := prog_7_method_22_code
def y_K_connect : MethodName := ⟨R_K, "connect", "()I"⟩
abbrev c_K_finished : ByteArray := prog_7_method_21_code
def y_K_finished : MethodName := ⟨R_K, "finished", "(I)V"⟩
abbrev c_K_resync : ByteArray := prog_7_method_23_code
def y_K_resync : MethodName := ⟨R_K, "resync", "(I)I"⟩
abbrev c_K_promote : ByteArray := prog_7_method_24_code
def y_K_promote : MethodName := ⟨R_K, "promote", "(IZ)I"⟩
abbrev c_K_demote : ByteArray := prog_7_method_25_code
def y_K_demote : MethodName := ⟨R_K, "demote", "(I)I"⟩
abbrev c_K_renew : ByteArray := prog_7_method_26_code
def y_K_renew : MethodName := ⟨R_K, "renew", "()I"⟩
abbrev c_K_tick : ByteArray := prog_7_method_27_code
def y_K_tick : MethodName := ⟨R_K, "tick", "(I)I"⟩
abbrev c_K_block : ByteArray := prog_7_method_28_code
def y_K_block : MethodName := ⟨R_K, "block", "(IIZ)J"⟩
abbrev c_K_node : ByteArray := prog_7_method_29_code
def y_K_node : MethodName := ⟨R_K, "node", "(II)I"⟩
abbrev c_K_mirror : ByteArray := prog_7_method_30_code
def y_K_mirror : MethodName := ⟨R_K, "mirror", "(I)I"⟩
abbrev c_L_law : ByteArray := code
def y_L_law : MethodName := ⟨R_L, "law", "([I)Z"⟩
abbrev vwCl : List vw_C := [(R_B, T_B, 3), (R_D, T_D, 3), (R_N, T_N, 8), (R_T, T_T, 5), (R_M, T_M, 7), (R_K, T_K, 21)]
def gT : List Cond := lw_tbl.filter goodWord
theorem gT_in : ∀ w ∈ gT, w ∈ lw_tbl := fun _ h => (List.mem_filter.mp h).1
theorem gT_good : ∀ w ∈ gT, goodWord w = true := fun _ h => (List.mem_filter.mp h).2
theorem g_p {w : Cond} {i : Nat} (h : (k2_sels lw_privs)[i]? = some w) (g : goodWord w = true) : w ∈ gT := List.mem_filter.mpr ⟨List.mem_append_left _ (List.mem_of_getElem? h), g⟩
theorem g_1 {w : Cond} {i : Nat} (h : tables_1_1[i]? = some w) (g : goodWord w = true) : w ∈ gT := List.mem_filter.mpr ⟨List.mem_append_right _ (List.mem_append_left _ (List.mem_of_getElem? h)), g⟩
theorem g_2 {w : Cond} {i : Nat} (h : tables_1_2[i]? = some w) (g : goodWord w = true) : w ∈ gT := List.mem_filter.mpr ⟨List.mem_append_right _ (List.mem_append_right _ (List.mem_append_left _ (List.mem_of_getElem? h))), g⟩
theorem g_3 {w : Cond} {i : Nat} (h : tables_1_3[i]? = some w) (g : goodWord w = true) : w ∈ gT := List.mem_filter.mpr ⟨List.mem_append_right _ (List.mem_append_right _ (List.mem_append_right _ (List.mem_of_getElem? h))), g⟩
theorem gm_0 : (.selects R_M y_M_findPrimary y_M_findPrimary : Cond) ∈ gT := g_p (i := 0) rfl rfl
theorem gm_1 : (.selects R_M y_M_isUnpaired y_M_isUnpaired : Cond) ∈ gT := g_p (i := 1) rfl rfl
theorem gm_2 : (.selects R_M y_M_goAlone y_M_goAlone : Cond) ∈ gT := g_p (i := 2) rfl rfl
theorem gm_3 : (.selects R_M y_M_doCommitStep y_M_doCommitStep : Cond) ∈ gT := g_p (i := 3) rfl rfl
theorem gm_4 : (.selects R_M y_M_flushBy y_M_flushBy : Cond) ∈ gT := g_p (i := 4) rfl rfl
theorem gm_5 : (.selects R_M y_M_writeBy y_M_writeBy : Cond) ∈ gT := g_p (i := 5) rfl rfl
theorem gm_6 : (.selects R_M y_M_bringDown y_M_bringDown : Cond) ∈ gT := g_p (i := 6) rfl rfl
theorem gm_7 : (.selects R_M y_M_makeSecondary y_M_makeSecondary : Cond) ∈ gT := g_p (i := 7) rfl rfl
theorem gm_8 : (.selects R_M y_M_disconnect y_M_disconnect : Cond) ∈ gT := g_p (i := 8) rfl rfl
theorem gm_9 : (.selects R_M y_M_chooseSource y_M_chooseSource : Cond) ∈ gT := g_p (i := 9) rfl rfl
theorem gm_10 : (.selects R_M y_M_extentsThatMayDiffer y_M_extentsThatMayDiffer : Cond) ∈ gT := g_p (i := 10) rfl rfl
theorem gm_11 : (.selects R_M y_M_finishSync y_M_finishSync : Cond) ∈ gT := g_p (i := 11) rfl rfl
theorem gm_12 : (.selects R_M y_M_startSync y_M_startSync : Cond) ∈ gT := g_p (i := 12) rfl rfl
theorem gm_13 : (.selects R_M y_M_copyExtent y_M_copyExtent : Cond) ∈ gT := g_p (i := 13) rfl rfl
theorem gm_14 : (.selects R_M y_M_redoJournal y_M_redoJournal : Cond) ∈ gT := g_p (i := 14) rfl rfl
theorem gm_15 : (.selects R_K y_K_out y_K_out : Cond) ∈ gT := g_p (i := 15) rfl rfl
theorem gm_16 : (.selects R_K y_K_goAlone y_K_goAlone : Cond) ∈ gT := g_p (i := 16) rfl rfl
theorem gm_17 : (.selects R_K y_K_step y_K_step : Cond) ∈ gT := g_p (i := 17) rfl rfl
theorem gm_18 : (.selects R_K y_K_flushStep y_K_flushStep : Cond) ∈ gT := g_p (i := 18) rfl rfl
theorem gm_19 : (.selects R_K y_K_settle y_K_settle : Cond) ∈ gT := g_p (i := 19) rfl rfl
theorem gm_20 : (.selects R_K y_K_holds y_K_holds : Cond) ∈ gT := g_p (i := 20) rfl rfl
theorem gm_21 : (.selects R_K y_K_writeStep y_K_writeStep : Cond) ∈ gT := g_p (i := 21) rfl rfl
theorem gm_22 : (.selects R_K y_K_keepIn y_K_keepIn : Cond) ∈ gT := g_p (i := 22) rfl rfl
theorem gm_23 : (.selects R_K y_K_extentBit y_K_extentBit : Cond) ∈ gT := g_p (i := 23) rfl rfl
theorem gm_24 : (.selects R_K y_K_noPrimary y_K_noPrimary : Cond) ∈ gT := g_p (i := 24) rfl rfl
theorem gm_25 : (.selects R_K y_K_disconnect y_K_disconnect : Cond) ∈ gT := g_p (i := 25) rfl rfl
theorem gm_26 : (.selects R_K y_K_finished y_K_finished : Cond) ∈ gT := g_p (i := 26) rfl rfl
theorem gm_27 : (.initialized R_L : Cond) ∈ gT := g_1 (i := 0) rfl rfl
theorem gm_28 : (.initialized R_M : Cond) ∈ gT := g_1 (i := 1) rfl rfl
theorem gm_29 : (.initialized R_B : Cond) ∈ gT := g_1 (i := 2) rfl rfl
theorem gm_30 : (.initialized R_N : Cond) ∈ gT := g_1 (i := 3) rfl rfl
theorem gm_31 : (.initialized R_D : Cond) ∈ gT := g_1 (i := 4) rfl rfl
theorem gm_32 : (.initialized R_T : Cond) ∈ gT := g_1 (i := 5) rfl rfl
theorem gm_33 : (.initialized R_H : Cond) ∈ gT := g_1 (i := 6) rfl rfl
theorem gm_34 : (.initialized R_K : Cond) ∈ gT := g_1 (i := 7) rfl rfl
theorem gm_35 : (.initialized R_Y : Cond) ∈ gT := g_1 (i := 8) rfl rfl
theorem gm_36 : (.initialized R_J : Cond) ∈ gT := g_1 (i := 9) rfl rfl
theorem gm_37 : (.classLink R_L 7 R_M : Cond) ∈ gT := g_1 (i := 10) rfl rfl
theorem gm_38 : (.instantiable R_M 7 : Cond) ∈ gT := g_1 (i := 11) rfl rfl
theorem gm_39 : (.methodLink R_L 15 y_M_init : Cond) ∈ gT := g_1 (i := 12) rfl rfl
theorem gm_40 : (.instanceMethod y_M_init : Cond) ∈ gT := g_1 (i := 13) rfl rfl
theorem gm_41 : (.code y_M_init c_M_init 2 none : Cond) ∈ gT := g_1 (i := 14) rfl rfl
theorem gm_42 : (.methodLink R_M 1 objectInit : Cond) ∈ gT := g_1 (i := 15) rfl rfl
theorem gm_43 : (.instanceMethod objectInit : Cond) ∈ gT := g_1 (i := 16) rfl rfl
theorem gm_44 : (.code objectInit object_method_1_code 1 none : Cond) ∈ gT := g_1 (i := 17) rfl rfl
theorem gm_45 : (.classLink R_M 9 R_N : Cond) ∈ gT := g_1 (i := 18) rfl rfl
theorem gm_47 : (.classLink R_M 15 R_B : Cond) ∈ gT := g_1 (i := 20) rfl rfl
theorem gm_48 : (.instantiable R_B 3 : Cond) ∈ gT := g_1 (i := 21) rfl rfl
theorem gm_50 : (.instanceMethod y_B_init : Cond) ∈ gT := g_1 (i := 23) rfl rfl
theorem gm_51 : (.code y_B_init c_B_init 1 none : Cond) ∈ gT := g_1 (i := 24) rfl rfl
theorem gm_52 : (.methodLink R_B 3 objectInit : Cond) ∈ gT := g_1 (i := 25) rfl rfl
theorem gm_53 : (.fieldLink R_B 9 "WitnessedMirror$Batch" "cells" "[I" : Cond) ∈ gT := g_1 (i := 26) rfl rfl
theorem gm_54 : (.fieldLink R_M 209 "WitnessedMirror$Batch" "cells" "[I" : Cond) ∈ gT := g_1 (i := 27) rfl rfl
theorem gm_55 : (.fieldLink R_B 15 "WitnessedMirror$Batch" "values" "[I" : Cond) ∈ gT := g_1 (i := 28) rfl rfl
theorem gm_56 : (.fieldLink R_M 212 "WitnessedMirror$Batch" "values" "[I" : Cond) ∈ gT := g_1 (i := 29) rfl rfl
theorem gm_57 : (.fieldLink R_B 18 "WitnessedMirror$Batch" "size" "I" : Cond) ∈ gT := g_1 (i := 30) rfl rfl
theorem gm_58 : (.fieldLink R_M 63 "WitnessedMirror$Batch" "size" "I" : Cond) ∈ gT := g_1 (i := 31) rfl rfl
theorem gm_59 : (.laysFinal R_B "WitnessedMirror$Batch" "cells" "[I" : Cond) ∈ gT := g_1 (i := 32) rfl rfl
theorem gm_61 : (.laysFinal R_B "WitnessedMirror$Batch" "values" "[I" : Cond) ∈ gT := g_1 (i := 34) rfl rfl
theorem gm_63 : (.lays R_B "WitnessedMirror$Batch" "size" "I" : Cond) ∈ gT := g_1 (i := 36) rfl rfl
theorem gm_66 : (.arrayClass .int : Cond) ∈ gT := g_1 (i := 39) rfl rfl
theorem gm_67 : (.instantiable R_N 8 : Cond) ∈ gT := g_1 (i := 40) rfl rfl
theorem gm_69 : (.instanceMethod y_N_init : Cond) ∈ gT := g_1 (i := 42) rfl rfl
theorem gm_70 : (.code y_N_init c_N_init 1 none : Cond) ∈ gT := g_1 (i := 43) rfl rfl
theorem gm_71 : (.methodLink R_N 1 objectInit : Cond) ∈ gT := g_1 (i := 44) rfl rfl
theorem gm_72 : (.classLink R_N 7 R_D : Cond) ∈ gT := g_1 (i := 45) rfl rfl
theorem gm_73 : (.instantiable R_D 3 : Cond) ∈ gT := g_1 (i := 46) rfl rfl
theorem gm_75 : (.instanceMethod y_D_init : Cond) ∈ gT := g_1 (i := 48) rfl rfl
theorem gm_76 : (.code y_D_init c_D_init 1 none : Cond) ∈ gT := g_1 (i := 49) rfl rfl
theorem gm_77 : (.methodLink R_D 3 objectInit : Cond) ∈ gT := g_1 (i := 50) rfl rfl
theorem gm_78 : (.fieldLink R_D 9 "WitnessedMirror$Disk" "stable" "[I" : Cond) ∈ gT := g_1 (i := 51) rfl rfl
theorem gm_79 : (.fieldLink R_M 176 "WitnessedMirror$Disk" "stable" "[I" : Cond) ∈ gT := g_1 (i := 52) rfl rfl
theorem gm_80 : (.fieldLink R_D 15 "WitnessedMirror$Disk" "cached" "[I" : Cond) ∈ gT := g_1 (i := 53) rfl rfl
theorem gm_81 : (.fieldLink R_D 18 "WitnessedMirror$Disk" "cachedBits" "I" : Cond) ∈ gT := g_1 (i := 54) rfl rfl
theorem gm_82 : (.laysFinal R_D "WitnessedMirror$Disk" "stable" "[I" : Cond) ∈ gT := g_1 (i := 55) rfl rfl
theorem gm_84 : (.laysFinal R_D "WitnessedMirror$Disk" "cached" "[I" : Cond) ∈ gT := g_1 (i := 57) rfl rfl
theorem gm_86 : (.lays R_D "WitnessedMirror$Disk" "cachedBits" "I" : Cond) ∈ gT := g_1 (i := 59) rfl rfl
theorem gm_89 : (.fieldLink R_N 10 "WitnessedMirror$Node" "disk" "LWitnessedMirror$Disk;" : Cond) ∈ gT := g_1 (i := 62) rfl rfl
theorem gm_90 : (.fieldLink R_M 87 "WitnessedMirror$Node" "disk" "LWitnessedMirror$Disk;" : Cond) ∈ gT := g_1 (i := 63) rfl rfl
theorem gm_91 : (.fieldLink R_N 16 "WitnessedMirror$Node" "up" "Z" : Cond) ∈ gT := g_1 (i := 64) rfl rfl
theorem gm_92 : (.fieldLink R_M 100 "WitnessedMirror$Node" "up" "Z" : Cond) ∈ gT := g_1 (i := 65) rfl rfl
theorem gm_93 : (.fieldLink R_N 20 "WitnessedMirror$Node" "primary" "Z" : Cond) ∈ gT := g_1 (i := 66) rfl rfl
theorem gm_94 : (.fieldLink R_M 149 "WitnessedMirror$Node" "primary" "Z" : Cond) ∈ gT := g_1 (i := 67) rfl rfl
theorem gm_95 : (.fieldLink R_N 23 "WitnessedMirror$Node" "generation" "I" : Cond) ∈ gT := g_1 (i := 68) rfl rfl
theorem gm_96 : (.fieldLink R_M 109 "WitnessedMirror$Node" "generation" "I" : Cond) ∈ gT := g_1 (i := 69) rfl rfl
theorem gm_97 : (.fieldLink R_N 27 "WitnessedMirror$Node" "base" "I" : Cond) ∈ gT := g_1 (i := 70) rfl rfl
theorem gm_98 : (.fieldLink R_M 184 "WitnessedMirror$Node" "base" "I" : Cond) ∈ gT := g_1 (i := 71) rfl rfl
theorem gm_99 : (.fieldLink R_N 30 "WitnessedMirror$Node" "alone" "Z" : Cond) ∈ gT := g_1 (i := 72) rfl rfl
theorem gm_100 : (.fieldLink R_M 187 "WitnessedMirror$Node" "alone" "Z" : Cond) ∈ gT := g_1 (i := 73) rfl rfl
theorem gm_101 : (.fieldLink R_N 33 "WitnessedMirror$Node" "marks" "I" : Cond) ∈ gT := g_1 (i := 74) rfl rfl
theorem gm_102 : (.fieldLink R_M 129 "WitnessedMirror$Node" "marks" "I" : Cond) ∈ gT := g_1 (i := 75) rfl rfl
theorem gm_103 : (.fieldLink R_N 36 "WitnessedMirror$Node" "witnessLineUp" "Z" : Cond) ∈ gT := g_1 (i := 76) rfl rfl
theorem gm_104 : (.fieldLink R_M 73 "WitnessedMirror$Node" "witnessLineUp" "Z" : Cond) ∈ gT := g_1 (i := 77) rfl rfl
theorem gm_105 : (.laysFinal R_N "WitnessedMirror$Node" "disk" "LWitnessedMirror$Disk;" : Cond) ∈ gT := g_1 (i := 78) rfl rfl
theorem gm_107 : (.lays R_N "WitnessedMirror$Node" "up" "Z" : Cond) ∈ gT := g_1 (i := 80) rfl rfl
theorem gm_109 : (.lays R_N "WitnessedMirror$Node" "primary" "Z" : Cond) ∈ gT := g_1 (i := 82) rfl rfl
theorem gm_111 : (.lays R_N "WitnessedMirror$Node" "generation" "I" : Cond) ∈ gT := g_1 (i := 84) rfl rfl
theorem gm_113 : (.lays R_N "WitnessedMirror$Node" "base" "I" : Cond) ∈ gT := g_1 (i := 86) rfl rfl
theorem gm_115 : (.lays R_N "WitnessedMirror$Node" "alone" "Z" : Cond) ∈ gT := g_1 (i := 88) rfl rfl
theorem gm_117 : (.lays R_N "WitnessedMirror$Node" "marks" "I" : Cond) ∈ gT := g_1 (i := 90) rfl rfl
theorem gm_119 : (.lays R_N "WitnessedMirror$Node" "witnessLineUp" "Z" : Cond) ∈ gT := g_1 (i := 92) rfl rfl
theorem gm_122 : (.classLink R_M 37 R_T : Cond) ∈ gT := g_1 (i := 95) rfl rfl
theorem gm_123 : (.instantiable R_T 5 : Cond) ∈ gT := g_1 (i := 96) rfl rfl
theorem gm_124 : (.methodLink R_M 39 y_H_min : Cond) ∈ gT := g_1 (i := 97) rfl rfl
theorem gm_125 : (.static y_H_min : Cond) ∈ gT := g_1 (i := 98) rfl rfl
theorem gm_126 : (.code y_H_min c_H_min 2 (some .int) : Cond) ∈ gT := g_1 (i := 99) rfl rfl
theorem gm_127 : (.methodLink R_M 45 y_H_max : Cond) ∈ gT := g_1 (i := 100) rfl rfl
theorem gm_128 : (.static y_H_max : Cond) ∈ gT := g_1 (i := 101) rfl rfl
theorem gm_129 : (.code y_H_max c_H_max 2 (some .int) : Cond) ∈ gT := g_1 (i := 102) rfl rfl
theorem gm_130 : (.methodLink R_M 48 y_T_init : Cond) ∈ gT := g_1 (i := 103) rfl rfl
theorem gm_131 : (.instanceMethod y_T_init : Cond) ∈ gT := g_1 (i := 104) rfl rfl
theorem gm_132 : (.code y_T_init c_T_init 2 none : Cond) ∈ gT := g_1 (i := 105) rfl rfl
theorem gm_133 : (.methodLink R_T 3 objectInit : Cond) ∈ gT := g_1 (i := 106) rfl rfl
theorem gm_134 : (.fieldLink R_T 24 "WitnessedMirror$Witness" "length" "I" : Cond) ∈ gT := g_1 (i := 107) rfl rfl
theorem gm_135 : (.fieldLink R_T 9 "WitnessedMirror$Witness" "generation" "I" : Cond) ∈ gT := g_1 (i := 108) rfl rfl
theorem gm_136 : (.fieldLink R_M 145 "WitnessedMirror$Witness" "generation" "I" : Cond) ∈ gT := g_1 (i := 109) rfl rfl
theorem gm_137 : (.fieldLink R_T 15 "WitnessedMirror$Witness" "time" "I" : Cond) ∈ gT := g_1 (i := 110) rfl rfl
theorem gm_138 : (.fieldLink R_M 170 "WitnessedMirror$Witness" "time" "I" : Cond) ∈ gT := g_1 (i := 111) rfl rfl
theorem gm_139 : (.fieldLink R_T 18 "WitnessedMirror$Witness" "holder" "I" : Cond) ∈ gT := g_1 (i := 112) rfl rfl
theorem gm_140 : (.fieldLink R_M 161 "WitnessedMirror$Witness" "holder" "I" : Cond) ∈ gT := g_1 (i := 113) rfl rfl
theorem gm_141 : (.fieldLink R_T 21 "WitnessedMirror$Witness" "end" "I" : Cond) ∈ gT := g_1 (i := 114) rfl rfl
theorem gm_142 : (.fieldLink R_M 167 "WitnessedMirror$Witness" "end" "I" : Cond) ∈ gT := g_1 (i := 115) rfl rfl
theorem gm_143 : (.laysFinal R_T "WitnessedMirror$Witness" "length" "I" : Cond) ∈ gT := g_1 (i := 116) rfl rfl
theorem gm_145 : (.lays R_T "WitnessedMirror$Witness" "generation" "I" : Cond) ∈ gT := g_1 (i := 118) rfl rfl
theorem gm_147 : (.lays R_T "WitnessedMirror$Witness" "time" "I" : Cond) ∈ gT := g_1 (i := 120) rfl rfl
theorem gm_149 : (.lays R_T "WitnessedMirror$Witness" "holder" "I" : Cond) ∈ gT := g_1 (i := 122) rfl rfl
theorem gm_151 : (.lays R_T "WitnessedMirror$Witness" "end" "I" : Cond) ∈ gT := g_1 (i := 124) rfl rfl
theorem gm_154 : (.fieldLink R_M 11 "WitnessedMirror" "nodes" "[LWitnessedMirror$Node;" : Cond) ∈ gT := g_1 (i := 127) rfl rfl
theorem gm_155 : (.fieldLink R_M 51 "WitnessedMirror" "witness" "LWitnessedMirror$Witness;" : Cond) ∈ gT := g_1 (i := 128) rfl rfl
theorem gm_156 : (.fieldLink R_M 18 "WitnessedMirror" "batch" "LWitnessedMirror$Batch;" : Cond) ∈ gT := g_1 (i := 129) rfl rfl
theorem gm_157 : (.fieldLink R_M 22 "WitnessedMirror" "lineUp" "Z" : Cond) ∈ gT := g_1 (i := 130) rfl rfl
theorem gm_158 : (.fieldLink R_M 26 "WitnessedMirror" "connected" "Z" : Cond) ∈ gT := g_1 (i := 131) rfl rfl
theorem gm_159 : (.fieldLink R_M 29 "WitnessedMirror" "syncing" "Z" : Cond) ∈ gT := g_1 (i := 132) rfl rfl
theorem gm_160 : (.fieldLink R_M 32 "WitnessedMirror" "source" "I" : Cond) ∈ gT := g_1 (i := 133) rfl rfl
theorem gm_161 : (.laysFinal R_M "WitnessedMirror" "nodes" "[LWitnessedMirror$Node;" : Cond) ∈ gT := g_1 (i := 134) rfl rfl
theorem gm_163 : (.laysFinal R_M "WitnessedMirror" "witness" "LWitnessedMirror$Witness;" : Cond) ∈ gT := g_1 (i := 136) rfl rfl
theorem gm_165 : (.laysFinal R_M "WitnessedMirror" "batch" "LWitnessedMirror$Batch;" : Cond) ∈ gT := g_1 (i := 138) rfl rfl
theorem gm_167 : (.lays R_M "WitnessedMirror" "lineUp" "Z" : Cond) ∈ gT := g_1 (i := 140) rfl rfl
theorem gm_169 : (.lays R_M "WitnessedMirror" "connected" "Z" : Cond) ∈ gT := g_1 (i := 142) rfl rfl
theorem gm_171 : (.lays R_M "WitnessedMirror" "syncing" "Z" : Cond) ∈ gT := g_1 (i := 144) rfl rfl
theorem gm_173 : (.lays R_M "WitnessedMirror" "source" "I" : Cond) ∈ gT := g_1 (i := 146) rfl rfl
theorem gm_176 : (.methodLink R_L 21 y_M_stage : Cond) ∈ gT := g_1 (i := 149) rfl rfl
theorem gm_177 : (.instanceMethod y_M_stage : Cond) ∈ gT := g_1 (i := 150) rfl rfl
theorem gm_178 : (.selects R_M y_M_stage y_M_stage : Cond) ∈ gT := g_1 (i := 151) rfl rfl
theorem gm_179 : (.code y_M_stage c_M_stage 3 (some .int) : Cond) ∈ gT := g_1 (i := 152) rfl rfl
theorem gm_180 : (.methodLink R_M 55 y_M_isCell : Cond) ∈ gT := g_1 (i := 153) rfl rfl
theorem gm_181 : (.static y_M_isCell : Cond) ∈ gT := g_1 (i := 154) rfl rfl
theorem gm_182 : (.code y_M_isCell c_M_isCell 1 (some .boolean) : Cond) ∈ gT := g_1 (i := 155) rfl rfl
theorem gm_183 : (.methodLink R_M 59 y_M_findPrimary : Cond) ∈ gT := g_1 (i := 156) rfl rfl
theorem gm_185 : (.instanceMethod y_M_findPrimary : Cond) ∈ gT := g_1 (i := 158) rfl rfl
theorem gm_186 : (.code y_M_findPrimary c_M_findPrimary 1 (some .int) : Cond) ∈ gT := g_1 (i := 159) rfl rfl
theorem gm_187 : (.methodLink R_M 66 y_B_append : Cond) ∈ gT := g_1 (i := 160) rfl rfl
theorem gm_188 : (.instanceMethod y_B_append : Cond) ∈ gT := g_1 (i := 161) rfl rfl
theorem gm_189 : (.selects R_B y_B_append y_B_append : Cond) ∈ gT := g_1 (i := 162) rfl rfl
theorem gm_190 : (.code y_B_append c_B_append 3 none : Cond) ∈ gT := g_1 (i := 163) rfl rfl
theorem gm_191 : (.methodLink R_L 26 y_M_commit : Cond) ∈ gT := g_1 (i := 164) rfl rfl
theorem gm_192 : (.instanceMethod y_M_commit : Cond) ∈ gT := g_1 (i := 165) rfl rfl
theorem gm_193 : (.selects R_M y_M_commit y_M_commit : Cond) ∈ gT := g_1 (i := 166) rfl rfl
theorem gm_194 : (.code y_M_commit c_M_commit 8 (some .int) : Cond) ∈ gT := g_1 (i := 167) rfl rfl
theorem gm_195 : (.methodLink R_M 70 y_M_isUnpaired : Cond) ∈ gT := g_1 (i := 168) rfl rfl
theorem gm_197 : (.instanceMethod y_M_isUnpaired : Cond) ∈ gT := g_1 (i := 170) rfl rfl
theorem gm_198 : (.code y_M_isUnpaired c_M_isUnpaired 2 (some .boolean) : Cond) ∈ gT := g_1 (i := 171) rfl rfl
theorem gm_199 : (.methodLink R_M 76 y_M_goAlone : Cond) ∈ gT := g_1 (i := 172) rfl rfl
theorem gm_201 : (.instanceMethod y_M_goAlone : Cond) ∈ gT := g_1 (i := 174) rfl rfl
theorem gm_202 : (.code y_M_goAlone c_M_goAlone 2 none : Cond) ∈ gT := g_1 (i := 175) rfl rfl
theorem gm_203 : (.methodLink R_M 79 y_M_doCommitStep : Cond) ∈ gT := g_1 (i := 176) rfl rfl
theorem gm_205 : (.instanceMethod y_M_doCommitStep : Cond) ∈ gT := g_1 (i := 178) rfl rfl
theorem gm_206 : (.code y_M_doCommitStep c_M_doCommitStep 8 none : Cond) ∈ gT := g_1 (i := 179) rfl rfl
theorem gm_207 : (.methodLink R_M 155 y_M_flushBy : Cond) ∈ gT := g_1 (i := 180) rfl rfl
theorem gm_209 : (.instanceMethod y_M_flushBy : Cond) ∈ gT := g_1 (i := 182) rfl rfl
theorem gm_210 : (.code y_M_flushBy c_M_flushBy 2 none : Cond) ∈ gT := g_1 (i := 183) rfl rfl
theorem gm_211 : (.methodLink R_M 202 y_D_flush : Cond) ∈ gT := g_1 (i := 184) rfl rfl
theorem gm_212 : (.instanceMethod y_D_flush : Cond) ∈ gT := g_1 (i := 185) rfl rfl
theorem gm_213 : (.selects R_D y_D_flush y_D_flush : Cond) ∈ gT := g_1 (i := 186) rfl rfl
theorem gm_214 : (.code y_D_flush c_D_flush 1 none : Cond) ∈ gT := g_1 (i := 187) rfl rfl
theorem gm_215 : (.methodLink R_D 26 y_D_settle : Cond) ∈ gT := g_1 (i := 188) rfl rfl
theorem gm_216 : (.instanceMethod y_D_settle : Cond) ∈ gT := g_1 (i := 189) rfl rfl
theorem gm_217 : (.selects R_D y_D_settle y_D_settle : Cond) ∈ gT := g_1 (i := 190) rfl rfl
theorem gm_218 : (.code y_D_settle c_D_settle 3 none : Cond) ∈ gT := g_1 (i := 191) rfl rfl
theorem gm_219 : (.methodLink R_D 22 y_D_isCached : Cond) ∈ gT := g_1 (i := 192) rfl rfl
theorem gm_220 : (.instanceMethod y_D_isCached : Cond) ∈ gT := g_1 (i := 193) rfl rfl
theorem gm_221 : (.selects R_D y_D_isCached y_D_isCached : Cond) ∈ gT := g_1 (i := 194) rfl rfl
theorem gm_222 : (.code y_D_isCached c_D_isCached 2 (some .boolean) : Cond) ∈ gT := g_1 (i := 195) rfl rfl
theorem gm_223 : (.methodLink R_M 205 y_M_writeBy : Cond) ∈ gT := g_1 (i := 196) rfl rfl
theorem gm_225 : (.instanceMethod y_M_writeBy : Cond) ∈ gT := g_1 (i := 198) rfl rfl
theorem gm_226 : (.code y_M_writeBy c_M_writeBy 4 none : Cond) ∈ gT := g_1 (i := 199) rfl rfl
theorem gm_227 : (.methodLink R_M 199 y_D_put : Cond) ∈ gT := g_1 (i := 200) rfl rfl
theorem gm_228 : (.instanceMethod y_D_put : Cond) ∈ gT := g_1 (i := 201) rfl rfl
theorem gm_229 : (.selects R_D y_D_put y_D_put : Cond) ∈ gT := g_1 (i := 202) rfl rfl
theorem gm_230 : (.code y_D_put c_D_put 3 none : Cond) ∈ gT := g_1 (i := 203) rfl rfl
theorem gm_231 : (.methodLink R_M 82 y_M_bringDown : Cond) ∈ gT := g_1 (i := 204) rfl rfl
theorem gm_233 : (.instanceMethod y_M_bringDown : Cond) ∈ gT := g_1 (i := 206) rfl rfl
theorem gm_234 : (.code y_M_bringDown c_M_bringDown 4 none : Cond) ∈ gT := g_1 (i := 207) rfl rfl
theorem gm_235 : (.methodLink R_M 193 y_D_cachedExtents : Cond) ∈ gT := g_1 (i := 208) rfl rfl
theorem gm_236 : (.instanceMethod y_D_cachedExtents : Cond) ∈ gT := g_1 (i := 209) rfl rfl
theorem gm_237 : (.selects R_D y_D_cachedExtents y_D_cachedExtents : Cond) ∈ gT := g_1 (i := 210) rfl rfl
theorem gm_238 : (.code y_D_cachedExtents c_D_cachedExtents 3 (some .int) : Cond) ∈ gT := g_1 (i := 211) rfl rfl
theorem gm_239 : (.methodLink R_M 196 y_D_settle : Cond) ∈ gT := g_1 (i := 212) rfl rfl
theorem gm_240 : (.methodLink R_M 146 y_M_makeSecondary : Cond) ∈ gT := g_1 (i := 213) rfl rfl
theorem gm_242 : (.instanceMethod y_M_makeSecondary : Cond) ∈ gT := g_1 (i := 215) rfl rfl
theorem gm_243 : (.code y_M_makeSecondary c_M_makeSecondary 2 none : Cond) ∈ gT := g_1 (i := 216) rfl rfl
theorem gm_244 : (.methodLink R_M 106 y_M_disconnect : Cond) ∈ gT := g_1 (i := 217) rfl rfl
theorem gm_246 : (.instanceMethod y_M_disconnect : Cond) ∈ gT := g_1 (i := 219) rfl rfl
theorem gm_247 : (.code y_M_disconnect c_M_disconnect 1 none : Cond) ∈ gT := g_1 (i := 220) rfl rfl
theorem gm_248 : (.methodLink R_L 30 y_M_cell : Cond) ∈ gT := g_1 (i := 221) rfl rfl
theorem gm_249 : (.instanceMethod y_M_cell : Cond) ∈ gT := g_1 (i := 222) rfl rfl
theorem gm_250 : (.selects R_M y_M_cell y_M_cell : Cond) ∈ gT := g_1 (i := 223) rfl rfl
theorem gm_251 : (.code y_M_cell c_M_cell 3 (some .long) : Cond) ∈ gT := g_1 (i := 224) rfl rfl
theorem gm_252 : (.constantLong R_M 85 (-1000000000000) : Cond) ∈ gT := g_1 (i := 225) rfl rfl
theorem gm_253 : (.methodLink R_M 91 y_D_held : Cond) ∈ gT := g_1 (i := 226) rfl rfl
theorem gm_254 : (.instanceMethod y_D_held : Cond) ∈ gT := g_1 (i := 227) rfl rfl
theorem gm_255 : (.selects R_D y_D_held y_D_held : Cond) ∈ gT := g_1 (i := 228) rfl rfl
theorem gm_256 : (.code y_D_held c_D_held 2 (some .int) : Cond) ∈ gT := g_1 (i := 229) rfl rfl
theorem gm_257 : (.methodLink R_L 34 y_M_crash : Cond) ∈ gT := g_1 (i := 230) rfl rfl
theorem gm_258 : (.instanceMethod y_M_crash : Cond) ∈ gT := g_1 (i := 231) rfl rfl
theorem gm_259 : (.selects R_M y_M_crash y_M_crash : Cond) ∈ gT := g_1 (i := 232) rfl rfl
theorem gm_260 : (.code y_M_crash c_M_crash 3 (some .int) : Cond) ∈ gT := g_1 (i := 233) rfl rfl
theorem gm_261 : (.methodLink R_M 97 y_M_isNode : Cond) ∈ gT := g_1 (i := 234) rfl rfl
theorem gm_262 : (.static y_M_isNode : Cond) ∈ gT := g_1 (i := 235) rfl rfl
theorem gm_263 : (.code y_M_isNode c_M_isNode 1 (some .boolean) : Cond) ∈ gT := g_1 (i := 236) rfl rfl
theorem gm_264 : (.methodLink R_L 38 y_M_restart : Cond) ∈ gT := g_1 (i := 237) rfl rfl
theorem gm_265 : (.instanceMethod y_M_restart : Cond) ∈ gT := g_1 (i := 238) rfl rfl
theorem gm_266 : (.selects R_M y_M_restart y_M_restart : Cond) ∈ gT := g_1 (i := 239) rfl rfl
theorem gm_267 : (.code y_M_restart c_M_restart 2 (some .int) : Cond) ∈ gT := g_2 (i := 0) rfl rfl
theorem gm_268 : (.methodLink R_L 43 y_M_swap : Cond) ∈ gT := g_2 (i := 1) rfl rfl
theorem gm_269 : (.instanceMethod y_M_swap : Cond) ∈ gT := g_2 (i := 2) rfl rfl
theorem gm_270 : (.selects R_M y_M_swap y_M_swap : Cond) ∈ gT := g_2 (i := 3) rfl rfl
theorem gm_271 : (.code y_M_swap c_M_swap 2 (some .int) : Cond) ∈ gT := g_2 (i := 4) rfl rfl
theorem gm_272 : (.methodLink R_M 103 y_N_renewDisk : Cond) ∈ gT := g_2 (i := 5) rfl rfl
theorem gm_273 : (.instanceMethod y_N_renewDisk : Cond) ∈ gT := g_2 (i := 6) rfl rfl
theorem gm_274 : (.selects R_N y_N_renewDisk y_N_renewDisk : Cond) ∈ gT := g_2 (i := 7) rfl rfl
theorem gm_275 : (.code y_N_renewDisk c_N_renewDisk 1 none : Cond) ∈ gT := g_2 (i := 8) rfl rfl
theorem gm_276 : (.methodLink R_N 39 y_D_erase : Cond) ∈ gT := g_2 (i := 9) rfl rfl
theorem gm_277 : (.instanceMethod y_D_erase : Cond) ∈ gT := g_2 (i := 10) rfl rfl
theorem gm_278 : (.selects R_D y_D_erase y_D_erase : Cond) ∈ gT := g_2 (i := 11) rfl rfl
theorem gm_279 : (.code y_D_erase c_D_erase 1 none : Cond) ∈ gT := g_2 (i := 12) rfl rfl
theorem gm_280 : (.methodLink R_D 36 y_Y_fill : Cond) ∈ gT := g_2 (i := 13) rfl rfl
theorem gm_281 : (.static y_Y_fill : Cond) ∈ gT := g_2 (i := 14) rfl rfl
theorem gm_282 : (.code y_Y_fill c_Y_fill 4 none : Cond) ∈ gT := g_2 (i := 15) rfl rfl
theorem gm_283 : (.methodLink R_L 47 y_M_line : Cond) ∈ gT := g_2 (i := 16) rfl rfl
theorem gm_284 : (.instanceMethod y_M_line : Cond) ∈ gT := g_2 (i := 17) rfl rfl
theorem gm_285 : (.selects R_M y_M_line y_M_line : Cond) ∈ gT := g_2 (i := 18) rfl rfl
theorem gm_286 : (.code y_M_line c_M_line 2 (some .int) : Cond) ∈ gT := g_2 (i := 19) rfl rfl
theorem gm_287 : (.methodLink R_L 52 y_M_witnessLine : Cond) ∈ gT := g_2 (i := 20) rfl rfl
theorem gm_288 : (.instanceMethod y_M_witnessLine : Cond) ∈ gT := g_2 (i := 21) rfl rfl
theorem gm_289 : (.selects R_M y_M_witnessLine y_M_witnessLine : Cond) ∈ gT := g_2 (i := 22) rfl rfl
theorem gm_290 : (.code y_M_witnessLine c_M_witnessLine 3 (some .int) : Cond) ∈ gT := g_2 (i := 23) rfl rfl
theorem gm_291 : (.methodLink R_L 57 y_M_connect : Cond) ∈ gT := g_2 (i := 24) rfl rfl
theorem gm_292 : (.instanceMethod y_M_connect : Cond) ∈ gT := g_2 (i := 25) rfl rfl
theorem gm_293 : (.selects R_M y_M_connect y_M_connect : Cond) ∈ gT := g_2 (i := 26) rfl rfl
theorem gm_294 : (.code y_M_connect c_M_connect 2 (some .int) : Cond) ∈ gT := g_2 (i := 27) rfl rfl
theorem gm_295 : (.methodLink R_M 112 y_M_chooseSource : Cond) ∈ gT := g_2 (i := 28) rfl rfl
theorem gm_297 : (.instanceMethod y_M_chooseSource : Cond) ∈ gT := g_2 (i := 30) rfl rfl
theorem gm_298 : (.code y_M_chooseSource c_M_chooseSource 1 (some .int) : Cond) ∈ gT := g_2 (i := 31) rfl rfl
theorem gm_299 : (.methodLink R_M 115 y_M_extentsThatMayDiffer : Cond) ∈ gT := g_2 (i := 32) rfl rfl
theorem gm_301 : (.instanceMethod y_M_extentsThatMayDiffer : Cond) ∈ gT := g_2 (i := 34) rfl rfl
theorem gm_302 : (.code y_M_extentsThatMayDiffer c_M_extentsThatMayDiffer 4 (some .int) : Cond) ∈ gT := g_2 (i := 35) rfl rfl
theorem gm_303 : (.methodLink R_M 118 y_M_finishSync : Cond) ∈ gT := g_2 (i := 36) rfl rfl
theorem gm_305 : (.instanceMethod y_M_finishSync : Cond) ∈ gT := g_2 (i := 38) rfl rfl
theorem gm_306 : (.code y_M_finishSync c_M_finishSync 2 none : Cond) ∈ gT := g_2 (i := 39) rfl rfl
theorem gm_307 : (.methodLink R_M 121 y_M_startSync : Cond) ∈ gT := g_2 (i := 40) rfl rfl
theorem gm_309 : (.instanceMethod y_M_startSync : Cond) ∈ gT := g_2 (i := 42) rfl rfl
theorem gm_310 : (.code y_M_startSync c_M_startSync 3 none : Cond) ∈ gT := g_2 (i := 43) rfl rfl
theorem gm_311 : (.methodLink R_M 124 y_J_bitCount : Cond) ∈ gT := g_2 (i := 44) rfl rfl
theorem gm_312 : (.static y_J_bitCount : Cond) ∈ gT := g_2 (i := 45) rfl rfl
theorem gm_313 : (.code y_J_bitCount c_J_bitCount 1 (some .int) : Cond) ∈ gT := g_2 (i := 46) rfl rfl
theorem gm_314 : (.constant R_J 265 1431655765 : Cond) ∈ gT := g_2 (i := 47) rfl rfl
theorem gm_315 : (.constant R_J 266 858993459 : Cond) ∈ gT := g_2 (i := 48) rfl rfl
theorem gm_316 : (.constant R_J 267 252645135 : Cond) ∈ gT := g_2 (i := 49) rfl rfl
theorem gm_317 : (.methodLink R_L 62 y_M_resync : Cond) ∈ gT := g_2 (i := 50) rfl rfl
theorem gm_318 : (.instanceMethod y_M_resync : Cond) ∈ gT := g_2 (i := 51) rfl rfl
theorem gm_319 : (.selects R_M y_M_resync y_M_resync : Cond) ∈ gT := g_2 (i := 52) rfl rfl
theorem gm_320 : (.code y_M_resync c_M_resync 5 (some .int) : Cond) ∈ gT := g_2 (i := 53) rfl rfl
theorem gm_321 : (.methodLink R_M 132 y_J_numberOfTrailingZeros : Cond) ∈ gT := g_2 (i := 54) rfl rfl
theorem gm_322 : (.static y_J_numberOfTrailingZeros : Cond) ∈ gT := g_2 (i := 55) rfl rfl
theorem gm_323 : (.code y_J_numberOfTrailingZeros c_J_numberOfTrailingZeros 2 (some .int) : Cond) ∈ gT := g_2 (i := 56) rfl rfl
theorem gm_324 : (.constant R_J 264 65536 : Cond) ∈ gT := g_2 (i := 57) rfl rfl
theorem gm_325 : (.methodLink R_M 135 y_M_copyExtent : Cond) ∈ gT := g_2 (i := 58) rfl rfl
theorem gm_327 : (.instanceMethod y_M_copyExtent : Cond) ∈ gT := g_2 (i := 60) rfl rfl
theorem gm_328 : (.code y_M_copyExtent c_M_copyExtent 6 none : Cond) ∈ gT := g_2 (i := 61) rfl rfl
theorem gm_329 : (.methodLink R_L 66 y_M_promote : Cond) ∈ gT := g_2 (i := 62) rfl rfl
theorem gm_330 : (.instanceMethod y_M_promote : Cond) ∈ gT := g_2 (i := 63) rfl rfl
theorem gm_331 : (.selects R_M y_M_promote y_M_promote : Cond) ∈ gT := g_2 (i := 64) rfl rfl
theorem gm_332 : (.code y_M_promote c_M_promote 5 (some .int) : Cond) ∈ gT := g_2 (i := 65) rfl rfl
theorem gm_333 : (.methodLink R_M 138 y_N_mayAskForLease : Cond) ∈ gT := g_2 (i := 66) rfl rfl
theorem gm_334 : (.instanceMethod y_N_mayAskForLease : Cond) ∈ gT := g_2 (i := 67) rfl rfl
theorem gm_335 : (.selects R_N y_N_mayAskForLease y_N_mayAskForLease : Cond) ∈ gT := g_2 (i := 68) rfl rfl
theorem gm_336 : (.code y_N_mayAskForLease c_N_mayAskForLease 1 (some .boolean) : Cond) ∈ gT := g_2 (i := 69) rfl rfl
theorem gm_337 : (.methodLink R_M 142 y_T_isLentTo : Cond) ∈ gT := g_2 (i := 70) rfl rfl
theorem gm_338 : (.instanceMethod y_T_isLentTo : Cond) ∈ gT := g_2 (i := 71) rfl rfl
theorem gm_339 : (.selects R_T y_T_isLentTo y_T_isLentTo : Cond) ∈ gT := g_2 (i := 72) rfl rfl
theorem gm_340 : (.code y_T_isLentTo c_T_isLentTo 2 (some .boolean) : Cond) ∈ gT := g_2 (i := 73) rfl rfl
theorem gm_341 : (.methodLink R_T 27 y_T_isRunning : Cond) ∈ gT := g_2 (i := 74) rfl rfl
theorem gm_342 : (.instanceMethod y_T_isRunning : Cond) ∈ gT := g_2 (i := 75) rfl rfl
theorem gm_343 : (.selects R_T y_T_isRunning y_T_isRunning : Cond) ∈ gT := g_2 (i := 76) rfl rfl
theorem gm_344 : (.code y_T_isRunning c_T_isRunning 1 (some .boolean) : Cond) ∈ gT := g_2 (i := 77) rfl rfl
theorem gm_345 : (.methodLink R_M 152 y_T_lendTo : Cond) ∈ gT := g_2 (i := 78) rfl rfl
theorem gm_346 : (.instanceMethod y_T_lendTo : Cond) ∈ gT := g_2 (i := 79) rfl rfl
theorem gm_347 : (.selects R_T y_T_lendTo y_T_lendTo : Cond) ∈ gT := g_2 (i := 80) rfl rfl
theorem gm_348 : (.code y_T_lendTo c_T_lendTo 2 none : Cond) ∈ gT := g_2 (i := 81) rfl rfl
theorem gm_349 : (.methodLink R_T 31 y_T_extendLease : Cond) ∈ gT := g_2 (i := 82) rfl rfl
theorem gm_350 : (.instanceMethod y_T_extendLease : Cond) ∈ gT := g_2 (i := 83) rfl rfl
theorem gm_351 : (.selects R_T y_T_extendLease y_T_extendLease : Cond) ∈ gT := g_2 (i := 84) rfl rfl
theorem gm_352 : (.code y_T_extendLease c_T_extendLease 1 none : Cond) ∈ gT := g_2 (i := 85) rfl rfl
theorem gm_353 : (.methodLink R_M 158 y_M_redoJournal : Cond) ∈ gT := g_2 (i := 86) rfl rfl
theorem gm_355 : (.instanceMethod y_M_redoJournal : Cond) ∈ gT := g_2 (i := 88) rfl rfl
theorem gm_356 : (.code y_M_redoJournal c_M_redoJournal 6 (some .int) : Cond) ∈ gT := g_2 (i := 89) rfl rfl
theorem gm_357 : (.methodLink R_L 70 y_M_demote : Cond) ∈ gT := g_2 (i := 90) rfl rfl
theorem gm_358 : (.instanceMethod y_M_demote : Cond) ∈ gT := g_2 (i := 91) rfl rfl
theorem gm_359 : (.selects R_M y_M_demote y_M_demote : Cond) ∈ gT := g_2 (i := 92) rfl rfl
theorem gm_360 : (.code y_M_demote c_M_demote 2 (some .int) : Cond) ∈ gT := g_2 (i := 93) rfl rfl
theorem gm_361 : (.methodLink R_L 74 y_M_renew : Cond) ∈ gT := g_2 (i := 94) rfl rfl
theorem gm_362 : (.instanceMethod y_M_renew : Cond) ∈ gT := g_2 (i := 95) rfl rfl
theorem gm_363 : (.selects R_M y_M_renew y_M_renew : Cond) ∈ gT := g_2 (i := 96) rfl rfl
theorem gm_364 : (.code y_M_renew c_M_renew 2 (some .int) : Cond) ∈ gT := g_2 (i := 97) rfl rfl
theorem gm_365 : (.methodLink R_M 164 y_T_extendLease : Cond) ∈ gT := g_2 (i := 98) rfl rfl
theorem gm_366 : (.methodLink R_L 78 y_M_tick : Cond) ∈ gT := g_2 (i := 99) rfl rfl
theorem gm_367 : (.instanceMethod y_M_tick : Cond) ∈ gT := g_2 (i := 100) rfl rfl
theorem gm_368 : (.selects R_M y_M_tick y_M_tick : Cond) ∈ gT := g_2 (i := 101) rfl rfl
theorem gm_369 : (.code y_M_tick c_M_tick 2 (some .int) : Cond) ∈ gT := g_2 (i := 102) rfl rfl
theorem gm_370 : (.methodLink R_M 173 y_T_isRunning : Cond) ∈ gT := g_2 (i := 103) rfl rfl
theorem gm_371 : (.methodLink R_L 82 y_M_block : Cond) ∈ gT := g_2 (i := 104) rfl rfl
theorem gm_372 : (.instanceMethod y_M_block : Cond) ∈ gT := g_2 (i := 105) rfl rfl
theorem gm_373 : (.selects R_M y_M_block y_M_block : Cond) ∈ gT := g_2 (i := 106) rfl rfl
theorem gm_374 : (.code y_M_block c_M_block 5 (some .long) : Cond) ∈ gT := g_2 (i := 107) rfl rfl
theorem gm_375 : (.methodLink R_L 87 y_M_node : Cond) ∈ gT := g_2 (i := 108) rfl rfl
theorem gm_376 : (.instanceMethod y_M_node : Cond) ∈ gT := g_2 (i := 109) rfl rfl
theorem gm_377 : (.selects R_M y_M_node y_M_node : Cond) ∈ gT := g_2 (i := 110) rfl rfl
theorem gm_378 : (.code y_M_node c_M_node 4 (some .int) : Cond) ∈ gT := g_2 (i := 111) rfl rfl
theorem gm_379 : (.methodLink R_M 180 y_M_asNumber : Cond) ∈ gT := g_2 (i := 112) rfl rfl
theorem gm_380 : (.static y_M_asNumber : Cond) ∈ gT := g_2 (i := 113) rfl rfl
theorem gm_381 : (.code y_M_asNumber c_M_asNumber 1 (some .int) : Cond) ∈ gT := g_2 (i := 114) rfl rfl
theorem gm_382 : (.methodLink R_M 190 y_D_countCached : Cond) ∈ gT := g_2 (i := 115) rfl rfl
theorem gm_383 : (.instanceMethod y_D_countCached : Cond) ∈ gT := g_2 (i := 116) rfl rfl
theorem gm_384 : (.selects R_D y_D_countCached y_D_countCached : Cond) ∈ gT := g_2 (i := 117) rfl rfl
theorem gm_385 : (.code y_D_countCached c_D_countCached 1 (some .int) : Cond) ∈ gT := g_2 (i := 118) rfl rfl
theorem gm_386 : (.methodLink R_D 30 y_J_bitCount : Cond) ∈ gT := g_2 (i := 119) rfl rfl
theorem gm_387 : (.methodLink R_L 91 y_M_mirror : Cond) ∈ gT := g_2 (i := 120) rfl rfl
theorem gm_388 : (.instanceMethod y_M_mirror : Cond) ∈ gT := g_2 (i := 121) rfl rfl
theorem gm_389 : (.selects R_M y_M_mirror y_M_mirror : Cond) ∈ gT := g_2 (i := 122) rfl rfl
theorem gm_390 : (.code y_M_mirror c_M_mirror 2 (some .int) : Cond) ∈ gT := g_2 (i := 123) rfl rfl
theorem gm_391 : (.methodLink R_L 9 y_L_cell : Cond) ∈ gT := g_2 (i := 124) rfl rfl
theorem gm_392 : (.static y_L_cell : Cond) ∈ gT := g_2 (i := 125) rfl rfl
theorem gm_393 : (.code y_L_cell c_L_cell 2 (some .int) : Cond) ∈ gT := g_2 (i := 126) rfl rfl
theorem gm_394 : (.classLink R_L 18 R_K : Cond) ∈ gT := g_2 (i := 127) rfl rfl
theorem gm_395 : (.instantiable R_K 21 : Cond) ∈ gT := g_2 (i := 128) rfl rfl
theorem gm_396 : (.methodLink R_L 20 y_K_init : Cond) ∈ gT := g_2 (i := 129) rfl rfl
theorem gm_397 : (.instanceMethod y_K_init : Cond) ∈ gT := g_2 (i := 130) rfl rfl
theorem gm_398 : (.code y_K_init c_K_init 2 none : Cond) ∈ gT := g_2 (i := 131) rfl rfl
theorem gm_399 : (.methodLink R_K 1 objectInit : Cond) ∈ gT := g_2 (i := 132) rfl rfl
theorem gm_400 : (.fieldLink R_K 64 "WitnessedMirrorModel" "lease" "I" : Cond) ∈ gT := g_2 (i := 133) rfl rfl
theorem gm_401 : (.fieldLink R_K 7 "WitnessedMirrorModel" "stable" "[I" : Cond) ∈ gT := g_2 (i := 134) rfl rfl
theorem gm_402 : (.fieldLink R_K 13 "WitnessedMirrorModel" "cached" "[I" : Cond) ∈ gT := g_2 (i := 135) rfl rfl
theorem gm_403 : (.fieldLink R_K 16 "WitnessedMirrorModel" "has" "[Z" : Cond) ∈ gT := g_2 (i := 136) rfl rfl
theorem gm_404 : (.fieldLink R_K 20 "WitnessedMirrorModel" "down" "[Z" : Cond) ∈ gT := g_2 (i := 137) rfl rfl
theorem gm_405 : (.fieldLink R_K 23 "WitnessedMirrorModel" "alone" "[Z" : Cond) ∈ gT := g_2 (i := 138) rfl rfl
theorem gm_406 : (.fieldLink R_K 26 "WitnessedMirrorModel" "cutOff" "[Z" : Cond) ∈ gT := g_2 (i := 139) rfl rfl
theorem gm_407 : (.fieldLink R_K 29 "WitnessedMirrorModel" "generation" "[I" : Cond) ∈ gT := g_2 (i := 140) rfl rfl
theorem gm_408 : (.fieldLink R_K 32 "WitnessedMirrorModel" "base" "[I" : Cond) ∈ gT := g_2 (i := 141) rfl rfl
theorem gm_409 : (.fieldLink R_K 35 "WitnessedMirrorModel" "marks" "[I" : Cond) ∈ gT := g_2 (i := 142) rfl rfl
theorem gm_410 : (.fieldLink R_K 38 "WitnessedMirrorModel" "primary" "I" : Cond) ∈ gT := g_2 (i := 143) rfl rfl
theorem gm_411 : (.fieldLink R_K 42 "WitnessedMirrorModel" "source" "I" : Cond) ∈ gT := g_2 (i := 144) rfl rfl
theorem gm_412 : (.fieldLink R_K 45 "WitnessedMirrorModel" "holder" "I" : Cond) ∈ gT := g_2 (i := 145) rfl rfl
theorem gm_413 : (.fieldLink R_K 48 "WitnessedMirrorModel" "connected" "Z" : Cond) ∈ gT := g_2 (i := 146) rfl rfl
theorem gm_414 : (.fieldLink R_K 52 "WitnessedMirrorModel" "lineUp" "Z" : Cond) ∈ gT := g_2 (i := 147) rfl rfl
theorem gm_415 : (.fieldLink R_K 55 "WitnessedMirrorModel" "witness" "I" : Cond) ∈ gT := g_2 (i := 148) rfl rfl
theorem gm_416 : (.fieldLink R_K 120 "WitnessedMirrorModel" "time" "I" : Cond) ∈ gT := g_2 (i := 149) rfl rfl
theorem gm_417 : (.fieldLink R_K 117 "WitnessedMirrorModel" "end" "I" : Cond) ∈ gT := g_2 (i := 150) rfl rfl
theorem gm_418 : (.fieldLink R_K 67 "WitnessedMirrorModel" "entries" "I" : Cond) ∈ gT := g_2 (i := 151) rfl rfl
theorem gm_419 : (.fieldLink R_K 58 "WitnessedMirrorModel" "entryCell" "[I" : Cond) ∈ gT := g_2 (i := 152) rfl rfl
theorem gm_420 : (.fieldLink R_K 61 "WitnessedMirrorModel" "entryValue" "[I" : Cond) ∈ gT := g_2 (i := 153) rfl rfl
theorem gm_421 : (.laysFinal R_K "WitnessedMirrorModel" "lease" "I" : Cond) ∈ gT := g_2 (i := 154) rfl rfl
theorem gm_423 : (.laysFinal R_K "WitnessedMirrorModel" "stable" "[I" : Cond) ∈ gT := g_2 (i := 156) rfl rfl
theorem gm_425 : (.laysFinal R_K "WitnessedMirrorModel" "cached" "[I" : Cond) ∈ gT := g_2 (i := 158) rfl rfl
theorem gm_427 : (.laysFinal R_K "WitnessedMirrorModel" "has" "[Z" : Cond) ∈ gT := g_2 (i := 160) rfl rfl
theorem gm_429 : (.laysFinal R_K "WitnessedMirrorModel" "down" "[Z" : Cond) ∈ gT := g_2 (i := 162) rfl rfl
theorem gm_431 : (.laysFinal R_K "WitnessedMirrorModel" "alone" "[Z" : Cond) ∈ gT := g_2 (i := 164) rfl rfl
theorem gm_433 : (.laysFinal R_K "WitnessedMirrorModel" "cutOff" "[Z" : Cond) ∈ gT := g_2 (i := 166) rfl rfl
theorem gm_435 : (.laysFinal R_K "WitnessedMirrorModel" "generation" "[I" : Cond) ∈ gT := g_2 (i := 168) rfl rfl
theorem gm_437 : (.laysFinal R_K "WitnessedMirrorModel" "base" "[I" : Cond) ∈ gT := g_2 (i := 170) rfl rfl
theorem gm_439 : (.laysFinal R_K "WitnessedMirrorModel" "marks" "[I" : Cond) ∈ gT := g_2 (i := 172) rfl rfl
theorem gm_441 : (.lays R_K "WitnessedMirrorModel" "primary" "I" : Cond) ∈ gT := g_2 (i := 174) rfl rfl
theorem gm_443 : (.lays R_K "WitnessedMirrorModel" "source" "I" : Cond) ∈ gT := g_2 (i := 176) rfl rfl
theorem gm_445 : (.lays R_K "WitnessedMirrorModel" "holder" "I" : Cond) ∈ gT := g_2 (i := 178) rfl rfl
theorem gm_447 : (.lays R_K "WitnessedMirrorModel" "connected" "Z" : Cond) ∈ gT := g_2 (i := 180) rfl rfl
theorem gm_449 : (.lays R_K "WitnessedMirrorModel" "lineUp" "Z" : Cond) ∈ gT := g_2 (i := 182) rfl rfl
theorem gm_451 : (.lays R_K "WitnessedMirrorModel" "witness" "I" : Cond) ∈ gT := g_2 (i := 184) rfl rfl
theorem gm_453 : (.lays R_K "WitnessedMirrorModel" "time" "I" : Cond) ∈ gT := g_2 (i := 186) rfl rfl
theorem gm_455 : (.lays R_K "WitnessedMirrorModel" "end" "I" : Cond) ∈ gT := g_2 (i := 188) rfl rfl
theorem gm_457 : (.lays R_K "WitnessedMirrorModel" "entries" "I" : Cond) ∈ gT := g_2 (i := 190) rfl rfl
theorem gm_459 : (.laysFinal R_K "WitnessedMirrorModel" "entryCell" "[I" : Cond) ∈ gT := g_2 (i := 192) rfl rfl
theorem gm_461 : (.laysFinal R_K "WitnessedMirrorModel" "entryValue" "[I" : Cond) ∈ gT := g_2 (i := 194) rfl rfl
theorem gm_464 : (.arrayClass .boolean : Cond) ∈ gT := g_2 (i := 197) rfl rfl
theorem gm_465 : (.methodLink R_L 25 y_K_stage : Cond) ∈ gT := g_2 (i := 198) rfl rfl
theorem gm_466 : (.instanceMethod y_K_stage : Cond) ∈ gT := g_2 (i := 199) rfl rfl
theorem gm_467 : (.selects R_K y_K_stage y_K_stage : Cond) ∈ gT := g_2 (i := 200) rfl rfl
theorem gm_468 : (.code y_K_stage c_K_stage 3 (some .int) : Cond) ∈ gT := g_2 (i := 201) rfl rfl
theorem gm_469 : (.methodLink R_K 93 y_K_out : Cond) ∈ gT := g_2 (i := 202) rfl rfl
theorem gm_471 : (.instanceMethod y_K_out : Cond) ∈ gT := g_2 (i := 204) rfl rfl
theorem gm_472 : (.code y_K_out c_K_out 3 (some .boolean) : Cond) ∈ gT := g_2 (i := 205) rfl rfl
theorem gm_473 : (.methodLink R_L 29 y_K_commit : Cond) ∈ gT := g_2 (i := 206) rfl rfl
theorem gm_474 : (.instanceMethod y_K_commit : Cond) ∈ gT := g_2 (i := 207) rfl rfl
theorem gm_475 : (.selects R_K y_K_commit y_K_commit : Cond) ∈ gT := g_2 (i := 208) rfl rfl
theorem gm_476 : (.code y_K_commit c_K_commit 7 (some .int) : Cond) ∈ gT := g_2 (i := 209) rfl rfl
theorem gm_477 : (.methodLink R_K 97 y_K_goAlone : Cond) ∈ gT := g_2 (i := 210) rfl rfl
theorem gm_479 : (.instanceMethod y_K_goAlone : Cond) ∈ gT := g_2 (i := 212) rfl rfl
theorem gm_480 : (.code y_K_goAlone c_K_goAlone 2 none : Cond) ∈ gT := g_2 (i := 213) rfl rfl
theorem gm_481 : (.methodLink R_K 100 y_K_step : Cond) ∈ gT := g_2 (i := 214) rfl rfl
theorem gm_483 : (.instanceMethod y_K_step : Cond) ∈ gT := g_2 (i := 216) rfl rfl
theorem gm_484 : (.code y_K_step c_K_step 6 none : Cond) ∈ gT := g_2 (i := 217) rfl rfl
theorem gm_485 : (.methodLink R_K 86 y_K_flushStep : Cond) ∈ gT := g_2 (i := 218) rfl rfl
theorem gm_487 : (.instanceMethod y_K_flushStep : Cond) ∈ gT := g_2 (i := 220) rfl rfl
theorem gm_488 : (.code y_K_flushStep c_K_flushStep 1 none : Cond) ∈ gT := g_2 (i := 221) rfl rfl
theorem gm_489 : (.methodLink R_K 82 y_K_settle : Cond) ∈ gT := g_2 (i := 222) rfl rfl
theorem gm_491 : (.instanceMethod y_K_settle : Cond) ∈ gT := g_2 (i := 224) rfl rfl
theorem gm_492 : (.code y_K_settle c_K_settle 3 none : Cond) ∈ gT := g_2 (i := 225) rfl rfl
theorem gm_493 : (.methodLink R_K 78 y_K_holds : Cond) ∈ gT := g_2 (i := 226) rfl rfl
theorem gm_495 : (.instanceMethod y_K_holds : Cond) ∈ gT := g_2 (i := 228) rfl rfl
theorem gm_496 : (.code y_K_holds c_K_holds 3 (some .int) : Cond) ∈ gT := g_2 (i := 229) rfl rfl
theorem gm_497 : (.methodLink R_K 89 y_K_writeStep : Cond) ∈ gT := g_2 (i := 230) rfl rfl
theorem gm_499 : (.instanceMethod y_K_writeStep : Cond) ∈ gT := g_2 (i := 232) rfl rfl
theorem gm_500 : (.code y_K_writeStep c_K_writeStep 3 none : Cond) ∈ gT := g_2 (i := 233) rfl rfl
theorem gm_501 : (.methodLink R_K 70 y_K_keepIn : Cond) ∈ gT := g_2 (i := 234) rfl rfl
theorem gm_503 : (.instanceMethod y_K_keepIn : Cond) ∈ gT := g_2 (i := 236) rfl rfl
theorem gm_504 : (.code y_K_keepIn c_K_keepIn 4 none : Cond) ∈ gT := g_2 (i := 237) rfl rfl
theorem gm_505 : (.methodLink R_K 74 y_K_extentBit : Cond) ∈ gT := g_2 (i := 238) rfl rfl
theorem gm_507 : (.instanceMethod y_K_extentBit : Cond) ∈ gT := g_3 (i := 0) rfl rfl
theorem gm_508 : (.code y_K_extentBit c_K_extentBit 2 (some .int) : Cond) ∈ gT := g_3 (i := 1) rfl rfl
theorem gm_509 : (.methodLink R_K 103 y_K_crash : Cond) ∈ gT := g_3 (i := 2) rfl rfl
theorem gm_510 : (.instanceMethod y_K_crash : Cond) ∈ gT := g_3 (i := 3) rfl rfl
theorem gm_511 : (.selects R_K y_K_crash y_K_crash : Cond) ∈ gT := g_3 (i := 4) rfl rfl
theorem gm_512 : (.code y_K_crash c_K_crash 4 (some .int) : Cond) ∈ gT := g_3 (i := 5) rfl rfl
theorem gm_513 : (.methodLink R_K 108 y_K_noPrimary : Cond) ∈ gT := g_3 (i := 6) rfl rfl
theorem gm_515 : (.instanceMethod y_K_noPrimary : Cond) ∈ gT := g_3 (i := 8) rfl rfl
theorem gm_516 : (.code y_K_noPrimary c_K_noPrimary 1 none : Cond) ∈ gT := g_3 (i := 9) rfl rfl
theorem gm_517 : (.methodLink R_K 111 y_K_disconnect : Cond) ∈ gT := g_3 (i := 10) rfl rfl
theorem gm_519 : (.instanceMethod y_K_disconnect : Cond) ∈ gT := g_3 (i := 12) rfl rfl
theorem gm_520 : (.code y_K_disconnect c_K_disconnect 1 none : Cond) ∈ gT := g_3 (i := 13) rfl rfl
theorem gm_521 : (.methodLink R_L 33 y_K_cell : Cond) ∈ gT := g_3 (i := 14) rfl rfl
theorem gm_522 : (.instanceMethod y_K_cell : Cond) ∈ gT := g_3 (i := 15) rfl rfl
theorem gm_523 : (.selects R_K y_K_cell y_K_cell : Cond) ∈ gT := g_3 (i := 16) rfl rfl
theorem gm_524 : (.code y_K_cell c_K_cell 2 (some .long) : Cond) ∈ gT := g_3 (i := 17) rfl rfl
theorem gm_525 : (.constantLong R_K 106 (-1000000000000) : Cond) ∈ gT := g_3 (i := 18) rfl rfl
theorem gm_526 : (.methodLink R_L 37 y_K_crash : Cond) ∈ gT := g_3 (i := 19) rfl rfl
theorem gm_527 : (.methodLink R_L 42 y_K_restart : Cond) ∈ gT := g_3 (i := 20) rfl rfl
theorem gm_528 : (.instanceMethod y_K_restart : Cond) ∈ gT := g_3 (i := 21) rfl rfl
theorem gm_529 : (.selects R_K y_K_restart y_K_restart : Cond) ∈ gT := g_3 (i := 22) rfl rfl
theorem gm_530 : (.code y_K_restart c_K_restart 2 (some .int) : Cond) ∈ gT := g_3 (i := 23) rfl rfl
theorem gm_531 : (.methodLink R_L 46 y_K_swap : Cond) ∈ gT := g_3 (i := 24) rfl rfl
theorem gm_532 : (.instanceMethod y_K_swap : Cond) ∈ gT := g_3 (i := 25) rfl rfl
theorem gm_533 : (.selects R_K y_K_swap y_K_swap : Cond) ∈ gT := g_3 (i := 26) rfl rfl
theorem gm_534 : (.code y_K_swap c_K_swap 3 (some .int) : Cond) ∈ gT := g_3 (i := 27) rfl rfl
theorem gm_535 : (.methodLink R_L 51 y_K_line : Cond) ∈ gT := g_3 (i := 28) rfl rfl
theorem gm_536 : (.instanceMethod y_K_line : Cond) ∈ gT := g_3 (i := 29) rfl rfl
theorem gm_537 : (.selects R_K y_K_line y_K_line : Cond) ∈ gT := g_3 (i := 30) rfl rfl
theorem gm_538 : (.code y_K_line c_K_line 2 (some .int) : Cond) ∈ gT := g_3 (i := 31) rfl rfl
theorem gm_539 : (.methodLink R_L 56 y_K_witnessLine : Cond) ∈ gT := g_3 (i := 32) rfl rfl
theorem gm_540 : (.instanceMethod y_K_witnessLine : Cond) ∈ gT := g_3 (i := 33) rfl rfl
theorem gm_541 : (.selects R_K y_K_witnessLine y_K_witnessLine : Cond) ∈ gT := g_3 (i := 34) rfl rfl
theorem gm_542 : (.code y_K_witnessLine c_K_witnessLine 3 (some .int) : Cond) ∈ gT := g_3 (i := 35) rfl rfl
theorem gm_543 : (.methodLink R_L 61 y_K_connect : Cond) ∈ gT := g_3 (i := 36) rfl rfl
theorem gm_544 : (.instanceMethod y_K_connect : Cond) ∈ gT := g_3 (i := 37) rfl rfl
theorem gm_545 : (.selects R_K y_K_connect y_K_connect : Cond) ∈ gT := g_3 (i := 38) rfl rfl
theorem gm_546 : (.code y_K_connect c_K_connect 5 (some .int) : Cond) ∈ gT := g_3 (i := 39) rfl rfl
theorem gm_547 : (.methodLink R_K 114 y_K_finished : Cond) ∈ gT := g_3 (i := 40) rfl rfl
theorem gm_549 : (.instanceMethod y_K_finished : Cond) ∈ gT := g_3 (i := 42) rfl rfl
theorem gm_550 : (.code y_K_finished c_K_finished 3 none : Cond) ∈ gT := g_3 (i := 43) rfl rfl
theorem gm_551 : (.methodLink R_L 65 y_K_resync : Cond) ∈ gT := g_3 (i := 44) rfl rfl
theorem gm_552 : (.instanceMethod y_K_resync : Cond) ∈ gT := g_3 (i := 45) rfl rfl
theorem gm_553 : (.selects R_K y_K_resync y_K_resync : Cond) ∈ gT := g_3 (i := 46) rfl rfl
theorem gm_554 : (.code y_K_resync c_K_resync 7 (some .int) : Cond) ∈ gT := g_3 (i := 47) rfl rfl
theorem gm_555 : (.methodLink R_L 69 y_K_promote : Cond) ∈ gT := g_3 (i := 48) rfl rfl
theorem gm_556 : (.instanceMethod y_K_promote : Cond) ∈ gT := g_3 (i := 49) rfl rfl
theorem gm_557 : (.selects R_K y_K_promote y_K_promote : Cond) ∈ gT := g_3 (i := 50) rfl rfl
theorem gm_558 : (.code y_K_promote c_K_promote 7 (some .int) : Cond) ∈ gT := g_3 (i := 51) rfl rfl
theorem gm_559 : (.methodLink R_L 73 y_K_demote : Cond) ∈ gT := g_3 (i := 52) rfl rfl
theorem gm_560 : (.instanceMethod y_K_demote : Cond) ∈ gT := g_3 (i := 53) rfl rfl
theorem gm_561 : (.selects R_K y_K_demote y_K_demote : Cond) ∈ gT := g_3 (i := 54) rfl rfl
theorem gm_562 : (.code y_K_demote c_K_demote 2 (some .int) : Cond) ∈ gT := g_3 (i := 55) rfl rfl
theorem gm_563 : (.methodLink R_L 77 y_K_renew : Cond) ∈ gT := g_3 (i := 56) rfl rfl
theorem gm_564 : (.instanceMethod y_K_renew : Cond) ∈ gT := g_3 (i := 57) rfl rfl
theorem gm_565 : (.selects R_K y_K_renew y_K_renew : Cond) ∈ gT := g_3 (i := 58) rfl rfl
theorem gm_566 : (.code y_K_renew c_K_renew 1 (some .int) : Cond) ∈ gT := g_3 (i := 59) rfl rfl
theorem gm_567 : (.methodLink R_L 81 y_K_tick : Cond) ∈ gT := g_3 (i := 60) rfl rfl
theorem gm_568 : (.instanceMethod y_K_tick : Cond) ∈ gT := g_3 (i := 61) rfl rfl
theorem gm_569 : (.selects R_K y_K_tick y_K_tick : Cond) ∈ gT := g_3 (i := 62) rfl rfl
theorem gm_570 : (.code y_K_tick c_K_tick 2 (some .int) : Cond) ∈ gT := g_3 (i := 63) rfl rfl
theorem gm_571 : (.methodLink R_L 86 y_K_block : Cond) ∈ gT := g_3 (i := 64) rfl rfl
theorem gm_572 : (.instanceMethod y_K_block : Cond) ∈ gT := g_3 (i := 65) rfl rfl
theorem gm_573 : (.selects R_K y_K_block y_K_block : Cond) ∈ gT := g_3 (i := 66) rfl rfl
theorem gm_574 : (.code y_K_block c_K_block 4 (some .long) : Cond) ∈ gT := g_3 (i := 67) rfl rfl
theorem gm_575 : (.methodLink R_L 90 y_K_node : Cond) ∈ gT := g_3 (i := 68) rfl rfl
theorem gm_576 : (.instanceMethod y_K_node : Cond) ∈ gT := g_3 (i := 69) rfl rfl
theorem gm_577 : (.selects R_K y_K_node y_K_node : Cond) ∈ gT := g_3 (i := 70) rfl rfl
theorem gm_578 : (.code y_K_node c_K_node 5 (some .int) : Cond) ∈ gT := g_3 (i := 71) rfl rfl
theorem gm_579 : (.methodLink R_L 94 y_K_mirror : Cond) ∈ gT := g_3 (i := 72) rfl rfl
theorem gm_580 : (.instanceMethod y_K_mirror : Cond) ∈ gT := g_3 (i := 73) rfl rfl
theorem gm_581 : (.selects R_K y_K_mirror y_K_mirror : Cond) ∈ gT := g_3 (i := 74) rfl rfl
theorem gm_582 : (.code y_K_mirror c_K_mirror 2 (some .int) : Cond) ∈ gT := g_3 (i := 75) rfl rfl
theorem in_B : ∀ w ∈ u_ws R_B T_B 3, w ∈ gT := fun w hw => by
  obtain ⟨k, hk, rfl⟩ := List.mem_map.mp hw
  have hk := List.mem_range.mp hk
  match k, hk with
  | 0, _ => exact gm_59
  | 1, _ => exact gm_61
  | 2, _ => exact gm_63
  | n + 3, h => exact absurd h (by omega)
theorem in_D : ∀ w ∈ u_ws R_D T_D 3, w ∈ gT := fun w hw => by
  obtain ⟨k, hk, rfl⟩ := List.mem_map.mp hw
  have hk := List.mem_range.mp hk
  match k, hk with
  | 0, _ => exact gm_82
  | 1, _ => exact gm_84
  | 2, _ => exact gm_86
  | n + 3, h => exact absurd h (by omega)
theorem in_N : ∀ w ∈ u_ws R_N T_N 8, w ∈ gT := fun w hw => by
  obtain ⟨k, hk, rfl⟩ := List.mem_map.mp hw
  have hk := List.mem_range.mp hk
  match k, hk with
  | 0, _ => exact gm_105
  | 1, _ => exact gm_107
  | 2, _ => exact gm_109
  | 3, _ => exact gm_111
  | 4, _ => exact gm_113
  | 5, _ => exact gm_115
  | 6, _ => exact gm_117
  | 7, _ => exact gm_119
  | n + 8, h => exact absurd h (by omega)
theorem in_T : ∀ w ∈ u_ws R_T T_T 5, w ∈ gT := fun w hw => by
  obtain ⟨k, hk, rfl⟩ := List.mem_map.mp hw
  have hk := List.mem_range.mp hk
  match k, hk with
  | 0, _ => exact gm_143
  | 1, _ => exact gm_145
  | 2, _ => exact gm_147
  | 3, _ => exact gm_149
  | 4, _ => exact gm_151
  | n + 5, h => exact absurd h (by omega)
theorem in_M : ∀ w ∈ u_ws R_M T_M 7, w ∈ gT := fun w hw => by
  obtain ⟨k, hk, rfl⟩ := List.mem_map.mp hw
  have hk := List.mem_range.mp hk
  match k, hk with
  | 0, _ => exact gm_161
  | 1, _ => exact gm_163
  | 2, _ => exact gm_165
  | 3, _ => exact gm_167
  | 4, _ => exact gm_169
  | 5, _ => exact gm_171
  | 6, _ => exact gm_173
  | n + 7, h => exact absurd h (by omega)
theorem in_K : ∀ w ∈ u_ws R_K T_K 21, w ∈ gT := fun w hw => by
  obtain ⟨k, hk, rfl⟩ := List.mem_map.mp hw
  have hk := List.mem_range.mp hk
  match k, hk with
  | 0, _ => exact gm_421
  | 1, _ => exact gm_423
  | 2, _ => exact gm_425
  | 3, _ => exact gm_427
  | 4, _ => exact gm_429
  | 5, _ => exact gm_431
  | 6, _ => exact gm_433
  | 7, _ => exact gm_435
  | 8, _ => exact gm_437
  | 9, _ => exact gm_439
  | 10, _ => exact gm_441
  | 11, _ => exact gm_443
  | 12, _ => exact gm_445
  | 13, _ => exact gm_447
  | 14, _ => exact gm_449
  | 15, _ => exact gm_451
  | 16, _ => exact gm_453
  | 17, _ => exact gm_455
  | 18, _ => exact gm_457
  | 19, _ => exact gm_459
  | 20, _ => exact gm_461
  | n + 21, h => exact absurd h (by omega)
end
section
theorem d_M_init_0 : decode c_M_init 0 = .ok (.aload_n 0, 1) := by decide +kernel
theorem d_M_init_1 : decode c_M_init 1 = .ok (.invokespecial 1, 3) := by decide +kernel
theorem d_M_init_4 : decode c_M_init 4 = .ok (.aload_n 0, 1) := by decide +kernel
theorem d_M_init_5 : decode c_M_init 5 = .ok (.iconst 2, 1) := by decide +kernel
theorem d_M_init_6 : decode c_M_init 6 = .ok (.anewarray 9, 3) := by decide +kernel
theorem d_M_init_9 : decode c_M_init 9 = .ok (.putfield 11, 3) := by decide +kernel
theorem d_M_init_12 : decode c_M_init 12 = .ok (.aload_n 0, 1) := by decide +kernel
theorem d_M_init_13 : decode c_M_init 13 = .ok (.new 15, 3) := by decide +kernel
theorem d_M_init_16 : decode c_M_init 16 = .ok (.dup, 1) := by decide +kernel
theorem d_M_init_17 : decode c_M_init 17 = .ok (.invokespecial 17, 3) := by decide +kernel
theorem d_M_init_20 : decode c_M_init 20 = .ok (.putfield 18, 3) := by decide +kernel
theorem d_M_init_23 : decode c_M_init 23 = .ok (.aload_n 0, 1) := by decide +kernel
theorem d_M_init_24 : decode c_M_init 24 = .ok (.iconst 1, 1) := by decide +kernel
theorem d_M_init_25 : decode c_M_init 25 = .ok (.putfield 22, 3) := by decide +kernel
theorem d_M_init_28 : decode c_M_init 28 = .ok (.aload_n 0, 1) := by decide +kernel
theorem d_M_init_29 : decode c_M_init 29 = .ok (.iconst 1, 1) := by decide +kernel
theorem d_M_init_30 : decode c_M_init 30 = .ok (.putfield 26, 3) := by decide +kernel
theorem d_M_init_33 : decode c_M_init 33 = .ok (.aload_n 0, 1) := by decide +kernel
theorem d_M_init_34 : decode c_M_init 34 = .ok (.iconst 0, 1) := by decide +kernel
theorem d_M_init_35 : decode c_M_init 35 = .ok (.putfield 29, 3) := by decide +kernel
theorem d_M_init_38 : decode c_M_init 38 = .ok (.aload_n 0, 1) := by decide +kernel
theorem d_M_init_39 : decode c_M_init 39 = .ok (.iconst 0, 1) := by decide +kernel
theorem d_M_init_40 : decode c_M_init 40 = .ok (.putfield 32, 3) := by decide +kernel
theorem d_M_init_43 : decode c_M_init 43 = .ok (.aload_n 0, 1) := by decide +kernel
theorem d_M_init_44 : decode c_M_init 44 = .ok (.getfield 11, 3) := by decide +kernel
theorem d_M_init_47 : decode c_M_init 47 = .ok (.iconst 0, 1) := by decide +kernel
theorem d_M_init_48 : decode c_M_init 48 = .ok (.new 9, 3) := by decide +kernel
theorem d_M_init_51 : decode c_M_init 51 = .ok (.dup, 1) := by decide +kernel
theorem d_M_init_52 : decode c_M_init 52 = .ok (.invokespecial 36, 3) := by decide +kernel
theorem d_M_init_55 : decode c_M_init 55 = .ok (.aastore, 1) := by decide +kernel
theorem d_M_init_56 : decode c_M_init 56 = .ok (.aload_n 0, 1) := by decide +kernel
theorem d_M_init_57 : decode c_M_init 57 = .ok (.getfield 11, 3) := by decide +kernel
theorem d_M_init_60 : decode c_M_init 60 = .ok (.iconst 1, 1) := by decide +kernel
theorem d_M_init_61 : decode c_M_init 61 = .ok (.new 9, 3) := by decide +kernel
theorem d_M_init_64 : decode c_M_init 64 = .ok (.dup, 1) := by decide +kernel
theorem d_M_init_65 : decode c_M_init 65 = .ok (.invokespecial 36, 3) := by decide +kernel
theorem d_M_init_68 : decode c_M_init 68 = .ok (.aastore, 1) := by decide +kernel
theorem d_M_init_69 : decode c_M_init 69 = .ok (.aload_n 0, 1) := by decide +kernel
theorem d_M_init_70 : decode c_M_init 70 = .ok (.new 37, 3) := by decide +kernel
theorem d_M_init_73 : decode c_M_init 73 = .ok (.dup, 1) := by decide +kernel
theorem d_M_init_74 : decode c_M_init 74 = .ok (.iconst 2, 1) := by decide +kernel
theorem d_M_init_75 : decode c_M_init 75 = .ok (.bipush 50, 2) := by decide +kernel
theorem d_M_init_77 : decode c_M_init 77 = .ok (.iload_n 1, 1) := by decide +kernel
theorem d_M_init_78 : decode c_M_init 78 = .ok (.invokestatic 39, 3) := by decide +kernel
theorem d_M_init_81 : decode c_M_init 81 = .ok (.invokestatic 45, 3) := by decide +kernel
theorem d_M_init_84 : decode c_M_init 84 = .ok (.invokespecial 48, 3) := by decide +kernel
theorem d_M_init_87 : decode c_M_init 87 = .ok (.putfield 51, 3) := by decide +kernel
theorem d_M_init_90 : decode c_M_init 90 = .ok (.return_, 1) := by decide +kernel
theorem d_B_init_0 : decode c_B_init 0 = .ok (.aload_n 0, 1) := by decide +kernel
theorem d_B_init_1 : decode c_B_init 1 = .ok (.invokespecial 3, 3) := by decide +kernel
theorem d_B_init_4 : decode c_B_init 4 = .ok (.aload_n 0, 1) := by decide +kernel
theorem d_B_init_5 : decode c_B_init 5 = .ok (.iconst 3, 1) := by decide +kernel
theorem d_B_init_6 : decode c_B_init 6 = .ok (.newarray .int, 2) := by decide +kernel
theorem d_B_init_8 : decode c_B_init 8 = .ok (.putfield 9, 3) := by decide +kernel
theorem d_B_init_11 : decode c_B_init 11 = .ok (.aload_n 0, 1) := by decide +kernel
theorem d_B_init_12 : decode c_B_init 12 = .ok (.iconst 3, 1) := by decide +kernel
theorem d_B_init_13 : decode c_B_init 13 = .ok (.newarray .int, 2) := by decide +kernel
theorem d_B_init_15 : decode c_B_init 15 = .ok (.putfield 15, 3) := by decide +kernel
theorem d_B_init_18 : decode c_B_init 18 = .ok (.aload_n 0, 1) := by decide +kernel
theorem d_B_init_19 : decode c_B_init 19 = .ok (.iconst 0, 1) := by decide +kernel
theorem d_B_init_20 : decode c_B_init 20 = .ok (.putfield 18, 3) := by decide +kernel
theorem d_B_init_23 : decode c_B_init 23 = .ok (.return_, 1) := by decide +kernel
theorem d_N_init_0 : decode c_N_init 0 = .ok (.aload_n 0, 1) := by decide +kernel
theorem d_N_init_1 : decode c_N_init 1 = .ok (.invokespecial 1, 3) := by decide +kernel
theorem d_N_init_4 : decode c_N_init 4 = .ok (.aload_n 0, 1) := by decide +kernel
theorem d_N_init_5 : decode c_N_init 5 = .ok (.new 7, 3) := by decide +kernel
theorem d_N_init_8 : decode c_N_init 8 = .ok (.dup, 1) := by decide +kernel
theorem d_N_init_9 : decode c_N_init 9 = .ok (.invokespecial 9, 3) := by decide +kernel
theorem d_N_init_12 : decode c_N_init 12 = .ok (.putfield 10, 3) := by decide +kernel
theorem d_N_init_15 : decode c_N_init 15 = .ok (.aload_n 0, 1) := by decide +kernel
theorem d_N_init_16 : decode c_N_init 16 = .ok (.iconst 1, 1) := by decide +kernel
theorem d_N_init_17 : decode c_N_init 17 = .ok (.putfield 16, 3) := by decide +kernel
theorem d_N_init_20 : decode c_N_init 20 = .ok (.aload_n 0, 1) := by decide +kernel
theorem d_N_init_21 : decode c_N_init 21 = .ok (.iconst 0, 1) := by decide +kernel
theorem d_N_init_22 : decode c_N_init 22 = .ok (.putfield 20, 3) := by decide +kernel
theorem d_N_init_25 : decode c_N_init 25 = .ok (.aload_n 0, 1) := by decide +kernel
theorem d_N_init_26 : decode c_N_init 26 = .ok (.iconst 1, 1) := by decide +kernel
theorem d_N_init_27 : decode c_N_init 27 = .ok (.putfield 23, 3) := by decide +kernel
theorem d_N_init_30 : decode c_N_init 30 = .ok (.aload_n 0, 1) := by decide +kernel
theorem d_N_init_31 : decode c_N_init 31 = .ok (.iconst 0, 1) := by decide +kernel
theorem d_N_init_32 : decode c_N_init 32 = .ok (.putfield 27, 3) := by decide +kernel
theorem d_N_init_35 : decode c_N_init 35 = .ok (.aload_n 0, 1) := by decide +kernel
theorem d_N_init_36 : decode c_N_init 36 = .ok (.iconst 0, 1) := by decide +kernel
theorem d_N_init_37 : decode c_N_init 37 = .ok (.putfield 30, 3) := by decide +kernel
theorem d_N_init_40 : decode c_N_init 40 = .ok (.aload_n 0, 1) := by decide +kernel
theorem d_N_init_41 : decode c_N_init 41 = .ok (.iconst 0, 1) := by decide +kernel
theorem d_N_init_42 : decode c_N_init 42 = .ok (.putfield 33, 3) := by decide +kernel
theorem d_N_init_45 : decode c_N_init 45 = .ok (.aload_n 0, 1) := by decide +kernel
theorem d_N_init_46 : decode c_N_init 46 = .ok (.iconst 1, 1) := by decide +kernel
theorem d_N_init_47 : decode c_N_init 47 = .ok (.putfield 36, 3) := by decide +kernel
theorem d_N_init_50 : decode c_N_init 50 = .ok (.return_, 1) := by decide +kernel
theorem d_D_init_0 : decode c_D_init 0 = .ok (.aload_n 0, 1) := by decide +kernel
theorem d_D_init_1 : decode c_D_init 1 = .ok (.invokespecial 3, 3) := by decide +kernel
theorem d_D_init_4 : decode c_D_init 4 = .ok (.aload_n 0, 1) := by decide +kernel
theorem d_D_init_5 : decode c_D_init 5 = .ok (.bipush 32, 2) := by decide +kernel
theorem d_D_init_7 : decode c_D_init 7 = .ok (.newarray .int, 2) := by decide +kernel
theorem d_D_init_9 : decode c_D_init 9 = .ok (.putfield 9, 3) := by decide +kernel
theorem d_D_init_12 : decode c_D_init 12 = .ok (.aload_n 0, 1) := by decide +kernel
theorem d_D_init_13 : decode c_D_init 13 = .ok (.bipush 32, 2) := by decide +kernel
theorem d_D_init_15 : decode c_D_init 15 = .ok (.newarray .int, 2) := by decide +kernel
theorem d_D_init_17 : decode c_D_init 17 = .ok (.putfield 15, 3) := by decide +kernel
theorem d_D_init_20 : decode c_D_init 20 = .ok (.aload_n 0, 1) := by decide +kernel
theorem d_D_init_21 : decode c_D_init 21 = .ok (.iconst 0, 1) := by decide +kernel
theorem d_D_init_22 : decode c_D_init 22 = .ok (.putfield 18, 3) := by decide +kernel
theorem d_D_init_25 : decode c_D_init 25 = .ok (.return_, 1) := by decide +kernel
theorem d_H_min_0 : decode c_H_min 0 = .ok (.iload_n 0, 1) := by decide +kernel
theorem d_H_min_1 : decode c_H_min 1 = .ok (.iload_n 1, 1) := by decide +kernel
theorem d_H_min_2 : decode c_H_min 2 = .ok (.if_icmp .gt 7, 3) := by decide +kernel
theorem d_H_min_5 : decode c_H_min 5 = .ok (.iload_n 0, 1) := by decide +kernel
theorem d_H_min_6 : decode c_H_min 6 = .ok (.goto 4, 3) := by decide +kernel
theorem d_H_min_9 : decode c_H_min 9 = .ok (.iload_n 1, 1) := by decide +kernel
theorem d_H_min_10 : decode c_H_min 10 = .ok (.ireturn, 1) := by decide +kernel
theorem d_H_max_0 : decode c_H_max 0 = .ok (.iload_n 0, 1) := by decide +kernel
theorem d_H_max_1 : decode c_H_max 1 = .ok (.iload_n 1, 1) := by decide +kernel
theorem d_H_max_2 : decode c_H_max 2 = .ok (.if_icmp .lt 7, 3) := by decide +kernel
theorem d_H_max_5 : decode c_H_max 5 = .ok (.iload_n 0, 1) := by decide +kernel
theorem d_H_max_6 : decode c_H_max 6 = .ok (.goto 4, 3) := by decide +kernel
theorem d_H_max_9 : decode c_H_max 9 = .ok (.iload_n 1, 1) := by decide +kernel
theorem d_H_max_10 : decode c_H_max 10 = .ok (.ireturn, 1) := by decide +kernel
theorem d_T_init_0 : decode c_T_init 0 = .ok (.aload_n 0, 1) := by decide +kernel
theorem d_T_init_1 : decode c_T_init 1 = .ok (.invokespecial 3, 3) := by decide +kernel
theorem d_T_init_4 : decode c_T_init 4 = .ok (.aload_n 0, 1) := by decide +kernel
theorem d_T_init_5 : decode c_T_init 5 = .ok (.iconst 1, 1) := by decide +kernel
theorem d_T_init_6 : decode c_T_init 6 = .ok (.putfield 9, 3) := by decide +kernel
theorem d_T_init_9 : decode c_T_init 9 = .ok (.aload_n 0, 1) := by decide +kernel
theorem d_T_init_10 : decode c_T_init 10 = .ok (.iconst 0, 1) := by decide +kernel
theorem d_T_init_11 : decode c_T_init 11 = .ok (.putfield 15, 3) := by decide +kernel
theorem d_T_init_14 : decode c_T_init 14 = .ok (.aload_n 0, 1) := by decide +kernel
theorem d_T_init_15 : decode c_T_init 15 = .ok (.iconst 2, 1) := by decide +kernel
theorem d_T_init_16 : decode c_T_init 16 = .ok (.putfield 18, 3) := by decide +kernel
theorem d_T_init_19 : decode c_T_init 19 = .ok (.aload_n 0, 1) := by decide +kernel
theorem d_T_init_20 : decode c_T_init 20 = .ok (.iconst 0, 1) := by decide +kernel
theorem d_T_init_21 : decode c_T_init 21 = .ok (.putfield 21, 3) := by decide +kernel
theorem d_T_init_24 : decode c_T_init 24 = .ok (.aload_n 0, 1) := by decide +kernel
theorem d_T_init_25 : decode c_T_init 25 = .ok (.iload_n 1, 1) := by decide +kernel
theorem d_T_init_26 : decode c_T_init 26 = .ok (.putfield 24, 3) := by decide +kernel
theorem d_T_init_29 : decode c_T_init 29 = .ok (.return_, 1) := by decide +kernel
theorem d_M_stage_0 : decode c_M_stage 0 = .ok (.iload_n 1, 1) := by decide +kernel
theorem d_M_stage_1 : decode c_M_stage 1 = .ok (.invokestatic 55, 3) := by decide +kernel
theorem d_M_stage_4 : decode c_M_stage 4 = .ok (.ifCond .eq 11, 3) := by decide +kernel
theorem d_M_stage_7 : decode c_M_stage 7 = .ok (.aload_n 0, 1) := by decide +kernel
theorem d_M_stage_8 : decode c_M_stage 8 = .ok (.invokevirtual 59, 3) := by decide +kernel
theorem d_M_stage_11 : decode c_M_stage 11 = .ok (.iconst 2, 1) := by decide +kernel
theorem d_M_stage_12 : decode c_M_stage 12 = .ok (.if_icmp .ne 5, 3) := by decide +kernel
theorem d_M_stage_15 : decode c_M_stage 15 = .ok (.iconst (-1), 1) := by decide +kernel
theorem d_M_stage_16 : decode c_M_stage 16 = .ok (.ireturn, 1) := by decide +kernel
theorem d_M_stage_17 : decode c_M_stage 17 = .ok (.aload_n 0, 1) := by decide +kernel
theorem d_M_stage_18 : decode c_M_stage 18 = .ok (.getfield 18, 3) := by decide +kernel
theorem d_M_stage_21 : decode c_M_stage 21 = .ok (.getfield 63, 3) := by decide +kernel
theorem d_M_stage_24 : decode c_M_stage 24 = .ok (.iconst 3, 1) := by decide +kernel
theorem d_M_stage_25 : decode c_M_stage 25 = .ok (.if_icmp .ne 6, 3) := by decide +kernel
theorem d_M_stage_28 : decode c_M_stage 28 = .ok (.bipush (-2), 2) := by decide +kernel
theorem d_M_stage_30 : decode c_M_stage 30 = .ok (.ireturn, 1) := by decide +kernel
theorem d_M_stage_31 : decode c_M_stage 31 = .ok (.aload_n 0, 1) := by decide +kernel
theorem d_M_stage_32 : decode c_M_stage 32 = .ok (.getfield 18, 3) := by decide +kernel
theorem d_M_stage_35 : decode c_M_stage 35 = .ok (.iload_n 1, 1) := by decide +kernel
theorem d_M_stage_36 : decode c_M_stage 36 = .ok (.iload_n 2, 1) := by decide +kernel
theorem d_M_stage_37 : decode c_M_stage 37 = .ok (.invokevirtual 66, 3) := by decide +kernel
theorem d_M_stage_40 : decode c_M_stage 40 = .ok (.aload_n 0, 1) := by decide +kernel
theorem d_M_stage_41 : decode c_M_stage 41 = .ok (.getfield 18, 3) := by decide +kernel
theorem d_M_stage_44 : decode c_M_stage 44 = .ok (.getfield 63, 3) := by decide +kernel
theorem d_M_stage_47 : decode c_M_stage 47 = .ok (.ireturn, 1) := by decide +kernel
theorem d_M_isCell_0 : decode c_M_isCell 0 = .ok (.iload_n 0, 1) := by decide +kernel
theorem d_M_isCell_1 : decode c_M_isCell 1 = .ok (.ifCond .lt 13, 3) := by decide +kernel
theorem d_M_isCell_4 : decode c_M_isCell 4 = .ok (.iload_n 0, 1) := by decide +kernel
theorem d_M_isCell_5 : decode c_M_isCell 5 = .ok (.bipush 24, 2) := by decide +kernel
theorem d_M_isCell_7 : decode c_M_isCell 7 = .ok (.if_icmp .ge 7, 3) := by decide +kernel
theorem d_M_isCell_10 : decode c_M_isCell 10 = .ok (.iconst 1, 1) := by decide +kernel
theorem d_M_isCell_11 : decode c_M_isCell 11 = .ok (.goto 4, 3) := by decide +kernel
theorem d_M_isCell_14 : decode c_M_isCell 14 = .ok (.iconst 0, 1) := by decide +kernel
theorem d_M_isCell_15 : decode c_M_isCell 15 = .ok (.ireturn, 1) := by decide +kernel
theorem d_M_findPrimary_0 : decode c_M_findPrimary 0 = .ok (.aload_n 0, 1) := by decide +kernel
theorem d_M_findPrimary_1 : decode c_M_findPrimary 1 = .ok (.getfield 11, 3) := by decide +kernel
theorem d_M_findPrimary_4 : decode c_M_findPrimary 4 = .ok (.iconst 0, 1) := by decide +kernel
theorem d_M_findPrimary_5 : decode c_M_findPrimary 5 = .ok (.aaload, 1) := by decide +kernel
theorem d_M_findPrimary_6 : decode c_M_findPrimary 6 = .ok (.getfield 149, 3) := by decide +kernel
theorem d_M_findPrimary_9 : decode c_M_findPrimary 9 = .ok (.ifCond .eq 5, 3) := by decide +kernel
theorem d_M_findPrimary_12 : decode c_M_findPrimary 12 = .ok (.iconst 0, 1) := by decide +kernel
theorem d_M_findPrimary_13 : decode c_M_findPrimary 13 = .ok (.ireturn, 1) := by decide +kernel
theorem d_M_findPrimary_14 : decode c_M_findPrimary 14 = .ok (.aload_n 0, 1) := by decide +kernel
theorem d_M_findPrimary_15 : decode c_M_findPrimary 15 = .ok (.getfield 11, 3) := by decide +kernel
theorem d_M_findPrimary_18 : decode c_M_findPrimary 18 = .ok (.iconst 1, 1) := by decide +kernel
theorem d_M_findPrimary_19 : decode c_M_findPrimary 19 = .ok (.aaload, 1) := by decide +kernel
theorem d_M_findPrimary_20 : decode c_M_findPrimary 20 = .ok (.getfield 149, 3) := by decide +kernel
theorem d_M_findPrimary_23 : decode c_M_findPrimary 23 = .ok (.ifCond .eq 7, 3) := by decide +kernel
theorem d_M_findPrimary_26 : decode c_M_findPrimary 26 = .ok (.iconst 1, 1) := by decide +kernel
theorem d_M_findPrimary_27 : decode c_M_findPrimary 27 = .ok (.goto 4, 3) := by decide +kernel
theorem d_M_findPrimary_30 : decode c_M_findPrimary 30 = .ok (.iconst 2, 1) := by decide +kernel
theorem d_M_findPrimary_31 : decode c_M_findPrimary 31 = .ok (.ireturn, 1) := by decide +kernel
theorem d_B_append_0 : decode c_B_append 0 = .ok (.aload_n 0, 1) := by decide +kernel
theorem d_B_append_1 : decode c_B_append 1 = .ok (.getfield 18, 3) := by decide +kernel
theorem d_B_append_4 : decode c_B_append 4 = .ok (.iconst 3, 1) := by decide +kernel
theorem d_B_append_5 : decode c_B_append 5 = .ok (.if_icmp .lt 4, 3) := by decide +kernel
theorem d_B_append_8 : decode c_B_append 8 = .ok (.return_, 1) := by decide +kernel
theorem d_B_append_9 : decode c_B_append 9 = .ok (.aload_n 0, 1) := by decide +kernel
theorem d_B_append_10 : decode c_B_append 10 = .ok (.getfield 9, 3) := by decide +kernel
theorem d_B_append_13 : decode c_B_append 13 = .ok (.aload_n 0, 1) := by decide +kernel
theorem d_B_append_14 : decode c_B_append 14 = .ok (.getfield 18, 3) := by decide +kernel
theorem d_B_append_17 : decode c_B_append 17 = .ok (.iload_n 1, 1) := by decide +kernel
theorem d_B_append_18 : decode c_B_append 18 = .ok (.iastore, 1) := by decide +kernel
theorem d_B_append_19 : decode c_B_append 19 = .ok (.aload_n 0, 1) := by decide +kernel
theorem d_B_append_20 : decode c_B_append 20 = .ok (.getfield 15, 3) := by decide +kernel
theorem d_B_append_23 : decode c_B_append 23 = .ok (.aload_n 0, 1) := by decide +kernel
theorem d_B_append_24 : decode c_B_append 24 = .ok (.getfield 18, 3) := by decide +kernel
theorem d_B_append_27 : decode c_B_append 27 = .ok (.iload_n 2, 1) := by decide +kernel
theorem d_B_append_28 : decode c_B_append 28 = .ok (.iastore, 1) := by decide +kernel
theorem d_B_append_29 : decode c_B_append 29 = .ok (.aload_n 0, 1) := by decide +kernel
theorem d_B_append_30 : decode c_B_append 30 = .ok (.dup, 1) := by decide +kernel
theorem d_B_append_31 : decode c_B_append 31 = .ok (.getfield 18, 3) := by decide +kernel
theorem d_B_append_34 : decode c_B_append 34 = .ok (.iconst 1, 1) := by decide +kernel
theorem d_B_append_35 : decode c_B_append 35 = .ok (.iadd, 1) := by decide +kernel
theorem d_B_append_36 : decode c_B_append 36 = .ok (.putfield 18, 3) := by decide +kernel
theorem d_B_append_39 : decode c_B_append 39 = .ok (.return_, 1) := by decide +kernel
theorem d_M_commit_0 : decode c_M_commit 0 = .ok (.aload_n 0, 1) := by decide +kernel
theorem d_M_commit_1 : decode c_M_commit 1 = .ok (.invokevirtual 59, 3) := by decide +kernel
theorem d_M_commit_4 : decode c_M_commit 4 = .ok (.istore_n 3, 1) := by decide +kernel
theorem d_M_commit_5 : decode c_M_commit 5 = .ok (.iload_n 3, 1) := by decide +kernel
theorem d_M_commit_6 : decode c_M_commit 6 = .ok (.iconst 2, 1) := by decide +kernel
theorem d_M_commit_7 : decode c_M_commit 7 = .ok (.if_icmp .eq 13, 3) := by decide +kernel
theorem d_M_commit_10 : decode c_M_commit 10 = .ok (.aload_n 0, 1) := by decide +kernel
theorem d_M_commit_11 : decode c_M_commit 11 = .ok (.getfield 18, 3) := by decide +kernel
theorem d_M_commit_14 : decode c_M_commit 14 = .ok (.getfield 63, 3) := by decide +kernel
theorem d_M_commit_17 : decode c_M_commit 17 = .ok (.ifCond .ne 5, 3) := by decide +kernel
theorem d_M_commit_20 : decode c_M_commit 20 = .ok (.iconst (-1), 1) := by decide +kernel
theorem d_M_commit_21 : decode c_M_commit 21 = .ok (.ireturn, 1) := by decide +kernel
theorem d_M_commit_22 : decode c_M_commit 22 = .ok (.aload_n 0, 1) := by decide +kernel
theorem d_M_commit_23 : decode c_M_commit 23 = .ok (.iload_n 3, 1) := by decide +kernel
theorem d_M_commit_24 : decode c_M_commit 24 = .ok (.invokevirtual 70, 3) := by decide +kernel
theorem d_M_commit_27 : decode c_M_commit 27 = .ok (.ifCond .eq 23, 3) := by decide +kernel
theorem d_M_commit_30 : decode c_M_commit 30 = .ok (.aload_n 0, 1) := by decide +kernel
theorem d_M_commit_31 : decode c_M_commit 31 = .ok (.getfield 11, 3) := by decide +kernel
theorem d_M_commit_34 : decode c_M_commit 34 = .ok (.iload_n 3, 1) := by decide +kernel
theorem d_M_commit_35 : decode c_M_commit 35 = .ok (.aaload, 1) := by decide +kernel
theorem d_M_commit_36 : decode c_M_commit 36 = .ok (.getfield 73, 3) := by decide +kernel
theorem d_M_commit_39 : decode c_M_commit 39 = .ok (.ifCond .ne 6, 3) := by decide +kernel
theorem d_M_commit_42 : decode c_M_commit 42 = .ok (.bipush (-3), 2) := by decide +kernel
theorem d_M_commit_44 : decode c_M_commit 44 = .ok (.ireturn, 1) := by decide +kernel
theorem d_M_commit_45 : decode c_M_commit 45 = .ok (.aload_n 0, 1) := by decide +kernel
theorem d_M_commit_46 : decode c_M_commit 46 = .ok (.iload_n 3, 1) := by decide +kernel
theorem d_M_commit_47 : decode c_M_commit 47 = .ok (.invokevirtual 76, 3) := by decide +kernel
theorem d_M_commit_50 : decode c_M_commit 50 = .ok (.iconst 3, 1) := by decide +kernel
theorem d_M_commit_51 : decode c_M_commit 51 = .ok (.aload_n 0, 1) := by decide +kernel
theorem d_M_commit_52 : decode c_M_commit 52 = .ok (.getfield 18, 3) := by decide +kernel
theorem d_M_commit_55 : decode c_M_commit 55 = .ok (.getfield 63, 3) := by decide +kernel
theorem d_M_commit_58 : decode c_M_commit 58 = .ok (.imul, 1) := by decide +kernel
theorem d_M_commit_59 : decode c_M_commit 59 = .ok (.bipush 7, 2) := by decide +kernel
theorem d_M_commit_61 : decode c_M_commit 61 = .ok (.iadd, 1) := by decide +kernel
theorem d_M_commit_62 : decode c_M_commit 62 = .ok (.istore 4, 2) := by decide +kernel
theorem d_M_commit_64 : decode c_M_commit 64 = .ok (.iload_n 1, 1) := by decide +kernel
theorem d_M_commit_65 : decode c_M_commit 65 = .ok (.ifCond .lt 13, 3) := by decide +kernel
theorem d_M_commit_68 : decode c_M_commit 68 = .ok (.iload_n 1, 1) := by decide +kernel
theorem d_M_commit_69 : decode c_M_commit 69 = .ok (.iload 4, 2) := by decide +kernel
theorem d_M_commit_71 : decode c_M_commit 71 = .ok (.if_icmp .ge 7, 3) := by decide +kernel
theorem d_M_commit_74 : decode c_M_commit 74 = .ok (.iconst 1, 1) := by decide +kernel
theorem d_M_commit_75 : decode c_M_commit 75 = .ok (.goto 4, 3) := by decide +kernel
theorem d_M_commit_78 : decode c_M_commit 78 = .ok (.iconst 0, 1) := by decide +kernel
theorem d_M_commit_79 : decode c_M_commit 79 = .ok (.istore 5, 2) := by decide +kernel
theorem d_M_commit_81 : decode c_M_commit 81 = .ok (.iload 5, 2) := by decide +kernel
theorem d_M_commit_83 : decode c_M_commit 83 = .ok (.ifCond .eq 7, 3) := by decide +kernel
theorem d_M_commit_86 : decode c_M_commit 86 = .ok (.iload_n 1, 1) := by decide +kernel
theorem d_M_commit_87 : decode c_M_commit 87 = .ok (.goto 5, 3) := by decide +kernel
theorem d_M_commit_90 : decode c_M_commit 90 = .ok (.iload 4, 2) := by decide +kernel
theorem d_M_commit_92 : decode c_M_commit 92 = .ok (.istore 6, 2) := by decide +kernel
theorem d_M_commit_94 : decode c_M_commit 94 = .ok (.iconst 0, 1) := by decide +kernel
theorem d_M_commit_95 : decode c_M_commit 95 = .ok (.istore 7, 2) := by decide +kernel
theorem d_M_commit_97 : decode c_M_commit 97 = .ok (.iload 7, 2) := by decide +kernel
theorem d_M_commit_99 : decode c_M_commit 99 = .ok (.iload 6, 2) := by decide +kernel
theorem d_M_commit_101 : decode c_M_commit 101 = .ok (.if_icmp .ge 16, 3) := by decide +kernel
theorem d_M_commit_104 : decode c_M_commit 104 = .ok (.aload_n 0, 1) := by decide +kernel
theorem d_M_commit_105 : decode c_M_commit 105 = .ok (.iload_n 3, 1) := by decide +kernel
theorem d_M_commit_106 : decode c_M_commit 106 = .ok (.iload 7, 2) := by decide +kernel
theorem d_M_commit_108 : decode c_M_commit 108 = .ok (.invokevirtual 79, 3) := by decide +kernel
theorem d_M_commit_111 : decode c_M_commit 111 = .ok (.iinc 7 1, 3) := by decide +kernel
theorem d_M_commit_114 : decode c_M_commit 114 = .ok (.goto (-17), 3) := by decide +kernel
theorem d_M_commit_117 : decode c_M_commit 117 = .ok (.iload 5, 2) := by decide +kernel
theorem d_M_commit_119 : decode c_M_commit 119 = .ok (.ifCond .eq 12, 3) := by decide +kernel
theorem d_M_commit_122 : decode c_M_commit 122 = .ok (.aload_n 0, 1) := by decide +kernel
theorem d_M_commit_123 : decode c_M_commit 123 = .ok (.iload_n 3, 1) := by decide +kernel
theorem d_M_commit_124 : decode c_M_commit 124 = .ok (.iload_n 2, 1) := by decide +kernel
theorem d_M_commit_125 : decode c_M_commit 125 = .ok (.invokevirtual 82, 3) := by decide +kernel
theorem d_M_commit_128 : decode c_M_commit 128 = .ok (.bipush (-7), 2) := by decide +kernel
theorem d_M_commit_130 : decode c_M_commit 130 = .ok (.ireturn, 1) := by decide +kernel
theorem d_M_commit_131 : decode c_M_commit 131 = .ok (.aload_n 0, 1) := by decide +kernel
theorem d_M_commit_132 : decode c_M_commit 132 = .ok (.getfield 18, 3) := by decide +kernel
theorem d_M_commit_135 : decode c_M_commit 135 = .ok (.iconst 0, 1) := by decide +kernel
theorem d_M_commit_136 : decode c_M_commit 136 = .ok (.putfield 63, 3) := by decide +kernel
theorem d_M_commit_139 : decode c_M_commit 139 = .ok (.iconst 0, 1) := by decide +kernel
theorem d_M_commit_140 : decode c_M_commit 140 = .ok (.ireturn, 1) := by decide +kernel
theorem d_M_isUnpaired_0 : decode c_M_isUnpaired 0 = .ok (.aload_n 0, 1) := by decide +kernel
theorem d_M_isUnpaired_1 : decode c_M_isUnpaired 1 = .ok (.getfield 26, 3) := by decide +kernel
theorem d_M_isUnpaired_4 : decode c_M_isUnpaired 4 = .ok (.ifCond .ne 19, 3) := by decide +kernel
theorem d_M_isUnpaired_7 : decode c_M_isUnpaired 7 = .ok (.aload_n 0, 1) := by decide +kernel
theorem d_M_isUnpaired_8 : decode c_M_isUnpaired 8 = .ok (.getfield 11, 3) := by decide +kernel
theorem d_M_isUnpaired_11 : decode c_M_isUnpaired 11 = .ok (.iload_n 1, 1) := by decide +kernel
theorem d_M_isUnpaired_12 : decode c_M_isUnpaired 12 = .ok (.aaload, 1) := by decide +kernel
theorem d_M_isUnpaired_13 : decode c_M_isUnpaired 13 = .ok (.getfield 187, 3) := by decide +kernel
theorem d_M_isUnpaired_16 : decode c_M_isUnpaired 16 = .ok (.ifCond .ne 7, 3) := by decide +kernel
theorem d_M_isUnpaired_19 : decode c_M_isUnpaired 19 = .ok (.iconst 1, 1) := by decide +kernel
theorem d_M_isUnpaired_20 : decode c_M_isUnpaired 20 = .ok (.goto 4, 3) := by decide +kernel
theorem d_M_isUnpaired_23 : decode c_M_isUnpaired 23 = .ok (.iconst 0, 1) := by decide +kernel
theorem d_M_isUnpaired_24 : decode c_M_isUnpaired 24 = .ok (.ireturn, 1) := by decide +kernel
theorem d_M_goAlone_0 : decode c_M_goAlone 0 = .ok (.aload_n 0, 1) := by decide +kernel
theorem d_M_goAlone_1 : decode c_M_goAlone 1 = .ok (.getfield 51, 3) := by decide +kernel
theorem d_M_goAlone_4 : decode c_M_goAlone 4 = .ok (.dup, 1) := by decide +kernel
theorem d_M_goAlone_5 : decode c_M_goAlone 5 = .ok (.getfield 145, 3) := by decide +kernel
theorem d_M_goAlone_8 : decode c_M_goAlone 8 = .ok (.iconst 1, 1) := by decide +kernel
theorem d_M_goAlone_9 : decode c_M_goAlone 9 = .ok (.iadd, 1) := by decide +kernel
theorem d_M_goAlone_10 : decode c_M_goAlone 10 = .ok (.putfield 145, 3) := by decide +kernel
theorem d_M_goAlone_13 : decode c_M_goAlone 13 = .ok (.aload_n 0, 1) := by decide +kernel
theorem d_M_goAlone_14 : decode c_M_goAlone 14 = .ok (.getfield 11, 3) := by decide +kernel
theorem d_M_goAlone_17 : decode c_M_goAlone 17 = .ok (.iload_n 1, 1) := by decide +kernel
theorem d_M_goAlone_18 : decode c_M_goAlone 18 = .ok (.aaload, 1) := by decide +kernel
theorem d_M_goAlone_19 : decode c_M_goAlone 19 = .ok (.aload_n 0, 1) := by decide +kernel
theorem d_M_goAlone_20 : decode c_M_goAlone 20 = .ok (.getfield 11, 3) := by decide +kernel
theorem d_M_goAlone_23 : decode c_M_goAlone 23 = .ok (.iload_n 1, 1) := by decide +kernel
theorem d_M_goAlone_24 : decode c_M_goAlone 24 = .ok (.aaload, 1) := by decide +kernel
theorem d_M_goAlone_25 : decode c_M_goAlone 25 = .ok (.getfield 109, 3) := by decide +kernel
theorem d_M_goAlone_28 : decode c_M_goAlone 28 = .ok (.putfield 184, 3) := by decide +kernel
theorem d_M_goAlone_31 : decode c_M_goAlone 31 = .ok (.aload_n 0, 1) := by decide +kernel
theorem d_M_goAlone_32 : decode c_M_goAlone 32 = .ok (.getfield 11, 3) := by decide +kernel
theorem d_M_goAlone_35 : decode c_M_goAlone 35 = .ok (.iload_n 1, 1) := by decide +kernel
theorem d_M_goAlone_36 : decode c_M_goAlone 36 = .ok (.aaload, 1) := by decide +kernel
theorem d_M_goAlone_37 : decode c_M_goAlone 37 = .ok (.aload_n 0, 1) := by decide +kernel
theorem d_M_goAlone_38 : decode c_M_goAlone 38 = .ok (.getfield 51, 3) := by decide +kernel
theorem d_M_goAlone_41 : decode c_M_goAlone 41 = .ok (.getfield 145, 3) := by decide +kernel
theorem d_M_goAlone_44 : decode c_M_goAlone 44 = .ok (.putfield 109, 3) := by decide +kernel
theorem d_M_goAlone_47 : decode c_M_goAlone 47 = .ok (.aload_n 0, 1) := by decide +kernel
theorem d_M_goAlone_48 : decode c_M_goAlone 48 = .ok (.getfield 11, 3) := by decide +kernel
theorem d_M_goAlone_51 : decode c_M_goAlone 51 = .ok (.iload_n 1, 1) := by decide +kernel
theorem d_M_goAlone_52 : decode c_M_goAlone 52 = .ok (.aaload, 1) := by decide +kernel
theorem d_M_goAlone_53 : decode c_M_goAlone 53 = .ok (.iconst 1, 1) := by decide +kernel
theorem d_M_goAlone_54 : decode c_M_goAlone 54 = .ok (.putfield 187, 3) := by decide +kernel
theorem d_M_goAlone_57 : decode c_M_goAlone 57 = .ok (.return_, 1) := by decide +kernel
theorem d_M_doCommitStep_0 : decode c_M_doCommitStep 0 = .ok (.aload_n 0, 1) := by decide +kernel
theorem d_M_doCommitStep_1 : decode c_M_doCommitStep 1 = .ok (.getfield 18, 3) := by decide +kernel
theorem d_M_doCommitStep_4 : decode c_M_doCommitStep 4 = .ok (.getfield 63, 3) := by decide +kernel
theorem d_M_doCommitStep_7 : decode c_M_doCommitStep 7 = .ok (.istore_n 3, 1) := by decide +kernel
theorem d_M_doCommitStep_8 : decode c_M_doCommitStep 8 = .ok (.iconst 3, 1) := by decide +kernel
theorem d_M_doCommitStep_9 : decode c_M_doCommitStep 9 = .ok (.iconst 2, 1) := by decide +kernel
theorem d_M_doCommitStep_10 : decode c_M_doCommitStep 10 = .ok (.iload_n 3, 1) := by decide +kernel
theorem d_M_doCommitStep_11 : decode c_M_doCommitStep 11 = .ok (.imul, 1) := by decide +kernel
theorem d_M_doCommitStep_12 : decode c_M_doCommitStep 12 = .ok (.iadd, 1) := by decide +kernel
theorem d_M_doCommitStep_13 : decode c_M_doCommitStep 13 = .ok (.istore 4, 2) := by decide +kernel
theorem d_M_doCommitStep_15 : decode c_M_doCommitStep 15 = .ok (.iload 4, 2) := by decide +kernel
theorem d_M_doCommitStep_17 : decode c_M_doCommitStep 17 = .ok (.iconst 3, 1) := by decide +kernel
theorem d_M_doCommitStep_18 : decode c_M_doCommitStep 18 = .ok (.iadd, 1) := by decide +kernel
theorem d_M_doCommitStep_19 : decode c_M_doCommitStep 19 = .ok (.istore 5, 2) := by decide +kernel
theorem d_M_doCommitStep_21 : decode c_M_doCommitStep 21 = .ok (.iload_n 2, 1) := by decide +kernel
theorem d_M_doCommitStep_22 : decode c_M_doCommitStep 22 = .ok (.ifCond .eq 22, 3) := by decide +kernel
theorem d_M_doCommitStep_25 : decode c_M_doCommitStep 25 = .ok (.iload_n 2, 1) := by decide +kernel
theorem d_M_doCommitStep_26 : decode c_M_doCommitStep 26 = .ok (.iconst 2, 1) := by decide +kernel
theorem d_M_doCommitStep_27 : decode c_M_doCommitStep 27 = .ok (.if_icmp .eq 17, 3) := by decide +kernel
theorem d_M_doCommitStep_30 : decode c_M_doCommitStep 30 = .ok (.iload_n 2, 1) := by decide +kernel
theorem d_M_doCommitStep_31 : decode c_M_doCommitStep 31 = .ok (.iload 4, 2) := by decide +kernel
theorem d_M_doCommitStep_33 : decode c_M_doCommitStep 33 = .ok (.if_icmp .eq 11, 3) := by decide +kernel
theorem d_M_doCommitStep_36 : decode c_M_doCommitStep 36 = .ok (.iload_n 2, 1) := by decide +kernel
theorem d_M_doCommitStep_37 : decode c_M_doCommitStep 37 = .ok (.iload 4, 2) := by decide +kernel
theorem d_M_doCommitStep_39 : decode c_M_doCommitStep 39 = .ok (.iconst 2, 1) := by decide +kernel
theorem d_M_doCommitStep_40 : decode c_M_doCommitStep 40 = .ok (.iadd, 1) := by decide +kernel
theorem d_M_doCommitStep_41 : decode c_M_doCommitStep 41 = .ok (.if_icmp .ne 11, 3) := by decide +kernel
theorem d_M_doCommitStep_44 : decode c_M_doCommitStep 44 = .ok (.aload_n 0, 1) := by decide +kernel
theorem d_M_doCommitStep_45 : decode c_M_doCommitStep 45 = .ok (.iload_n 1, 1) := by decide +kernel
theorem d_M_doCommitStep_46 : decode c_M_doCommitStep 46 = .ok (.invokevirtual 155, 3) := by decide +kernel
theorem d_M_doCommitStep_49 : decode c_M_doCommitStep 49 = .ok (.goto 139, 3) := by decide +kernel
theorem d_M_doCommitStep_52 : decode c_M_doCommitStep 52 = .ok (.iload_n 2, 1) := by decide +kernel
theorem d_M_doCommitStep_53 : decode c_M_doCommitStep 53 = .ok (.iconst 1, 1) := by decide +kernel
theorem d_M_doCommitStep_54 : decode c_M_doCommitStep 54 = .ok (.if_icmp .ne 14, 3) := by decide +kernel
theorem d_M_doCommitStep_57 : decode c_M_doCommitStep 57 = .ok (.aload_n 0, 1) := by decide +kernel
theorem d_M_doCommitStep_58 : decode c_M_doCommitStep 58 = .ok (.iload_n 1, 1) := by decide +kernel
theorem d_M_doCommitStep_59 : decode c_M_doCommitStep 59 = .ok (.bipush 24, 2) := by decide +kernel
theorem d_M_doCommitStep_61 : decode c_M_doCommitStep 61 = .ok (.iconst 0, 1) := by decide +kernel
theorem d_M_doCommitStep_62 : decode c_M_doCommitStep 62 = .ok (.invokevirtual 205, 3) := by decide +kernel
theorem d_M_doCommitStep_65 : decode c_M_doCommitStep 65 = .ok (.goto 123, 3) := by decide +kernel
theorem d_M_doCommitStep_68 : decode c_M_doCommitStep 68 = .ok (.iload_n 2, 1) := by decide +kernel
theorem d_M_doCommitStep_69 : decode c_M_doCommitStep 69 = .ok (.iload 4, 2) := by decide +kernel
theorem d_M_doCommitStep_71 : decode c_M_doCommitStep 71 = .ok (.if_icmp .ge 59, 3) := by decide +kernel
theorem d_M_doCommitStep_74 : decode c_M_doCommitStep 74 = .ok (.iload_n 2, 1) := by decide +kernel
theorem d_M_doCommitStep_75 : decode c_M_doCommitStep 75 = .ok (.iconst 3, 1) := by decide +kernel
theorem d_M_doCommitStep_76 : decode c_M_doCommitStep 76 = .ok (.isub, 1) := by decide +kernel
theorem d_M_doCommitStep_77 : decode c_M_doCommitStep 77 = .ok (.istore 6, 2) := by decide +kernel
theorem d_M_doCommitStep_79 : decode c_M_doCommitStep 79 = .ok (.iload 6, 2) := by decide +kernel
theorem d_M_doCommitStep_81 : decode c_M_doCommitStep 81 = .ok (.iconst 2, 1) := by decide +kernel
theorem d_M_doCommitStep_82 : decode c_M_doCommitStep 82 = .ok (.irem, 1) := by decide +kernel
theorem d_M_doCommitStep_83 : decode c_M_doCommitStep 83 = .ok (.ifCond .ne 18, 3) := by decide +kernel
theorem d_M_doCommitStep_86 : decode c_M_doCommitStep 86 = .ok (.aload_n 0, 1) := by decide +kernel
theorem d_M_doCommitStep_87 : decode c_M_doCommitStep 87 = .ok (.getfield 18, 3) := by decide +kernel
theorem d_M_doCommitStep_90 : decode c_M_doCommitStep 90 = .ok (.getfield 209, 3) := by decide +kernel
theorem d_M_doCommitStep_93 : decode c_M_doCommitStep 93 = .ok (.iload 6, 2) := by decide +kernel
theorem d_M_doCommitStep_95 : decode c_M_doCommitStep 95 = .ok (.iconst 2, 1) := by decide +kernel
theorem d_M_doCommitStep_96 : decode c_M_doCommitStep 96 = .ok (.idiv, 1) := by decide +kernel
theorem d_M_doCommitStep_97 : decode c_M_doCommitStep 97 = .ok (.iaload, 1) := by decide +kernel
theorem d_M_doCommitStep_98 : decode c_M_doCommitStep 98 = .ok (.goto 15, 3) := by decide +kernel
theorem d_M_doCommitStep_101 : decode c_M_doCommitStep 101 = .ok (.aload_n 0, 1) := by decide +kernel
theorem d_M_doCommitStep_102 : decode c_M_doCommitStep 102 = .ok (.getfield 18, 3) := by decide +kernel
theorem d_M_doCommitStep_105 : decode c_M_doCommitStep 105 = .ok (.getfield 212, 3) := by decide +kernel
theorem d_M_doCommitStep_108 : decode c_M_doCommitStep 108 = .ok (.iload 6, 2) := by decide +kernel
theorem d_M_doCommitStep_110 : decode c_M_doCommitStep 110 = .ok (.iconst 2, 1) := by decide +kernel
theorem d_M_doCommitStep_111 : decode c_M_doCommitStep 111 = .ok (.idiv, 1) := by decide +kernel
theorem d_M_doCommitStep_112 : decode c_M_doCommitStep 112 = .ok (.iaload, 1) := by decide +kernel
theorem d_M_doCommitStep_113 : decode c_M_doCommitStep 113 = .ok (.istore 7, 2) := by decide +kernel
theorem d_M_doCommitStep_115 : decode c_M_doCommitStep 115 = .ok (.aload_n 0, 1) := by decide +kernel
theorem d_M_doCommitStep_116 : decode c_M_doCommitStep 116 = .ok (.iload_n 1, 1) := by decide +kernel
theorem d_M_doCommitStep_117 : decode c_M_doCommitStep 117 = .ok (.bipush 25, 2) := by decide +kernel
theorem d_M_doCommitStep_119 : decode c_M_doCommitStep 119 = .ok (.iload 6, 2) := by decide +kernel
theorem d_M_doCommitStep_121 : decode c_M_doCommitStep 121 = .ok (.iadd, 1) := by decide +kernel
theorem d_M_doCommitStep_122 : decode c_M_doCommitStep 122 = .ok (.iload 7, 2) := by decide +kernel
theorem d_M_doCommitStep_124 : decode c_M_doCommitStep 124 = .ok (.invokevirtual 205, 3) := by decide +kernel
theorem d_M_doCommitStep_127 : decode c_M_doCommitStep 127 = .ok (.goto 61, 3) := by decide +kernel
theorem d_M_doCommitStep_130 : decode c_M_doCommitStep 130 = .ok (.iload_n 2, 1) := by decide +kernel
theorem d_M_doCommitStep_131 : decode c_M_doCommitStep 131 = .ok (.iload 4, 2) := by decide +kernel
theorem d_M_doCommitStep_133 : decode c_M_doCommitStep 133 = .ok (.iconst 1, 1) := by decide +kernel
theorem d_M_doCommitStep_134 : decode c_M_doCommitStep 134 = .ok (.iadd, 1) := by decide +kernel
theorem d_M_doCommitStep_135 : decode c_M_doCommitStep 135 = .ok (.if_icmp .ne 14, 3) := by decide +kernel
theorem d_M_doCommitStep_138 : decode c_M_doCommitStep 138 = .ok (.aload_n 0, 1) := by decide +kernel
theorem d_M_doCommitStep_139 : decode c_M_doCommitStep 139 = .ok (.iload_n 1, 1) := by decide +kernel
theorem d_M_doCommitStep_140 : decode c_M_doCommitStep 140 = .ok (.bipush 24, 2) := by decide +kernel
theorem d_M_doCommitStep_142 : decode c_M_doCommitStep 142 = .ok (.iload_n 3, 1) := by decide +kernel
theorem d_M_doCommitStep_143 : decode c_M_doCommitStep 143 = .ok (.invokevirtual 205, 3) := by decide +kernel
theorem d_M_doCommitStep_146 : decode c_M_doCommitStep 146 = .ok (.goto 42, 3) := by decide +kernel
theorem d_M_doCommitStep_149 : decode c_M_doCommitStep 149 = .ok (.iload_n 2, 1) := by decide +kernel
theorem d_M_doCommitStep_150 : decode c_M_doCommitStep 150 = .ok (.iload 5, 2) := by decide +kernel
theorem d_M_doCommitStep_152 : decode c_M_doCommitStep 152 = .ok (.iload_n 3, 1) := by decide +kernel
theorem d_M_doCommitStep_153 : decode c_M_doCommitStep 153 = .ok (.iadd, 1) := by decide +kernel
theorem d_M_doCommitStep_154 : decode c_M_doCommitStep 154 = .ok (.if_icmp .ge 34, 3) := by decide +kernel
theorem d_M_doCommitStep_157 : decode c_M_doCommitStep 157 = .ok (.iload_n 2, 1) := by decide +kernel
theorem d_M_doCommitStep_158 : decode c_M_doCommitStep 158 = .ok (.iload 5, 2) := by decide +kernel
theorem d_M_doCommitStep_160 : decode c_M_doCommitStep 160 = .ok (.isub, 1) := by decide +kernel
theorem d_M_doCommitStep_161 : decode c_M_doCommitStep 161 = .ok (.istore 6, 2) := by decide +kernel
theorem d_M_doCommitStep_163 : decode c_M_doCommitStep 163 = .ok (.aload_n 0, 1) := by decide +kernel
theorem d_M_doCommitStep_164 : decode c_M_doCommitStep 164 = .ok (.iload_n 1, 1) := by decide +kernel
theorem d_M_doCommitStep_165 : decode c_M_doCommitStep 165 = .ok (.aload_n 0, 1) := by decide +kernel
theorem d_M_doCommitStep_166 : decode c_M_doCommitStep 166 = .ok (.getfield 18, 3) := by decide +kernel
theorem d_M_doCommitStep_169 : decode c_M_doCommitStep 169 = .ok (.getfield 209, 3) := by decide +kernel
theorem d_M_doCommitStep_172 : decode c_M_doCommitStep 172 = .ok (.iload 6, 2) := by decide +kernel
theorem d_M_doCommitStep_174 : decode c_M_doCommitStep 174 = .ok (.iaload, 1) := by decide +kernel
theorem d_M_doCommitStep_175 : decode c_M_doCommitStep 175 = .ok (.aload_n 0, 1) := by decide +kernel
theorem d_M_doCommitStep_176 : decode c_M_doCommitStep 176 = .ok (.getfield 18, 3) := by decide +kernel
theorem d_M_doCommitStep_179 : decode c_M_doCommitStep 179 = .ok (.getfield 212, 3) := by decide +kernel
theorem d_M_doCommitStep_182 : decode c_M_doCommitStep 182 = .ok (.iload 6, 2) := by decide +kernel
theorem d_M_doCommitStep_184 : decode c_M_doCommitStep 184 = .ok (.iaload, 1) := by decide +kernel
theorem d_M_doCommitStep_185 : decode c_M_doCommitStep 185 = .ok (.invokevirtual 205, 3) := by decide +kernel
theorem d_M_doCommitStep_188 : decode c_M_doCommitStep 188 = .ok (.return_, 1) := by decide +kernel
theorem d_M_flushBy_0 : decode c_M_flushBy 0 = .ok (.aload_n 0, 1) := by decide +kernel
theorem d_M_flushBy_1 : decode c_M_flushBy 1 = .ok (.getfield 11, 3) := by decide +kernel
theorem d_M_flushBy_4 : decode c_M_flushBy 4 = .ok (.iload_n 1, 1) := by decide +kernel
theorem d_M_flushBy_5 : decode c_M_flushBy 5 = .ok (.aaload, 1) := by decide +kernel
theorem d_M_flushBy_6 : decode c_M_flushBy 6 = .ok (.getfield 87, 3) := by decide +kernel
theorem d_M_flushBy_9 : decode c_M_flushBy 9 = .ok (.invokevirtual 202, 3) := by decide +kernel
theorem d_M_flushBy_12 : decode c_M_flushBy 12 = .ok (.aload_n 0, 1) := by decide +kernel
theorem d_M_flushBy_13 : decode c_M_flushBy 13 = .ok (.getfield 26, 3) := by decide +kernel
theorem d_M_flushBy_16 : decode c_M_flushBy 16 = .ok (.ifCond .eq 17, 3) := by decide +kernel
theorem d_M_flushBy_19 : decode c_M_flushBy 19 = .ok (.aload_n 0, 1) := by decide +kernel
theorem d_M_flushBy_20 : decode c_M_flushBy 20 = .ok (.getfield 11, 3) := by decide +kernel
theorem d_M_flushBy_23 : decode c_M_flushBy 23 = .ok (.iconst 1, 1) := by decide +kernel
theorem d_M_flushBy_24 : decode c_M_flushBy 24 = .ok (.iload_n 1, 1) := by decide +kernel
theorem d_M_flushBy_25 : decode c_M_flushBy 25 = .ok (.isub, 1) := by decide +kernel
theorem d_M_flushBy_26 : decode c_M_flushBy 26 = .ok (.aaload, 1) := by decide +kernel
theorem d_M_flushBy_27 : decode c_M_flushBy 27 = .ok (.getfield 87, 3) := by decide +kernel
theorem d_M_flushBy_30 : decode c_M_flushBy 30 = .ok (.invokevirtual 202, 3) := by decide +kernel
theorem d_M_flushBy_33 : decode c_M_flushBy 33 = .ok (.return_, 1) := by decide +kernel
theorem d_D_flush_0 : decode c_D_flush 0 = .ok (.aload_n 0, 1) := by decide +kernel
theorem d_D_flush_1 : decode c_D_flush 1 = .ok (.iconst (-1), 1) := by decide +kernel
theorem d_D_flush_2 : decode c_D_flush 2 = .ok (.invokevirtual 26, 3) := by decide +kernel
theorem d_D_flush_5 : decode c_D_flush 5 = .ok (.return_, 1) := by decide +kernel
theorem d_D_settle_0 : decode c_D_settle 0 = .ok (.iconst 0, 1) := by decide +kernel
theorem d_D_settle_1 : decode c_D_settle 1 = .ok (.istore_n 2, 1) := by decide +kernel
theorem d_D_settle_2 : decode c_D_settle 2 = .ok (.iload_n 2, 1) := by decide +kernel
theorem d_D_settle_3 : decode c_D_settle 3 = .ok (.bipush 32, 2) := by decide +kernel
theorem d_D_settle_5 : decode c_D_settle 5 = .ok (.if_icmp .ge 38, 3) := by decide +kernel
theorem d_D_settle_8 : decode c_D_settle 8 = .ok (.aload_n 0, 1) := by decide +kernel
theorem d_D_settle_9 : decode c_D_settle 9 = .ok (.iload_n 2, 1) := by decide +kernel
theorem d_D_settle_10 : decode c_D_settle 10 = .ok (.invokevirtual 22, 3) := by decide +kernel
theorem d_D_settle_13 : decode c_D_settle 13 = .ok (.ifCond .eq 24, 3) := by decide +kernel
theorem d_D_settle_16 : decode c_D_settle 16 = .ok (.iload_n 1, 1) := by decide +kernel
theorem d_D_settle_17 : decode c_D_settle 17 = .ok (.iload_n 2, 1) := by decide +kernel
theorem d_D_settle_18 : decode c_D_settle 18 = .ok (.iushr, 1) := by decide +kernel
theorem d_D_settle_19 : decode c_D_settle 19 = .ok (.iconst 1, 1) := by decide +kernel
theorem d_D_settle_20 : decode c_D_settle 20 = .ok (.iand, 1) := by decide +kernel
theorem d_D_settle_21 : decode c_D_settle 21 = .ok (.iconst 1, 1) := by decide +kernel
theorem d_D_settle_22 : decode c_D_settle 22 = .ok (.if_icmp .ne 15, 3) := by decide +kernel
theorem d_D_settle_25 : decode c_D_settle 25 = .ok (.aload_n 0, 1) := by decide +kernel
theorem d_D_settle_26 : decode c_D_settle 26 = .ok (.getfield 9, 3) := by decide +kernel
theorem d_D_settle_29 : decode c_D_settle 29 = .ok (.iload_n 2, 1) := by decide +kernel
theorem d_D_settle_30 : decode c_D_settle 30 = .ok (.aload_n 0, 1) := by decide +kernel
theorem d_D_settle_31 : decode c_D_settle 31 = .ok (.getfield 15, 3) := by decide +kernel
theorem d_D_settle_34 : decode c_D_settle 34 = .ok (.iload_n 2, 1) := by decide +kernel
theorem d_D_settle_35 : decode c_D_settle 35 = .ok (.iaload, 1) := by decide +kernel
theorem d_D_settle_36 : decode c_D_settle 36 = .ok (.iastore, 1) := by decide +kernel
theorem d_D_settle_37 : decode c_D_settle 37 = .ok (.iinc 2 1, 3) := by decide +kernel
theorem d_D_settle_40 : decode c_D_settle 40 = .ok (.goto (-38), 3) := by decide +kernel
theorem d_D_settle_43 : decode c_D_settle 43 = .ok (.aload_n 0, 1) := by decide +kernel
theorem d_D_settle_44 : decode c_D_settle 44 = .ok (.iconst 0, 1) := by decide +kernel
theorem d_D_settle_45 : decode c_D_settle 45 = .ok (.putfield 18, 3) := by decide +kernel
theorem d_D_settle_48 : decode c_D_settle 48 = .ok (.return_, 1) := by decide +kernel
theorem d_D_isCached_0 : decode c_D_isCached 0 = .ok (.aload_n 0, 1) := by decide +kernel
theorem d_D_isCached_1 : decode c_D_isCached 1 = .ok (.getfield 18, 3) := by decide +kernel
theorem d_D_isCached_4 : decode c_D_isCached 4 = .ok (.iload_n 1, 1) := by decide +kernel
theorem d_D_isCached_5 : decode c_D_isCached 5 = .ok (.iushr, 1) := by decide +kernel
theorem d_D_isCached_6 : decode c_D_isCached 6 = .ok (.iconst 1, 1) := by decide +kernel
theorem d_D_isCached_7 : decode c_D_isCached 7 = .ok (.iand, 1) := by decide +kernel
theorem d_D_isCached_8 : decode c_D_isCached 8 = .ok (.iconst 1, 1) := by decide +kernel
theorem d_D_isCached_9 : decode c_D_isCached 9 = .ok (.if_icmp .ne 7, 3) := by decide +kernel
theorem d_D_isCached_12 : decode c_D_isCached 12 = .ok (.iconst 1, 1) := by decide +kernel
theorem d_D_isCached_13 : decode c_D_isCached 13 = .ok (.goto 4, 3) := by decide +kernel
theorem d_D_isCached_16 : decode c_D_isCached 16 = .ok (.iconst 0, 1) := by decide +kernel
theorem d_D_isCached_17 : decode c_D_isCached 17 = .ok (.ireturn, 1) := by decide +kernel
theorem d_M_writeBy_0 : decode c_M_writeBy 0 = .ok (.aload_n 0, 1) := by decide +kernel
theorem d_M_writeBy_1 : decode c_M_writeBy 1 = .ok (.getfield 11, 3) := by decide +kernel
theorem d_M_writeBy_4 : decode c_M_writeBy 4 = .ok (.iload_n 1, 1) := by decide +kernel
theorem d_M_writeBy_5 : decode c_M_writeBy 5 = .ok (.aaload, 1) := by decide +kernel
theorem d_M_writeBy_6 : decode c_M_writeBy 6 = .ok (.getfield 87, 3) := by decide +kernel
theorem d_M_writeBy_9 : decode c_M_writeBy 9 = .ok (.iload_n 2, 1) := by decide +kernel
theorem d_M_writeBy_10 : decode c_M_writeBy 10 = .ok (.iload_n 3, 1) := by decide +kernel
theorem d_M_writeBy_11 : decode c_M_writeBy 11 = .ok (.invokevirtual 199, 3) := by decide +kernel
theorem d_M_writeBy_14 : decode c_M_writeBy 14 = .ok (.aload_n 0, 1) := by decide +kernel
theorem d_M_writeBy_15 : decode c_M_writeBy 15 = .ok (.getfield 26, 3) := by decide +kernel
theorem d_M_writeBy_18 : decode c_M_writeBy 18 = .ok (.ifCond .eq 22, 3) := by decide +kernel
theorem d_M_writeBy_21 : decode c_M_writeBy 21 = .ok (.aload_n 0, 1) := by decide +kernel
theorem d_M_writeBy_22 : decode c_M_writeBy 22 = .ok (.getfield 11, 3) := by decide +kernel
theorem d_M_writeBy_25 : decode c_M_writeBy 25 = .ok (.iconst 1, 1) := by decide +kernel
theorem d_M_writeBy_26 : decode c_M_writeBy 26 = .ok (.iload_n 1, 1) := by decide +kernel
theorem d_M_writeBy_27 : decode c_M_writeBy 27 = .ok (.isub, 1) := by decide +kernel
theorem d_M_writeBy_28 : decode c_M_writeBy 28 = .ok (.aaload, 1) := by decide +kernel
theorem d_M_writeBy_29 : decode c_M_writeBy 29 = .ok (.getfield 87, 3) := by decide +kernel
theorem d_M_writeBy_32 : decode c_M_writeBy 32 = .ok (.iload_n 2, 1) := by decide +kernel
theorem d_M_writeBy_33 : decode c_M_writeBy 33 = .ok (.iload_n 3, 1) := by decide +kernel
theorem d_M_writeBy_34 : decode c_M_writeBy 34 = .ok (.invokevirtual 199, 3) := by decide +kernel
theorem d_M_writeBy_37 : decode c_M_writeBy 37 = .ok (.goto 22, 3) := by decide +kernel
theorem d_M_writeBy_40 : decode c_M_writeBy 40 = .ok (.aload_n 0, 1) := by decide +kernel
theorem d_M_writeBy_41 : decode c_M_writeBy 41 = .ok (.getfield 11, 3) := by decide +kernel
theorem d_M_writeBy_44 : decode c_M_writeBy 44 = .ok (.iload_n 1, 1) := by decide +kernel
theorem d_M_writeBy_45 : decode c_M_writeBy 45 = .ok (.aaload, 1) := by decide +kernel
theorem d_M_writeBy_46 : decode c_M_writeBy 46 = .ok (.dup, 1) := by decide +kernel
theorem d_M_writeBy_47 : decode c_M_writeBy 47 = .ok (.getfield 129, 3) := by decide +kernel
theorem d_M_writeBy_50 : decode c_M_writeBy 50 = .ok (.iconst 1, 1) := by decide +kernel
theorem d_M_writeBy_51 : decode c_M_writeBy 51 = .ok (.iload_n 2, 1) := by decide +kernel
theorem d_M_writeBy_52 : decode c_M_writeBy 52 = .ok (.iconst 4, 1) := by decide +kernel
theorem d_M_writeBy_53 : decode c_M_writeBy 53 = .ok (.idiv, 1) := by decide +kernel
theorem d_M_writeBy_54 : decode c_M_writeBy 54 = .ok (.ishl, 1) := by decide +kernel
theorem d_M_writeBy_55 : decode c_M_writeBy 55 = .ok (.ior, 1) := by decide +kernel
theorem d_M_writeBy_56 : decode c_M_writeBy 56 = .ok (.putfield 129, 3) := by decide +kernel
theorem d_M_writeBy_59 : decode c_M_writeBy 59 = .ok (.return_, 1) := by decide +kernel
theorem d_D_put_0 : decode c_D_put 0 = .ok (.aload_n 0, 1) := by decide +kernel
theorem d_D_put_1 : decode c_D_put 1 = .ok (.getfield 15, 3) := by decide +kernel
theorem d_D_put_4 : decode c_D_put 4 = .ok (.iload_n 1, 1) := by decide +kernel
theorem d_D_put_5 : decode c_D_put 5 = .ok (.iload_n 2, 1) := by decide +kernel
theorem d_D_put_6 : decode c_D_put 6 = .ok (.iastore, 1) := by decide +kernel
theorem d_D_put_7 : decode c_D_put 7 = .ok (.aload_n 0, 1) := by decide +kernel
theorem d_D_put_8 : decode c_D_put 8 = .ok (.dup, 1) := by decide +kernel
theorem d_D_put_9 : decode c_D_put 9 = .ok (.getfield 18, 3) := by decide +kernel
theorem d_D_put_12 : decode c_D_put 12 = .ok (.iconst 1, 1) := by decide +kernel
theorem d_D_put_13 : decode c_D_put 13 = .ok (.iload_n 1, 1) := by decide +kernel
theorem d_D_put_14 : decode c_D_put 14 = .ok (.ishl, 1) := by decide +kernel
theorem d_D_put_15 : decode c_D_put 15 = .ok (.ior, 1) := by decide +kernel
theorem d_D_put_16 : decode c_D_put 16 = .ok (.putfield 18, 3) := by decide +kernel
theorem d_D_put_19 : decode c_D_put 19 = .ok (.return_, 1) := by decide +kernel
theorem d_M_bringDown_0 : decode c_M_bringDown 0 = .ok (.aload_n 0, 1) := by decide +kernel
theorem d_M_bringDown_1 : decode c_M_bringDown 1 = .ok (.getfield 11, 3) := by decide +kernel
theorem d_M_bringDown_4 : decode c_M_bringDown 4 = .ok (.iload_n 1, 1) := by decide +kernel
theorem d_M_bringDown_5 : decode c_M_bringDown 5 = .ok (.aaload, 1) := by decide +kernel
theorem d_M_bringDown_6 : decode c_M_bringDown 6 = .ok (.getfield 87, 3) := by decide +kernel
theorem d_M_bringDown_9 : decode c_M_bringDown 9 = .ok (.invokevirtual 193, 3) := by decide +kernel
theorem d_M_bringDown_12 : decode c_M_bringDown 12 = .ok (.istore_n 3, 1) := by decide +kernel
theorem d_M_bringDown_13 : decode c_M_bringDown 13 = .ok (.aload_n 0, 1) := by decide +kernel
theorem d_M_bringDown_14 : decode c_M_bringDown 14 = .ok (.getfield 11, 3) := by decide +kernel
theorem d_M_bringDown_17 : decode c_M_bringDown 17 = .ok (.iload_n 1, 1) := by decide +kernel
theorem d_M_bringDown_18 : decode c_M_bringDown 18 = .ok (.aaload, 1) := by decide +kernel
theorem d_M_bringDown_19 : decode c_M_bringDown 19 = .ok (.dup, 1) := by decide +kernel
theorem d_M_bringDown_20 : decode c_M_bringDown 20 = .ok (.getfield 129, 3) := by decide +kernel
theorem d_M_bringDown_23 : decode c_M_bringDown 23 = .ok (.iload_n 3, 1) := by decide +kernel
theorem d_M_bringDown_24 : decode c_M_bringDown 24 = .ok (.ior, 1) := by decide +kernel
theorem d_M_bringDown_25 : decode c_M_bringDown 25 = .ok (.putfield 129, 3) := by decide +kernel
theorem d_M_bringDown_28 : decode c_M_bringDown 28 = .ok (.aload_n 0, 1) := by decide +kernel
theorem d_M_bringDown_29 : decode c_M_bringDown 29 = .ok (.getfield 26, 3) := by decide +kernel
theorem d_M_bringDown_32 : decode c_M_bringDown 32 = .ok (.ifCond .eq 20, 3) := by decide +kernel
theorem d_M_bringDown_35 : decode c_M_bringDown 35 = .ok (.aload_n 0, 1) := by decide +kernel
theorem d_M_bringDown_36 : decode c_M_bringDown 36 = .ok (.getfield 11, 3) := by decide +kernel
theorem d_M_bringDown_39 : decode c_M_bringDown 39 = .ok (.iconst 1, 1) := by decide +kernel
theorem d_M_bringDown_40 : decode c_M_bringDown 40 = .ok (.iload_n 1, 1) := by decide +kernel
theorem d_M_bringDown_41 : decode c_M_bringDown 41 = .ok (.isub, 1) := by decide +kernel
theorem d_M_bringDown_42 : decode c_M_bringDown 42 = .ok (.aaload, 1) := by decide +kernel
theorem d_M_bringDown_43 : decode c_M_bringDown 43 = .ok (.dup, 1) := by decide +kernel
theorem d_M_bringDown_44 : decode c_M_bringDown 44 = .ok (.getfield 129, 3) := by decide +kernel
theorem d_M_bringDown_47 : decode c_M_bringDown 47 = .ok (.iload_n 3, 1) := by decide +kernel
theorem d_M_bringDown_48 : decode c_M_bringDown 48 = .ok (.ior, 1) := by decide +kernel
theorem d_M_bringDown_49 : decode c_M_bringDown 49 = .ok (.putfield 129, 3) := by decide +kernel
theorem d_M_bringDown_52 : decode c_M_bringDown 52 = .ok (.aload_n 0, 1) := by decide +kernel
theorem d_M_bringDown_53 : decode c_M_bringDown 53 = .ok (.getfield 11, 3) := by decide +kernel
theorem d_M_bringDown_56 : decode c_M_bringDown 56 = .ok (.iload_n 1, 1) := by decide +kernel
theorem d_M_bringDown_57 : decode c_M_bringDown 57 = .ok (.aaload, 1) := by decide +kernel
theorem d_M_bringDown_58 : decode c_M_bringDown 58 = .ok (.getfield 87, 3) := by decide +kernel
theorem d_M_bringDown_61 : decode c_M_bringDown 61 = .ok (.iload_n 2, 1) := by decide +kernel
theorem d_M_bringDown_62 : decode c_M_bringDown 62 = .ok (.invokevirtual 196, 3) := by decide +kernel
theorem d_M_bringDown_65 : decode c_M_bringDown 65 = .ok (.aload_n 0, 1) := by decide +kernel
theorem d_M_bringDown_66 : decode c_M_bringDown 66 = .ok (.getfield 11, 3) := by decide +kernel
theorem d_M_bringDown_69 : decode c_M_bringDown 69 = .ok (.iload_n 1, 1) := by decide +kernel
theorem d_M_bringDown_70 : decode c_M_bringDown 70 = .ok (.aaload, 1) := by decide +kernel
theorem d_M_bringDown_71 : decode c_M_bringDown 71 = .ok (.iconst 0, 1) := by decide +kernel
theorem d_M_bringDown_72 : decode c_M_bringDown 72 = .ok (.putfield 100, 3) := by decide +kernel
theorem d_M_bringDown_75 : decode c_M_bringDown 75 = .ok (.aload_n 0, 1) := by decide +kernel
theorem d_M_bringDown_76 : decode c_M_bringDown 76 = .ok (.iload_n 1, 1) := by decide +kernel
theorem d_M_bringDown_77 : decode c_M_bringDown 77 = .ok (.invokevirtual 146, 3) := by decide +kernel
theorem d_M_bringDown_80 : decode c_M_bringDown 80 = .ok (.aload_n 0, 1) := by decide +kernel
theorem d_M_bringDown_81 : decode c_M_bringDown 81 = .ok (.invokevirtual 106, 3) := by decide +kernel
theorem d_M_bringDown_84 : decode c_M_bringDown 84 = .ok (.return_, 1) := by decide +kernel
theorem d_D_cachedExtents_0 : decode c_D_cachedExtents 0 = .ok (.iconst 0, 1) := by decide +kernel
theorem d_D_cachedExtents_1 : decode c_D_cachedExtents 1 = .ok (.istore_n 1, 1) := by decide +kernel
theorem d_D_cachedExtents_2 : decode c_D_cachedExtents 2 = .ok (.iconst 0, 1) := by decide +kernel
theorem d_D_cachedExtents_3 : decode c_D_cachedExtents 3 = .ok (.istore_n 2, 1) := by decide +kernel
theorem d_D_cachedExtents_4 : decode c_D_cachedExtents 4 = .ok (.iload_n 2, 1) := by decide +kernel
theorem d_D_cachedExtents_5 : decode c_D_cachedExtents 5 = .ok (.bipush 8, 2) := by decide +kernel
theorem d_D_cachedExtents_7 : decode c_D_cachedExtents 7 = .ok (.if_icmp .ge 29, 3) := by decide +kernel
theorem d_D_cachedExtents_10 : decode c_D_cachedExtents 10 = .ok (.aload_n 0, 1) := by decide +kernel
theorem d_D_cachedExtents_11 : decode c_D_cachedExtents 11 = .ok (.getfield 18, 3) := by decide +kernel
theorem d_D_cachedExtents_14 : decode c_D_cachedExtents 14 = .ok (.iload_n 2, 1) := by decide +kernel
theorem d_D_cachedExtents_15 : decode c_D_cachedExtents 15 = .ok (.iconst 4, 1) := by decide +kernel
theorem d_D_cachedExtents_16 : decode c_D_cachedExtents 16 = .ok (.imul, 1) := by decide +kernel
theorem d_D_cachedExtents_17 : decode c_D_cachedExtents 17 = .ok (.iushr, 1) := by decide +kernel
theorem d_D_cachedExtents_18 : decode c_D_cachedExtents 18 = .ok (.bipush 15, 2) := by decide +kernel
theorem d_D_cachedExtents_20 : decode c_D_cachedExtents 20 = .ok (.iand, 1) := by decide +kernel
theorem d_D_cachedExtents_21 : decode c_D_cachedExtents 21 = .ok (.ifCond .eq 9, 3) := by decide +kernel
theorem d_D_cachedExtents_24 : decode c_D_cachedExtents 24 = .ok (.iload_n 1, 1) := by decide +kernel
theorem d_D_cachedExtents_25 : decode c_D_cachedExtents 25 = .ok (.iconst 1, 1) := by decide +kernel
theorem d_D_cachedExtents_26 : decode c_D_cachedExtents 26 = .ok (.iload_n 2, 1) := by decide +kernel
theorem d_D_cachedExtents_27 : decode c_D_cachedExtents 27 = .ok (.ishl, 1) := by decide +kernel
theorem d_D_cachedExtents_28 : decode c_D_cachedExtents 28 = .ok (.ior, 1) := by decide +kernel
theorem d_D_cachedExtents_29 : decode c_D_cachedExtents 29 = .ok (.istore_n 1, 1) := by decide +kernel
theorem d_D_cachedExtents_30 : decode c_D_cachedExtents 30 = .ok (.iinc 2 1, 3) := by decide +kernel
theorem d_D_cachedExtents_33 : decode c_D_cachedExtents 33 = .ok (.goto (-29), 3) := by decide +kernel
theorem d_D_cachedExtents_36 : decode c_D_cachedExtents 36 = .ok (.iload_n 1, 1) := by decide +kernel
theorem d_D_cachedExtents_37 : decode c_D_cachedExtents 37 = .ok (.ireturn, 1) := by decide +kernel
theorem d_M_makeSecondary_0 : decode c_M_makeSecondary 0 = .ok (.aload_n 0, 1) := by decide +kernel
theorem d_M_makeSecondary_1 : decode c_M_makeSecondary 1 = .ok (.getfield 11, 3) := by decide +kernel
theorem d_M_makeSecondary_4 : decode c_M_makeSecondary 4 = .ok (.iload_n 1, 1) := by decide +kernel
theorem d_M_makeSecondary_5 : decode c_M_makeSecondary 5 = .ok (.aaload, 1) := by decide +kernel
theorem d_M_makeSecondary_6 : decode c_M_makeSecondary 6 = .ok (.getfield 149, 3) := by decide +kernel
theorem d_M_makeSecondary_9 : decode c_M_makeSecondary 9 = .ok (.ifCond .eq 21, 3) := by decide +kernel
theorem d_M_makeSecondary_12 : decode c_M_makeSecondary 12 = .ok (.aload_n 0, 1) := by decide +kernel
theorem d_M_makeSecondary_13 : decode c_M_makeSecondary 13 = .ok (.getfield 11, 3) := by decide +kernel
theorem d_M_makeSecondary_16 : decode c_M_makeSecondary 16 = .ok (.iload_n 1, 1) := by decide +kernel
theorem d_M_makeSecondary_17 : decode c_M_makeSecondary 17 = .ok (.aaload, 1) := by decide +kernel
theorem d_M_makeSecondary_18 : decode c_M_makeSecondary 18 = .ok (.iconst 0, 1) := by decide +kernel
theorem d_M_makeSecondary_19 : decode c_M_makeSecondary 19 = .ok (.putfield 149, 3) := by decide +kernel
theorem d_M_makeSecondary_22 : decode c_M_makeSecondary 22 = .ok (.aload_n 0, 1) := by decide +kernel
theorem d_M_makeSecondary_23 : decode c_M_makeSecondary 23 = .ok (.getfield 18, 3) := by decide +kernel
theorem d_M_makeSecondary_26 : decode c_M_makeSecondary 26 = .ok (.iconst 0, 1) := by decide +kernel
theorem d_M_makeSecondary_27 : decode c_M_makeSecondary 27 = .ok (.putfield 63, 3) := by decide +kernel
theorem d_M_makeSecondary_30 : decode c_M_makeSecondary 30 = .ok (.return_, 1) := by decide +kernel
theorem d_M_disconnect_0 : decode c_M_disconnect 0 = .ok (.aload_n 0, 1) := by decide +kernel
theorem d_M_disconnect_1 : decode c_M_disconnect 1 = .ok (.iconst 0, 1) := by decide +kernel
theorem d_M_disconnect_2 : decode c_M_disconnect 2 = .ok (.putfield 26, 3) := by decide +kernel
theorem d_M_disconnect_5 : decode c_M_disconnect 5 = .ok (.aload_n 0, 1) := by decide +kernel
theorem d_M_disconnect_6 : decode c_M_disconnect 6 = .ok (.iconst 0, 1) := by decide +kernel
theorem d_M_disconnect_7 : decode c_M_disconnect 7 = .ok (.putfield 29, 3) := by decide +kernel
theorem d_M_disconnect_10 : decode c_M_disconnect 10 = .ok (.return_, 1) := by decide +kernel
theorem d_M_cell_0 : decode c_M_cell 0 = .ok (.aload_n 0, 1) := by decide +kernel
theorem d_M_cell_1 : decode c_M_cell 1 = .ok (.invokevirtual 59, 3) := by decide +kernel
theorem d_M_cell_4 : decode c_M_cell 4 = .ok (.istore_n 2, 1) := by decide +kernel
theorem d_M_cell_5 : decode c_M_cell 5 = .ok (.iload_n 1, 1) := by decide +kernel
theorem d_M_cell_6 : decode c_M_cell 6 = .ok (.invokestatic 55, 3) := by decide +kernel
theorem d_M_cell_9 : decode c_M_cell 9 = .ok (.ifCond .eq 8, 3) := by decide +kernel
theorem d_M_cell_12 : decode c_M_cell 12 = .ok (.iload_n 2, 1) := by decide +kernel
theorem d_M_cell_13 : decode c_M_cell 13 = .ok (.iconst 2, 1) := by decide +kernel
theorem d_M_cell_14 : decode c_M_cell 14 = .ok (.if_icmp .ne 7, 3) := by decide +kernel
theorem d_M_cell_17 : decode c_M_cell 17 = .ok (.ldc2_w 85, 3) := by decide +kernel
theorem d_M_cell_20 : decode c_M_cell 20 = .ok (.lreturn, 1) := by decide +kernel
theorem d_M_cell_21 : decode c_M_cell 21 = .ok (.aload_n 0, 1) := by decide +kernel
theorem d_M_cell_22 : decode c_M_cell 22 = .ok (.getfield 11, 3) := by decide +kernel
theorem d_M_cell_25 : decode c_M_cell 25 = .ok (.iload_n 2, 1) := by decide +kernel
theorem d_M_cell_26 : decode c_M_cell 26 = .ok (.aaload, 1) := by decide +kernel
theorem d_M_cell_27 : decode c_M_cell 27 = .ok (.getfield 87, 3) := by decide +kernel
theorem d_M_cell_30 : decode c_M_cell 30 = .ok (.iload_n 1, 1) := by decide +kernel
theorem d_M_cell_31 : decode c_M_cell 31 = .ok (.invokevirtual 91, 3) := by decide +kernel
theorem d_M_cell_34 : decode c_M_cell 34 = .ok (.i2l, 1) := by decide +kernel
theorem d_M_cell_35 : decode c_M_cell 35 = .ok (.lreturn, 1) := by decide +kernel
theorem d_D_held_0 : decode c_D_held 0 = .ok (.aload_n 0, 1) := by decide +kernel
theorem d_D_held_1 : decode c_D_held 1 = .ok (.iload_n 1, 1) := by decide +kernel
theorem d_D_held_2 : decode c_D_held 2 = .ok (.invokevirtual 22, 3) := by decide +kernel
theorem d_D_held_5 : decode c_D_held 5 = .ok (.ifCond .eq 12, 3) := by decide +kernel
theorem d_D_held_8 : decode c_D_held 8 = .ok (.aload_n 0, 1) := by decide +kernel
theorem d_D_held_9 : decode c_D_held 9 = .ok (.getfield 15, 3) := by decide +kernel
theorem d_D_held_12 : decode c_D_held 12 = .ok (.iload_n 1, 1) := by decide +kernel
theorem d_D_held_13 : decode c_D_held 13 = .ok (.iaload, 1) := by decide +kernel
theorem d_D_held_14 : decode c_D_held 14 = .ok (.goto 9, 3) := by decide +kernel
theorem d_D_held_17 : decode c_D_held 17 = .ok (.aload_n 0, 1) := by decide +kernel
theorem d_D_held_18 : decode c_D_held 18 = .ok (.getfield 9, 3) := by decide +kernel
theorem d_D_held_21 : decode c_D_held 21 = .ok (.iload_n 1, 1) := by decide +kernel
theorem d_D_held_22 : decode c_D_held 22 = .ok (.iaload, 1) := by decide +kernel
theorem d_D_held_23 : decode c_D_held 23 = .ok (.ireturn, 1) := by decide +kernel
theorem d_M_crash_0 : decode c_M_crash 0 = .ok (.iload_n 1, 1) := by decide +kernel
theorem d_M_crash_1 : decode c_M_crash 1 = .ok (.invokestatic 97, 3) := by decide +kernel
theorem d_M_crash_4 : decode c_M_crash 4 = .ok (.ifCond .eq 15, 3) := by decide +kernel
theorem d_M_crash_7 : decode c_M_crash 7 = .ok (.aload_n 0, 1) := by decide +kernel
theorem d_M_crash_8 : decode c_M_crash 8 = .ok (.getfield 11, 3) := by decide +kernel
theorem d_M_crash_11 : decode c_M_crash 11 = .ok (.iload_n 1, 1) := by decide +kernel
theorem d_M_crash_12 : decode c_M_crash 12 = .ok (.aaload, 1) := by decide +kernel
theorem d_M_crash_13 : decode c_M_crash 13 = .ok (.getfield 100, 3) := by decide +kernel
theorem d_M_crash_16 : decode c_M_crash 16 = .ok (.ifCond .ne 5, 3) := by decide +kernel
theorem d_M_crash_19 : decode c_M_crash 19 = .ok (.iconst (-1), 1) := by decide +kernel
theorem d_M_crash_20 : decode c_M_crash 20 = .ok (.ireturn, 1) := by decide +kernel
theorem d_M_crash_21 : decode c_M_crash 21 = .ok (.aload_n 0, 1) := by decide +kernel
theorem d_M_crash_22 : decode c_M_crash 22 = .ok (.iload_n 1, 1) := by decide +kernel
theorem d_M_crash_23 : decode c_M_crash 23 = .ok (.iload_n 2, 1) := by decide +kernel
theorem d_M_crash_24 : decode c_M_crash 24 = .ok (.invokevirtual 82, 3) := by decide +kernel
theorem d_M_crash_27 : decode c_M_crash 27 = .ok (.iconst 0, 1) := by decide +kernel
theorem d_M_crash_28 : decode c_M_crash 28 = .ok (.ireturn, 1) := by decide +kernel
theorem d_M_isNode_0 : decode c_M_isNode 0 = .ok (.iload_n 0, 1) := by decide +kernel
theorem d_M_isNode_1 : decode c_M_isNode 1 = .ok (.ifCond .lt 12, 3) := by decide +kernel
theorem d_M_isNode_4 : decode c_M_isNode 4 = .ok (.iload_n 0, 1) := by decide +kernel
theorem d_M_isNode_5 : decode c_M_isNode 5 = .ok (.iconst 2, 1) := by decide +kernel
theorem d_M_isNode_6 : decode c_M_isNode 6 = .ok (.if_icmp .ge 7, 3) := by decide +kernel
theorem d_M_isNode_9 : decode c_M_isNode 9 = .ok (.iconst 1, 1) := by decide +kernel
theorem d_M_isNode_10 : decode c_M_isNode 10 = .ok (.goto 4, 3) := by decide +kernel
theorem d_M_isNode_13 : decode c_M_isNode 13 = .ok (.iconst 0, 1) := by decide +kernel
theorem d_M_isNode_14 : decode c_M_isNode 14 = .ok (.ireturn, 1) := by decide +kernel
theorem d_M_restart_0 : decode c_M_restart 0 = .ok (.iload_n 1, 1) := by decide +kernel
theorem d_M_restart_1 : decode c_M_restart 1 = .ok (.invokestatic 97, 3) := by decide +kernel
theorem d_M_restart_4 : decode c_M_restart 4 = .ok (.ifCond .eq 15, 3) := by decide +kernel
theorem d_M_restart_7 : decode c_M_restart 7 = .ok (.aload_n 0, 1) := by decide +kernel
theorem d_M_restart_8 : decode c_M_restart 8 = .ok (.getfield 11, 3) := by decide +kernel
theorem d_M_restart_11 : decode c_M_restart 11 = .ok (.iload_n 1, 1) := by decide +kernel
theorem d_M_restart_12 : decode c_M_restart 12 = .ok (.aaload, 1) := by decide +kernel
theorem d_M_restart_13 : decode c_M_restart 13 = .ok (.getfield 100, 3) := by decide +kernel
theorem d_M_restart_16 : decode c_M_restart 16 = .ok (.ifCond .eq 5, 3) := by decide +kernel
theorem d_M_restart_19 : decode c_M_restart 19 = .ok (.iconst (-1), 1) := by decide +kernel
theorem d_M_restart_20 : decode c_M_restart 20 = .ok (.ireturn, 1) := by decide +kernel
theorem d_M_restart_21 : decode c_M_restart 21 = .ok (.aload_n 0, 1) := by decide +kernel
theorem d_M_restart_22 : decode c_M_restart 22 = .ok (.getfield 11, 3) := by decide +kernel
theorem d_M_restart_25 : decode c_M_restart 25 = .ok (.iload_n 1, 1) := by decide +kernel
theorem d_M_restart_26 : decode c_M_restart 26 = .ok (.aaload, 1) := by decide +kernel
theorem d_M_restart_27 : decode c_M_restart 27 = .ok (.iconst 1, 1) := by decide +kernel
theorem d_M_restart_28 : decode c_M_restart 28 = .ok (.putfield 100, 3) := by decide +kernel
theorem d_M_restart_31 : decode c_M_restart 31 = .ok (.iconst 0, 1) := by decide +kernel
theorem d_M_restart_32 : decode c_M_restart 32 = .ok (.ireturn, 1) := by decide +kernel
theorem d_M_swap_0 : decode c_M_swap 0 = .ok (.iload_n 1, 1) := by decide +kernel
theorem d_M_swap_1 : decode c_M_swap 1 = .ok (.invokestatic 97, 3) := by decide +kernel
theorem d_M_swap_4 : decode c_M_swap 4 = .ok (.ifCond .eq 15, 3) := by decide +kernel
theorem d_M_swap_7 : decode c_M_swap 7 = .ok (.aload_n 0, 1) := by decide +kernel
theorem d_M_swap_8 : decode c_M_swap 8 = .ok (.getfield 11, 3) := by decide +kernel
theorem d_M_swap_11 : decode c_M_swap 11 = .ok (.iload_n 1, 1) := by decide +kernel
theorem d_M_swap_12 : decode c_M_swap 12 = .ok (.aaload, 1) := by decide +kernel
theorem d_M_swap_13 : decode c_M_swap 13 = .ok (.getfield 100, 3) := by decide +kernel
theorem d_M_swap_16 : decode c_M_swap 16 = .ok (.ifCond .eq 5, 3) := by decide +kernel
theorem d_M_swap_19 : decode c_M_swap 19 = .ok (.iconst (-1), 1) := by decide +kernel
theorem d_M_swap_20 : decode c_M_swap 20 = .ok (.ireturn, 1) := by decide +kernel
theorem d_M_swap_21 : decode c_M_swap 21 = .ok (.aload_n 0, 1) := by decide +kernel
theorem d_M_swap_22 : decode c_M_swap 22 = .ok (.getfield 11, 3) := by decide +kernel
theorem d_M_swap_25 : decode c_M_swap 25 = .ok (.iload_n 1, 1) := by decide +kernel
theorem d_M_swap_26 : decode c_M_swap 26 = .ok (.aaload, 1) := by decide +kernel
theorem d_M_swap_27 : decode c_M_swap 27 = .ok (.invokevirtual 103, 3) := by decide +kernel
theorem d_M_swap_30 : decode c_M_swap 30 = .ok (.iconst 0, 1) := by decide +kernel
theorem d_M_swap_31 : decode c_M_swap 31 = .ok (.ireturn, 1) := by decide +kernel
theorem d_N_renewDisk_0 : decode c_N_renewDisk 0 = .ok (.aload_n 0, 1) := by decide +kernel
theorem d_N_renewDisk_1 : decode c_N_renewDisk 1 = .ok (.getfield 10, 3) := by decide +kernel
theorem d_N_renewDisk_4 : decode c_N_renewDisk 4 = .ok (.invokevirtual 39, 3) := by decide +kernel
theorem d_N_renewDisk_7 : decode c_N_renewDisk 7 = .ok (.aload_n 0, 1) := by decide +kernel
theorem d_N_renewDisk_8 : decode c_N_renewDisk 8 = .ok (.iconst 0, 1) := by decide +kernel
theorem d_N_renewDisk_9 : decode c_N_renewDisk 9 = .ok (.putfield 23, 3) := by decide +kernel
theorem d_N_renewDisk_12 : decode c_N_renewDisk 12 = .ok (.aload_n 0, 1) := by decide +kernel
theorem d_N_renewDisk_13 : decode c_N_renewDisk 13 = .ok (.iconst 0, 1) := by decide +kernel
theorem d_N_renewDisk_14 : decode c_N_renewDisk 14 = .ok (.putfield 27, 3) := by decide +kernel
theorem d_N_renewDisk_17 : decode c_N_renewDisk 17 = .ok (.aload_n 0, 1) := by decide +kernel
theorem d_N_renewDisk_18 : decode c_N_renewDisk 18 = .ok (.iconst 0, 1) := by decide +kernel
theorem d_N_renewDisk_19 : decode c_N_renewDisk 19 = .ok (.putfield 30, 3) := by decide +kernel
theorem d_N_renewDisk_22 : decode c_N_renewDisk 22 = .ok (.aload_n 0, 1) := by decide +kernel
theorem d_N_renewDisk_23 : decode c_N_renewDisk 23 = .ok (.iconst 0, 1) := by decide +kernel
theorem d_N_renewDisk_24 : decode c_N_renewDisk 24 = .ok (.putfield 33, 3) := by decide +kernel
theorem d_N_renewDisk_27 : decode c_N_renewDisk 27 = .ok (.return_, 1) := by decide +kernel
theorem d_D_erase_0 : decode c_D_erase 0 = .ok (.aload_n 0, 1) := by decide +kernel
theorem d_D_erase_1 : decode c_D_erase 1 = .ok (.getfield 9, 3) := by decide +kernel
theorem d_D_erase_4 : decode c_D_erase 4 = .ok (.iconst 0, 1) := by decide +kernel
theorem d_D_erase_5 : decode c_D_erase 5 = .ok (.invokestatic 36, 3) := by decide +kernel
theorem d_D_erase_8 : decode c_D_erase 8 = .ok (.aload_n 0, 1) := by decide +kernel
theorem d_D_erase_9 : decode c_D_erase 9 = .ok (.iconst 0, 1) := by decide +kernel
theorem d_D_erase_10 : decode c_D_erase 10 = .ok (.putfield 18, 3) := by decide +kernel
theorem d_D_erase_13 : decode c_D_erase 13 = .ok (.return_, 1) := by decide +kernel
theorem d_Y_fill_0 : decode c_Y_fill 0 = .ok (.iconst 0, 1) := by decide +kernel
theorem d_Y_fill_1 : decode c_Y_fill 1 = .ok (.istore_n 2, 1) := by decide +kernel
theorem d_Y_fill_2 : decode c_Y_fill 2 = .ok (.aload_n 0, 1) := by decide +kernel
theorem d_Y_fill_3 : decode c_Y_fill 3 = .ok (.arraylength, 1) := by decide +kernel
theorem d_Y_fill_4 : decode c_Y_fill 4 = .ok (.istore_n 3, 1) := by decide +kernel
theorem d_Y_fill_5 : decode c_Y_fill 5 = .ok (.iload_n 2, 1) := by decide +kernel
theorem d_Y_fill_6 : decode c_Y_fill 6 = .ok (.iload_n 3, 1) := by decide +kernel
theorem d_Y_fill_7 : decode c_Y_fill 7 = .ok (.if_icmp .ge 13, 3) := by decide +kernel
theorem d_Y_fill_10 : decode c_Y_fill 10 = .ok (.aload_n 0, 1) := by decide +kernel
theorem d_Y_fill_11 : decode c_Y_fill 11 = .ok (.iload_n 2, 1) := by decide +kernel
theorem d_Y_fill_12 : decode c_Y_fill 12 = .ok (.iload_n 1, 1) := by decide +kernel
theorem d_Y_fill_13 : decode c_Y_fill 13 = .ok (.iastore, 1) := by decide +kernel
theorem d_Y_fill_14 : decode c_Y_fill 14 = .ok (.iinc 2 1, 3) := by decide +kernel
theorem d_Y_fill_17 : decode c_Y_fill 17 = .ok (.goto (-12), 3) := by decide +kernel
theorem d_Y_fill_20 : decode c_Y_fill 20 = .ok (.return_, 1) := by decide +kernel
theorem d_M_line_0 : decode c_M_line 0 = .ok (.aload_n 0, 1) := by decide +kernel
theorem d_M_line_1 : decode c_M_line 1 = .ok (.iload_n 1, 1) := by decide +kernel
theorem d_M_line_2 : decode c_M_line 2 = .ok (.putfield 22, 3) := by decide +kernel
theorem d_M_line_5 : decode c_M_line 5 = .ok (.iload_n 1, 1) := by decide +kernel
theorem d_M_line_6 : decode c_M_line 6 = .ok (.ifCond .ne 7, 3) := by decide +kernel
theorem d_M_line_9 : decode c_M_line 9 = .ok (.aload_n 0, 1) := by decide +kernel
theorem d_M_line_10 : decode c_M_line 10 = .ok (.invokevirtual 106, 3) := by decide +kernel
theorem d_M_line_13 : decode c_M_line 13 = .ok (.iconst 0, 1) := by decide +kernel
theorem d_M_line_14 : decode c_M_line 14 = .ok (.ireturn, 1) := by decide +kernel
theorem d_M_witnessLine_0 : decode c_M_witnessLine 0 = .ok (.iload_n 1, 1) := by decide +kernel
theorem d_M_witnessLine_1 : decode c_M_witnessLine 1 = .ok (.invokestatic 97, 3) := by decide +kernel
theorem d_M_witnessLine_4 : decode c_M_witnessLine 4 = .ok (.ifCond .ne 5, 3) := by decide +kernel
theorem d_M_witnessLine_7 : decode c_M_witnessLine 7 = .ok (.iconst (-1), 1) := by decide +kernel
theorem d_M_witnessLine_8 : decode c_M_witnessLine 8 = .ok (.ireturn, 1) := by decide +kernel
theorem d_M_witnessLine_9 : decode c_M_witnessLine 9 = .ok (.aload_n 0, 1) := by decide +kernel
theorem d_M_witnessLine_10 : decode c_M_witnessLine 10 = .ok (.getfield 11, 3) := by decide +kernel
theorem d_M_witnessLine_13 : decode c_M_witnessLine 13 = .ok (.iload_n 1, 1) := by decide +kernel
theorem d_M_witnessLine_14 : decode c_M_witnessLine 14 = .ok (.aaload, 1) := by decide +kernel
theorem d_M_witnessLine_15 : decode c_M_witnessLine 15 = .ok (.iload_n 2, 1) := by decide +kernel
theorem d_M_witnessLine_16 : decode c_M_witnessLine 16 = .ok (.putfield 73, 3) := by decide +kernel
theorem d_M_witnessLine_19 : decode c_M_witnessLine 19 = .ok (.iconst 0, 1) := by decide +kernel
theorem d_M_witnessLine_20 : decode c_M_witnessLine 20 = .ok (.ireturn, 1) := by decide +kernel
theorem d_M_connect_0 : decode c_M_connect 0 = .ok (.aload_n 0, 1) := by decide +kernel
theorem d_M_connect_1 : decode c_M_connect 1 = .ok (.getfield 26, 3) := by decide +kernel
theorem d_M_connect_4 : decode c_M_connect 4 = .ok (.ifCond .ne 34, 3) := by decide +kernel
theorem d_M_connect_7 : decode c_M_connect 7 = .ok (.aload_n 0, 1) := by decide +kernel
theorem d_M_connect_8 : decode c_M_connect 8 = .ok (.getfield 22, 3) := by decide +kernel
theorem d_M_connect_11 : decode c_M_connect 11 = .ok (.ifCond .eq 27, 3) := by decide +kernel
theorem d_M_connect_14 : decode c_M_connect 14 = .ok (.aload_n 0, 1) := by decide +kernel
theorem d_M_connect_15 : decode c_M_connect 15 = .ok (.getfield 11, 3) := by decide +kernel
theorem d_M_connect_18 : decode c_M_connect 18 = .ok (.iconst 0, 1) := by decide +kernel
theorem d_M_connect_19 : decode c_M_connect 19 = .ok (.aaload, 1) := by decide +kernel
theorem d_M_connect_20 : decode c_M_connect 20 = .ok (.getfield 100, 3) := by decide +kernel
theorem d_M_connect_23 : decode c_M_connect 23 = .ok (.ifCond .eq 15, 3) := by decide +kernel
theorem d_M_connect_26 : decode c_M_connect 26 = .ok (.aload_n 0, 1) := by decide +kernel
theorem d_M_connect_27 : decode c_M_connect 27 = .ok (.getfield 11, 3) := by decide +kernel
theorem d_M_connect_30 : decode c_M_connect 30 = .ok (.iconst 1, 1) := by decide +kernel
theorem d_M_connect_31 : decode c_M_connect 31 = .ok (.aaload, 1) := by decide +kernel
theorem d_M_connect_32 : decode c_M_connect 32 = .ok (.getfield 100, 3) := by decide +kernel
theorem d_M_connect_35 : decode c_M_connect 35 = .ok (.ifCond .ne 5, 3) := by decide +kernel
theorem d_M_connect_38 : decode c_M_connect 38 = .ok (.iconst (-1), 1) := by decide +kernel
theorem d_M_connect_39 : decode c_M_connect 39 = .ok (.ireturn, 1) := by decide +kernel
theorem d_M_connect_40 : decode c_M_connect 40 = .ok (.aload_n 0, 1) := by decide +kernel
theorem d_M_connect_41 : decode c_M_connect 41 = .ok (.getfield 11, 3) := by decide +kernel
theorem d_M_connect_44 : decode c_M_connect 44 = .ok (.iconst 0, 1) := by decide +kernel
theorem d_M_connect_45 : decode c_M_connect 45 = .ok (.aaload, 1) := by decide +kernel
theorem d_M_connect_46 : decode c_M_connect 46 = .ok (.getfield 109, 3) := by decide +kernel
theorem d_M_connect_49 : decode c_M_connect 49 = .ok (.ifCond .ne 18, 3) := by decide +kernel
theorem d_M_connect_52 : decode c_M_connect 52 = .ok (.aload_n 0, 1) := by decide +kernel
theorem d_M_connect_53 : decode c_M_connect 53 = .ok (.getfield 11, 3) := by decide +kernel
theorem d_M_connect_56 : decode c_M_connect 56 = .ok (.iconst 1, 1) := by decide +kernel
theorem d_M_connect_57 : decode c_M_connect 57 = .ok (.aaload, 1) := by decide +kernel
theorem d_M_connect_58 : decode c_M_connect 58 = .ok (.getfield 109, 3) := by decide +kernel
theorem d_M_connect_61 : decode c_M_connect 61 = .ok (.ifCond .ne 6, 3) := by decide +kernel
theorem d_M_connect_64 : decode c_M_connect 64 = .ok (.bipush (-6), 2) := by decide +kernel
theorem d_M_connect_66 : decode c_M_connect 66 = .ok (.ireturn, 1) := by decide +kernel
theorem d_M_connect_67 : decode c_M_connect 67 = .ok (.aload_n 0, 1) := by decide +kernel
theorem d_M_connect_68 : decode c_M_connect 68 = .ok (.aload_n 0, 1) := by decide +kernel
theorem d_M_connect_69 : decode c_M_connect 69 = .ok (.invokevirtual 112, 3) := by decide +kernel
theorem d_M_connect_72 : decode c_M_connect 72 = .ok (.putfield 32, 3) := by decide +kernel
theorem d_M_connect_75 : decode c_M_connect 75 = .ok (.aload_n 0, 1) := by decide +kernel
theorem d_M_connect_76 : decode c_M_connect 76 = .ok (.invokevirtual 115, 3) := by decide +kernel
theorem d_M_connect_79 : decode c_M_connect 79 = .ok (.istore_n 1, 1) := by decide +kernel
theorem d_M_connect_80 : decode c_M_connect 80 = .ok (.aload_n 0, 1) := by decide +kernel
theorem d_M_connect_81 : decode c_M_connect 81 = .ok (.iconst 1, 1) := by decide +kernel
theorem d_M_connect_82 : decode c_M_connect 82 = .ok (.putfield 26, 3) := by decide +kernel
theorem d_M_connect_85 : decode c_M_connect 85 = .ok (.iload_n 1, 1) := by decide +kernel
theorem d_M_connect_86 : decode c_M_connect 86 = .ok (.ifCond .ne 10, 3) := by decide +kernel
theorem d_M_connect_89 : decode c_M_connect 89 = .ok (.aload_n 0, 1) := by decide +kernel
theorem d_M_connect_90 : decode c_M_connect 90 = .ok (.invokevirtual 118, 3) := by decide +kernel
theorem d_M_connect_93 : decode c_M_connect 93 = .ok (.goto 8, 3) := by decide +kernel
theorem d_M_connect_96 : decode c_M_connect 96 = .ok (.aload_n 0, 1) := by decide +kernel
theorem d_M_connect_97 : decode c_M_connect 97 = .ok (.iload_n 1, 1) := by decide +kernel
theorem d_M_connect_98 : decode c_M_connect 98 = .ok (.invokevirtual 121, 3) := by decide +kernel
theorem d_M_connect_101 : decode c_M_connect 101 = .ok (.iload_n 1, 1) := by decide +kernel
theorem d_M_connect_102 : decode c_M_connect 102 = .ok (.invokestatic 124, 3) := by decide +kernel
theorem d_M_connect_105 : decode c_M_connect 105 = .ok (.ireturn, 1) := by decide +kernel
theorem d_M_chooseSource_0 : decode c_M_chooseSource 0 = .ok (.aload_n 0, 1) := by decide +kernel
theorem d_M_chooseSource_1 : decode c_M_chooseSource 1 = .ok (.getfield 11, 3) := by decide +kernel
theorem d_M_chooseSource_4 : decode c_M_chooseSource 4 = .ok (.iconst 0, 1) := by decide +kernel
theorem d_M_chooseSource_5 : decode c_M_chooseSource 5 = .ok (.aaload, 1) := by decide +kernel
theorem d_M_chooseSource_6 : decode c_M_chooseSource 6 = .ok (.getfield 109, 3) := by decide +kernel
theorem d_M_chooseSource_9 : decode c_M_chooseSource 9 = .ok (.aload_n 0, 1) := by decide +kernel
theorem d_M_chooseSource_10 : decode c_M_chooseSource 10 = .ok (.getfield 11, 3) := by decide +kernel
theorem d_M_chooseSource_13 : decode c_M_chooseSource 13 = .ok (.iconst 1, 1) := by decide +kernel
theorem d_M_chooseSource_14 : decode c_M_chooseSource 14 = .ok (.aaload, 1) := by decide +kernel
theorem d_M_chooseSource_15 : decode c_M_chooseSource 15 = .ok (.getfield 109, 3) := by decide +kernel
theorem d_M_chooseSource_18 : decode c_M_chooseSource 18 = .ok (.if_icmp .ne 21, 3) := by decide +kernel
theorem d_M_chooseSource_21 : decode c_M_chooseSource 21 = .ok (.aload_n 0, 1) := by decide +kernel
theorem d_M_chooseSource_22 : decode c_M_chooseSource 22 = .ok (.getfield 11, 3) := by decide +kernel
theorem d_M_chooseSource_25 : decode c_M_chooseSource 25 = .ok (.iconst 1, 1) := by decide +kernel
theorem d_M_chooseSource_26 : decode c_M_chooseSource 26 = .ok (.aaload, 1) := by decide +kernel
theorem d_M_chooseSource_27 : decode c_M_chooseSource 27 = .ok (.getfield 149, 3) := by decide +kernel
theorem d_M_chooseSource_30 : decode c_M_chooseSource 30 = .ok (.ifCond .eq 7, 3) := by decide +kernel
theorem d_M_chooseSource_33 : decode c_M_chooseSource 33 = .ok (.iconst 1, 1) := by decide +kernel
theorem d_M_chooseSource_34 : decode c_M_chooseSource 34 = .ok (.goto 4, 3) := by decide +kernel
theorem d_M_chooseSource_37 : decode c_M_chooseSource 37 = .ok (.iconst 0, 1) := by decide +kernel
theorem d_M_chooseSource_38 : decode c_M_chooseSource 38 = .ok (.ireturn, 1) := by decide +kernel
theorem d_M_chooseSource_39 : decode c_M_chooseSource 39 = .ok (.aload_n 0, 1) := by decide +kernel
theorem d_M_chooseSource_40 : decode c_M_chooseSource 40 = .ok (.getfield 11, 3) := by decide +kernel
theorem d_M_chooseSource_43 : decode c_M_chooseSource 43 = .ok (.iconst 0, 1) := by decide +kernel
theorem d_M_chooseSource_44 : decode c_M_chooseSource 44 = .ok (.aaload, 1) := by decide +kernel
theorem d_M_chooseSource_45 : decode c_M_chooseSource 45 = .ok (.getfield 109, 3) := by decide +kernel
theorem d_M_chooseSource_48 : decode c_M_chooseSource 48 = .ok (.aload_n 0, 1) := by decide +kernel
theorem d_M_chooseSource_49 : decode c_M_chooseSource 49 = .ok (.getfield 11, 3) := by decide +kernel
theorem d_M_chooseSource_52 : decode c_M_chooseSource 52 = .ok (.iconst 1, 1) := by decide +kernel
theorem d_M_chooseSource_53 : decode c_M_chooseSource 53 = .ok (.aaload, 1) := by decide +kernel
theorem d_M_chooseSource_54 : decode c_M_chooseSource 54 = .ok (.getfield 109, 3) := by decide +kernel
theorem d_M_chooseSource_57 : decode c_M_chooseSource 57 = .ok (.if_icmp .le 7, 3) := by decide +kernel
theorem d_M_chooseSource_60 : decode c_M_chooseSource 60 = .ok (.iconst 0, 1) := by decide +kernel
theorem d_M_chooseSource_61 : decode c_M_chooseSource 61 = .ok (.goto 4, 3) := by decide +kernel
theorem d_M_chooseSource_64 : decode c_M_chooseSource 64 = .ok (.iconst 1, 1) := by decide +kernel
theorem d_M_chooseSource_65 : decode c_M_chooseSource 65 = .ok (.ireturn, 1) := by decide +kernel
end
section
theorem d_M_extentsThatMayDiffer_0 : decode c_M_extentsThatMayDiffer 0 = .ok (.aload_n 0, 1) := by decide +kernel
theorem d_M_extentsThatMayDiffer_1 : decode c_M_extentsThatMayDiffer 1 = .ok (.getfield 11, 3) := by decide +kernel
theorem d_M_extentsThatMayDiffer_4 : decode c_M_extentsThatMayDiffer 4 = .ok (.aload_n 0, 1) := by decide +kernel
theorem d_M_extentsThatMayDiffer_5 : decode c_M_extentsThatMayDiffer 5 = .ok (.getfield 32, 3) := by decide +kernel
theorem d_M_extentsThatMayDiffer_8 : decode c_M_extentsThatMayDiffer 8 = .ok (.aaload, 1) := by decide +kernel
theorem d_M_extentsThatMayDiffer_9 : decode c_M_extentsThatMayDiffer 9 = .ok (.astore_n 1, 1) := by decide +kernel
theorem d_M_extentsThatMayDiffer_10 : decode c_M_extentsThatMayDiffer 10 = .ok (.aload_n 0, 1) := by decide +kernel
theorem d_M_extentsThatMayDiffer_11 : decode c_M_extentsThatMayDiffer 11 = .ok (.getfield 11, 3) := by decide +kernel
theorem d_M_extentsThatMayDiffer_14 : decode c_M_extentsThatMayDiffer 14 = .ok (.iconst 1, 1) := by decide +kernel
theorem d_M_extentsThatMayDiffer_15 : decode c_M_extentsThatMayDiffer 15 = .ok (.aload_n 0, 1) := by decide +kernel
theorem d_M_extentsThatMayDiffer_16 : decode c_M_extentsThatMayDiffer 16 = .ok (.getfield 32, 3) := by decide +kernel
theorem d_M_extentsThatMayDiffer_19 : decode c_M_extentsThatMayDiffer 19 = .ok (.isub, 1) := by decide +kernel
theorem d_M_extentsThatMayDiffer_20 : decode c_M_extentsThatMayDiffer 20 = .ok (.aaload, 1) := by decide +kernel
theorem d_M_extentsThatMayDiffer_21 : decode c_M_extentsThatMayDiffer 21 = .ok (.astore_n 2, 1) := by decide +kernel
theorem d_M_extentsThatMayDiffer_22 : decode c_M_extentsThatMayDiffer 22 = .ok (.aload_n 1, 1) := by decide +kernel
theorem d_M_extentsThatMayDiffer_23 : decode c_M_extentsThatMayDiffer 23 = .ok (.getfield 109, 3) := by decide +kernel
theorem d_M_extentsThatMayDiffer_26 : decode c_M_extentsThatMayDiffer 26 = .ok (.aload_n 2, 1) := by decide +kernel
theorem d_M_extentsThatMayDiffer_27 : decode c_M_extentsThatMayDiffer 27 = .ok (.getfield 109, 3) := by decide +kernel
theorem d_M_extentsThatMayDiffer_30 : decode c_M_extentsThatMayDiffer 30 = .ok (.if_icmp .eq 21, 3) := by decide +kernel
theorem d_M_extentsThatMayDiffer_33 : decode c_M_extentsThatMayDiffer 33 = .ok (.aload_n 1, 1) := by decide +kernel
theorem d_M_extentsThatMayDiffer_34 : decode c_M_extentsThatMayDiffer 34 = .ok (.getfield 187, 3) := by decide +kernel
theorem d_M_extentsThatMayDiffer_37 : decode c_M_extentsThatMayDiffer 37 = .ok (.ifCond .eq 18, 3) := by decide +kernel
theorem d_M_extentsThatMayDiffer_40 : decode c_M_extentsThatMayDiffer 40 = .ok (.aload_n 1, 1) := by decide +kernel
theorem d_M_extentsThatMayDiffer_41 : decode c_M_extentsThatMayDiffer 41 = .ok (.getfield 184, 3) := by decide +kernel
theorem d_M_extentsThatMayDiffer_44 : decode c_M_extentsThatMayDiffer 44 = .ok (.aload_n 2, 1) := by decide +kernel
theorem d_M_extentsThatMayDiffer_45 : decode c_M_extentsThatMayDiffer 45 = .ok (.getfield 109, 3) := by decide +kernel
theorem d_M_extentsThatMayDiffer_48 : decode c_M_extentsThatMayDiffer 48 = .ok (.if_icmp .ne 7, 3) := by decide +kernel
theorem d_M_extentsThatMayDiffer_51 : decode c_M_extentsThatMayDiffer 51 = .ok (.iconst 1, 1) := by decide +kernel
theorem d_M_extentsThatMayDiffer_52 : decode c_M_extentsThatMayDiffer 52 = .ok (.goto 4, 3) := by decide +kernel
theorem d_M_extentsThatMayDiffer_55 : decode c_M_extentsThatMayDiffer 55 = .ok (.iconst 0, 1) := by decide +kernel
theorem d_M_extentsThatMayDiffer_56 : decode c_M_extentsThatMayDiffer 56 = .ok (.istore_n 3, 1) := by decide +kernel
theorem d_M_extentsThatMayDiffer_57 : decode c_M_extentsThatMayDiffer 57 = .ok (.iload_n 3, 1) := by decide +kernel
theorem d_M_extentsThatMayDiffer_58 : decode c_M_extentsThatMayDiffer 58 = .ok (.ifCond .eq 15, 3) := by decide +kernel
theorem d_M_extentsThatMayDiffer_61 : decode c_M_extentsThatMayDiffer 61 = .ok (.aload_n 1, 1) := by decide +kernel
theorem d_M_extentsThatMayDiffer_62 : decode c_M_extentsThatMayDiffer 62 = .ok (.getfield 129, 3) := by decide +kernel
theorem d_M_extentsThatMayDiffer_65 : decode c_M_extentsThatMayDiffer 65 = .ok (.aload_n 2, 1) := by decide +kernel
theorem d_M_extentsThatMayDiffer_66 : decode c_M_extentsThatMayDiffer 66 = .ok (.getfield 129, 3) := by decide +kernel
theorem d_M_extentsThatMayDiffer_69 : decode c_M_extentsThatMayDiffer 69 = .ok (.ior, 1) := by decide +kernel
theorem d_M_extentsThatMayDiffer_70 : decode c_M_extentsThatMayDiffer 70 = .ok (.goto 6, 3) := by decide +kernel
theorem d_M_extentsThatMayDiffer_73 : decode c_M_extentsThatMayDiffer 73 = .ok (.sipush 255, 3) := by decide +kernel
theorem d_M_extentsThatMayDiffer_76 : decode c_M_extentsThatMayDiffer 76 = .ok (.ireturn, 1) := by decide +kernel
theorem d_M_finishSync_0 : decode c_M_finishSync 0 = .ok (.aload_n 0, 1) := by decide +kernel
theorem d_M_finishSync_1 : decode c_M_finishSync 1 = .ok (.getfield 11, 3) := by decide +kernel
theorem d_M_finishSync_4 : decode c_M_finishSync 4 = .ok (.iconst 1, 1) := by decide +kernel
theorem d_M_finishSync_5 : decode c_M_finishSync 5 = .ok (.aload_n 0, 1) := by decide +kernel
theorem d_M_finishSync_6 : decode c_M_finishSync 6 = .ok (.getfield 32, 3) := by decide +kernel
theorem d_M_finishSync_9 : decode c_M_finishSync 9 = .ok (.isub, 1) := by decide +kernel
theorem d_M_finishSync_10 : decode c_M_finishSync 10 = .ok (.aaload, 1) := by decide +kernel
theorem d_M_finishSync_11 : decode c_M_finishSync 11 = .ok (.aload_n 0, 1) := by decide +kernel
theorem d_M_finishSync_12 : decode c_M_finishSync 12 = .ok (.getfield 11, 3) := by decide +kernel
theorem d_M_finishSync_15 : decode c_M_finishSync 15 = .ok (.aload_n 0, 1) := by decide +kernel
theorem d_M_finishSync_16 : decode c_M_finishSync 16 = .ok (.getfield 32, 3) := by decide +kernel
theorem d_M_finishSync_19 : decode c_M_finishSync 19 = .ok (.aaload, 1) := by decide +kernel
theorem d_M_finishSync_20 : decode c_M_finishSync 20 = .ok (.getfield 109, 3) := by decide +kernel
theorem d_M_finishSync_23 : decode c_M_finishSync 23 = .ok (.putfield 109, 3) := by decide +kernel
theorem d_M_finishSync_26 : decode c_M_finishSync 26 = .ok (.iconst 0, 1) := by decide +kernel
theorem d_M_finishSync_27 : decode c_M_finishSync 27 = .ok (.istore_n 1, 1) := by decide +kernel
theorem d_M_finishSync_28 : decode c_M_finishSync 28 = .ok (.iload_n 1, 1) := by decide +kernel
theorem d_M_finishSync_29 : decode c_M_finishSync 29 = .ok (.iconst 2, 1) := by decide +kernel
theorem d_M_finishSync_30 : decode c_M_finishSync 30 = .ok (.if_icmp .ge 41, 3) := by decide +kernel
theorem d_M_finishSync_33 : decode c_M_finishSync 33 = .ok (.aload_n 0, 1) := by decide +kernel
theorem d_M_finishSync_34 : decode c_M_finishSync 34 = .ok (.getfield 11, 3) := by decide +kernel
theorem d_M_finishSync_37 : decode c_M_finishSync 37 = .ok (.iload_n 1, 1) := by decide +kernel
theorem d_M_finishSync_38 : decode c_M_finishSync 38 = .ok (.aaload, 1) := by decide +kernel
theorem d_M_finishSync_39 : decode c_M_finishSync 39 = .ok (.getfield 87, 3) := by decide +kernel
theorem d_M_finishSync_42 : decode c_M_finishSync 42 = .ok (.invokevirtual 202, 3) := by decide +kernel
theorem d_M_finishSync_45 : decode c_M_finishSync 45 = .ok (.aload_n 0, 1) := by decide +kernel
theorem d_M_finishSync_46 : decode c_M_finishSync 46 = .ok (.getfield 11, 3) := by decide +kernel
theorem d_M_finishSync_49 : decode c_M_finishSync 49 = .ok (.iload_n 1, 1) := by decide +kernel
theorem d_M_finishSync_50 : decode c_M_finishSync 50 = .ok (.aaload, 1) := by decide +kernel
theorem d_M_finishSync_51 : decode c_M_finishSync 51 = .ok (.iconst 0, 1) := by decide +kernel
theorem d_M_finishSync_52 : decode c_M_finishSync 52 = .ok (.putfield 187, 3) := by decide +kernel
theorem d_M_finishSync_55 : decode c_M_finishSync 55 = .ok (.aload_n 0, 1) := by decide +kernel
theorem d_M_finishSync_56 : decode c_M_finishSync 56 = .ok (.getfield 11, 3) := by decide +kernel
theorem d_M_finishSync_59 : decode c_M_finishSync 59 = .ok (.iload_n 1, 1) := by decide +kernel
theorem d_M_finishSync_60 : decode c_M_finishSync 60 = .ok (.aaload, 1) := by decide +kernel
theorem d_M_finishSync_61 : decode c_M_finishSync 61 = .ok (.iconst 0, 1) := by decide +kernel
theorem d_M_finishSync_62 : decode c_M_finishSync 62 = .ok (.putfield 129, 3) := by decide +kernel
theorem d_M_finishSync_65 : decode c_M_finishSync 65 = .ok (.iinc 1 1, 3) := by decide +kernel
theorem d_M_finishSync_68 : decode c_M_finishSync 68 = .ok (.goto (-40), 3) := by decide +kernel
theorem d_M_finishSync_71 : decode c_M_finishSync 71 = .ok (.aload_n 0, 1) := by decide +kernel
theorem d_M_finishSync_72 : decode c_M_finishSync 72 = .ok (.iconst 0, 1) := by decide +kernel
theorem d_M_finishSync_73 : decode c_M_finishSync 73 = .ok (.putfield 29, 3) := by decide +kernel
theorem d_M_finishSync_76 : decode c_M_finishSync 76 = .ok (.return_, 1) := by decide +kernel
theorem d_M_startSync_0 : decode c_M_startSync 0 = .ok (.aload_n 0, 1) := by decide +kernel
theorem d_M_startSync_1 : decode c_M_startSync 1 = .ok (.getfield 11, 3) := by decide +kernel
theorem d_M_startSync_4 : decode c_M_startSync 4 = .ok (.iconst 1, 1) := by decide +kernel
theorem d_M_startSync_5 : decode c_M_startSync 5 = .ok (.aload_n 0, 1) := by decide +kernel
theorem d_M_startSync_6 : decode c_M_startSync 6 = .ok (.getfield 32, 3) := by decide +kernel
theorem d_M_startSync_9 : decode c_M_startSync 9 = .ok (.isub, 1) := by decide +kernel
theorem d_M_startSync_10 : decode c_M_startSync 10 = .ok (.aaload, 1) := by decide +kernel
theorem d_M_startSync_11 : decode c_M_startSync 11 = .ok (.astore_n 2, 1) := by decide +kernel
theorem d_M_startSync_12 : decode c_M_startSync 12 = .ok (.aload_n 0, 1) := by decide +kernel
theorem d_M_startSync_13 : decode c_M_startSync 13 = .ok (.getfield 11, 3) := by decide +kernel
theorem d_M_startSync_16 : decode c_M_startSync 16 = .ok (.aload_n 0, 1) := by decide +kernel
theorem d_M_startSync_17 : decode c_M_startSync 17 = .ok (.getfield 32, 3) := by decide +kernel
theorem d_M_startSync_20 : decode c_M_startSync 20 = .ok (.aaload, 1) := by decide +kernel
theorem d_M_startSync_21 : decode c_M_startSync 21 = .ok (.iload_n 1, 1) := by decide +kernel
theorem d_M_startSync_22 : decode c_M_startSync 22 = .ok (.putfield 129, 3) := by decide +kernel
theorem d_M_startSync_25 : decode c_M_startSync 25 = .ok (.aload_n 2, 1) := by decide +kernel
theorem d_M_startSync_26 : decode c_M_startSync 26 = .ok (.iconst 0, 1) := by decide +kernel
theorem d_M_startSync_27 : decode c_M_startSync 27 = .ok (.putfield 129, 3) := by decide +kernel
theorem d_M_startSync_30 : decode c_M_startSync 30 = .ok (.aload_n 2, 1) := by decide +kernel
theorem d_M_startSync_31 : decode c_M_startSync 31 = .ok (.iconst 0, 1) := by decide +kernel
theorem d_M_startSync_32 : decode c_M_startSync 32 = .ok (.putfield 109, 3) := by decide +kernel
theorem d_M_startSync_35 : decode c_M_startSync 35 = .ok (.aload_n 2, 1) := by decide +kernel
theorem d_M_startSync_36 : decode c_M_startSync 36 = .ok (.iconst 0, 1) := by decide +kernel
theorem d_M_startSync_37 : decode c_M_startSync 37 = .ok (.putfield 187, 3) := by decide +kernel
theorem d_M_startSync_40 : decode c_M_startSync 40 = .ok (.aload_n 0, 1) := by decide +kernel
theorem d_M_startSync_41 : decode c_M_startSync 41 = .ok (.iconst 1, 1) := by decide +kernel
theorem d_M_startSync_42 : decode c_M_startSync 42 = .ok (.putfield 29, 3) := by decide +kernel
theorem d_M_startSync_45 : decode c_M_startSync 45 = .ok (.return_, 1) := by decide +kernel
theorem d_J_bitCount_0 : decode c_J_bitCount 0 = .ok (.iload_n 0, 1) := by decide +kernel
theorem d_J_bitCount_1 : decode c_J_bitCount 1 = .ok (.iload_n 0, 1) := by decide +kernel
theorem d_J_bitCount_2 : decode c_J_bitCount 2 = .ok (.iconst 1, 1) := by decide +kernel
theorem d_J_bitCount_3 : decode c_J_bitCount 3 = .ok (.iushr, 1) := by decide +kernel
theorem d_J_bitCount_4 : decode c_J_bitCount 4 = .ok (.ldc_w 265, 3) := by decide +kernel
theorem d_J_bitCount_7 : decode c_J_bitCount 7 = .ok (.iand, 1) := by decide +kernel
theorem d_J_bitCount_8 : decode c_J_bitCount 8 = .ok (.isub, 1) := by decide +kernel
theorem d_J_bitCount_9 : decode c_J_bitCount 9 = .ok (.istore_n 0, 1) := by decide +kernel
theorem d_J_bitCount_10 : decode c_J_bitCount 10 = .ok (.iload_n 0, 1) := by decide +kernel
theorem d_J_bitCount_11 : decode c_J_bitCount 11 = .ok (.ldc_w 266, 3) := by decide +kernel
theorem d_J_bitCount_14 : decode c_J_bitCount 14 = .ok (.iand, 1) := by decide +kernel
theorem d_J_bitCount_15 : decode c_J_bitCount 15 = .ok (.iload_n 0, 1) := by decide +kernel
theorem d_J_bitCount_16 : decode c_J_bitCount 16 = .ok (.iconst 2, 1) := by decide +kernel
theorem d_J_bitCount_17 : decode c_J_bitCount 17 = .ok (.iushr, 1) := by decide +kernel
theorem d_J_bitCount_18 : decode c_J_bitCount 18 = .ok (.ldc_w 266, 3) := by decide +kernel
theorem d_J_bitCount_21 : decode c_J_bitCount 21 = .ok (.iand, 1) := by decide +kernel
theorem d_J_bitCount_22 : decode c_J_bitCount 22 = .ok (.iadd, 1) := by decide +kernel
theorem d_J_bitCount_23 : decode c_J_bitCount 23 = .ok (.istore_n 0, 1) := by decide +kernel
theorem d_J_bitCount_24 : decode c_J_bitCount 24 = .ok (.iload_n 0, 1) := by decide +kernel
theorem d_J_bitCount_25 : decode c_J_bitCount 25 = .ok (.iload_n 0, 1) := by decide +kernel
theorem d_J_bitCount_26 : decode c_J_bitCount 26 = .ok (.iconst 4, 1) := by decide +kernel
theorem d_J_bitCount_27 : decode c_J_bitCount 27 = .ok (.iushr, 1) := by decide +kernel
theorem d_J_bitCount_28 : decode c_J_bitCount 28 = .ok (.iadd, 1) := by decide +kernel
theorem d_J_bitCount_29 : decode c_J_bitCount 29 = .ok (.ldc_w 267, 3) := by decide +kernel
theorem d_J_bitCount_32 : decode c_J_bitCount 32 = .ok (.iand, 1) := by decide +kernel
theorem d_J_bitCount_33 : decode c_J_bitCount 33 = .ok (.istore_n 0, 1) := by decide +kernel
theorem d_J_bitCount_34 : decode c_J_bitCount 34 = .ok (.iload_n 0, 1) := by decide +kernel
theorem d_J_bitCount_35 : decode c_J_bitCount 35 = .ok (.iload_n 0, 1) := by decide +kernel
theorem d_J_bitCount_36 : decode c_J_bitCount 36 = .ok (.bipush 8, 2) := by decide +kernel
theorem d_J_bitCount_38 : decode c_J_bitCount 38 = .ok (.iushr, 1) := by decide +kernel
theorem d_J_bitCount_39 : decode c_J_bitCount 39 = .ok (.iadd, 1) := by decide +kernel
theorem d_J_bitCount_40 : decode c_J_bitCount 40 = .ok (.istore_n 0, 1) := by decide +kernel
theorem d_J_bitCount_41 : decode c_J_bitCount 41 = .ok (.iload_n 0, 1) := by decide +kernel
theorem d_J_bitCount_42 : decode c_J_bitCount 42 = .ok (.iload_n 0, 1) := by decide +kernel
theorem d_J_bitCount_43 : decode c_J_bitCount 43 = .ok (.bipush 16, 2) := by decide +kernel
theorem d_J_bitCount_45 : decode c_J_bitCount 45 = .ok (.iushr, 1) := by decide +kernel
theorem d_J_bitCount_46 : decode c_J_bitCount 46 = .ok (.iadd, 1) := by decide +kernel
theorem d_J_bitCount_47 : decode c_J_bitCount 47 = .ok (.istore_n 0, 1) := by decide +kernel
theorem d_J_bitCount_48 : decode c_J_bitCount 48 = .ok (.iload_n 0, 1) := by decide +kernel
theorem d_J_bitCount_49 : decode c_J_bitCount 49 = .ok (.bipush 63, 2) := by decide +kernel
theorem d_J_bitCount_51 : decode c_J_bitCount 51 = .ok (.iand, 1) := by decide +kernel
theorem d_J_bitCount_52 : decode c_J_bitCount 52 = .ok (.ireturn, 1) := by decide +kernel
theorem d_M_resync_0 : decode c_M_resync 0 = .ok (.iload_n 1, 1) := by decide +kernel
theorem d_M_resync_1 : decode c_M_resync 1 = .ok (.iconst 1, 1) := by decide +kernel
theorem d_M_resync_2 : decode c_M_resync 2 = .ok (.if_icmp .lt 15, 3) := by decide +kernel
theorem d_M_resync_5 : decode c_M_resync 5 = .ok (.iload_n 1, 1) := by decide +kernel
theorem d_M_resync_6 : decode c_M_resync 6 = .ok (.iconst 4, 1) := by decide +kernel
theorem d_M_resync_7 : decode c_M_resync 7 = .ok (.if_icmp .gt 10, 3) := by decide +kernel
theorem d_M_resync_10 : decode c_M_resync 10 = .ok (.aload_n 0, 1) := by decide +kernel
theorem d_M_resync_11 : decode c_M_resync 11 = .ok (.getfield 29, 3) := by decide +kernel
theorem d_M_resync_14 : decode c_M_resync 14 = .ok (.ifCond .ne 5, 3) := by decide +kernel
theorem d_M_resync_17 : decode c_M_resync 17 = .ok (.iconst (-1), 1) := by decide +kernel
theorem d_M_resync_18 : decode c_M_resync 18 = .ok (.ireturn, 1) := by decide +kernel
theorem d_M_resync_19 : decode c_M_resync 19 = .ok (.aload_n 0, 1) := by decide +kernel
theorem d_M_resync_20 : decode c_M_resync 20 = .ok (.getfield 11, 3) := by decide +kernel
theorem d_M_resync_23 : decode c_M_resync 23 = .ok (.aload_n 0, 1) := by decide +kernel
theorem d_M_resync_24 : decode c_M_resync 24 = .ok (.getfield 32, 3) := by decide +kernel
theorem d_M_resync_27 : decode c_M_resync 27 = .ok (.aaload, 1) := by decide +kernel
theorem d_M_resync_28 : decode c_M_resync 28 = .ok (.astore_n 2, 1) := by decide +kernel
theorem d_M_resync_29 : decode c_M_resync 29 = .ok (.iconst 0, 1) := by decide +kernel
theorem d_M_resync_30 : decode c_M_resync 30 = .ok (.istore_n 3, 1) := by decide +kernel
theorem d_M_resync_31 : decode c_M_resync 31 = .ok (.iload_n 3, 1) := by decide +kernel
theorem d_M_resync_32 : decode c_M_resync 32 = .ok (.iload_n 1, 1) := by decide +kernel
theorem d_M_resync_33 : decode c_M_resync 33 = .ok (.if_icmp .ge 46, 3) := by decide +kernel
theorem d_M_resync_36 : decode c_M_resync 36 = .ok (.aload_n 2, 1) := by decide +kernel
theorem d_M_resync_37 : decode c_M_resync 37 = .ok (.getfield 129, 3) := by decide +kernel
theorem d_M_resync_40 : decode c_M_resync 40 = .ok (.ifCond .eq 39, 3) := by decide +kernel
theorem d_M_resync_43 : decode c_M_resync 43 = .ok (.aload_n 2, 1) := by decide +kernel
theorem d_M_resync_44 : decode c_M_resync 44 = .ok (.getfield 129, 3) := by decide +kernel
theorem d_M_resync_47 : decode c_M_resync 47 = .ok (.invokestatic 132, 3) := by decide +kernel
theorem d_M_resync_50 : decode c_M_resync 50 = .ok (.istore 4, 2) := by decide +kernel
theorem d_M_resync_52 : decode c_M_resync 52 = .ok (.aload_n 2, 1) := by decide +kernel
theorem d_M_resync_53 : decode c_M_resync 53 = .ok (.dup, 1) := by decide +kernel
theorem d_M_resync_54 : decode c_M_resync 54 = .ok (.getfield 129, 3) := by decide +kernel
theorem d_M_resync_57 : decode c_M_resync 57 = .ok (.iconst 1, 1) := by decide +kernel
theorem d_M_resync_58 : decode c_M_resync 58 = .ok (.iload 4, 2) := by decide +kernel
theorem d_M_resync_60 : decode c_M_resync 60 = .ok (.ishl, 1) := by decide +kernel
theorem d_M_resync_61 : decode c_M_resync 61 = .ok (.iconst (-1), 1) := by decide +kernel
theorem d_M_resync_62 : decode c_M_resync 62 = .ok (.ixor, 1) := by decide +kernel
theorem d_M_resync_63 : decode c_M_resync 63 = .ok (.iand, 1) := by decide +kernel
theorem d_M_resync_64 : decode c_M_resync 64 = .ok (.putfield 129, 3) := by decide +kernel
theorem d_M_resync_67 : decode c_M_resync 67 = .ok (.aload_n 0, 1) := by decide +kernel
theorem d_M_resync_68 : decode c_M_resync 68 = .ok (.iload 4, 2) := by decide +kernel
theorem d_M_resync_70 : decode c_M_resync 70 = .ok (.invokevirtual 135, 3) := by decide +kernel
theorem d_M_resync_73 : decode c_M_resync 73 = .ok (.iinc 3 1, 3) := by decide +kernel
theorem d_M_resync_76 : decode c_M_resync 76 = .ok (.goto (-45), 3) := by decide +kernel
theorem d_M_resync_79 : decode c_M_resync 79 = .ok (.aload_n 2, 1) := by decide +kernel
theorem d_M_resync_80 : decode c_M_resync 80 = .ok (.getfield 129, 3) := by decide +kernel
theorem d_M_resync_83 : decode c_M_resync 83 = .ok (.invokestatic 124, 3) := by decide +kernel
theorem d_M_resync_86 : decode c_M_resync 86 = .ok (.istore_n 3, 1) := by decide +kernel
theorem d_M_resync_87 : decode c_M_resync 87 = .ok (.iload_n 3, 1) := by decide +kernel
theorem d_M_resync_88 : decode c_M_resync 88 = .ok (.ifCond .ne 7, 3) := by decide +kernel
theorem d_M_resync_91 : decode c_M_resync 91 = .ok (.aload_n 0, 1) := by decide +kernel
theorem d_M_resync_92 : decode c_M_resync 92 = .ok (.invokevirtual 118, 3) := by decide +kernel
theorem d_M_resync_95 : decode c_M_resync 95 = .ok (.iload_n 3, 1) := by decide +kernel
theorem d_M_resync_96 : decode c_M_resync 96 = .ok (.ireturn, 1) := by decide +kernel
theorem d_J_numberOfTrailingZeros_0 : decode c_J_numberOfTrailingZeros 0 = .ok (.iload_n 0, 1) := by decide +kernel
theorem d_J_numberOfTrailingZeros_1 : decode c_J_numberOfTrailingZeros 1 = .ok (.iconst (-1), 1) := by decide +kernel
theorem d_J_numberOfTrailingZeros_2 : decode c_J_numberOfTrailingZeros 2 = .ok (.ixor, 1) := by decide +kernel
theorem d_J_numberOfTrailingZeros_3 : decode c_J_numberOfTrailingZeros 3 = .ok (.iload_n 0, 1) := by decide +kernel
theorem d_J_numberOfTrailingZeros_4 : decode c_J_numberOfTrailingZeros 4 = .ok (.iconst 1, 1) := by decide +kernel
theorem d_J_numberOfTrailingZeros_5 : decode c_J_numberOfTrailingZeros 5 = .ok (.isub, 1) := by decide +kernel
theorem d_J_numberOfTrailingZeros_6 : decode c_J_numberOfTrailingZeros 6 = .ok (.iand, 1) := by decide +kernel
theorem d_J_numberOfTrailingZeros_7 : decode c_J_numberOfTrailingZeros 7 = .ok (.istore_n 0, 1) := by decide +kernel
theorem d_J_numberOfTrailingZeros_8 : decode c_J_numberOfTrailingZeros 8 = .ok (.iload_n 0, 1) := by decide +kernel
theorem d_J_numberOfTrailingZeros_9 : decode c_J_numberOfTrailingZeros 9 = .ok (.ifCond .gt 8, 3) := by decide +kernel
theorem d_J_numberOfTrailingZeros_12 : decode c_J_numberOfTrailingZeros 12 = .ok (.iload_n 0, 1) := by decide +kernel
theorem d_J_numberOfTrailingZeros_13 : decode c_J_numberOfTrailingZeros 13 = .ok (.bipush 32, 2) := by decide +kernel
theorem d_J_numberOfTrailingZeros_15 : decode c_J_numberOfTrailingZeros 15 = .ok (.iand, 1) := by decide +kernel
theorem d_J_numberOfTrailingZeros_16 : decode c_J_numberOfTrailingZeros 16 = .ok (.ireturn, 1) := by decide +kernel
theorem d_J_numberOfTrailingZeros_17 : decode c_J_numberOfTrailingZeros 17 = .ok (.iconst 1, 1) := by decide +kernel
theorem d_J_numberOfTrailingZeros_18 : decode c_J_numberOfTrailingZeros 18 = .ok (.istore_n 1, 1) := by decide +kernel
theorem d_J_numberOfTrailingZeros_19 : decode c_J_numberOfTrailingZeros 19 = .ok (.iload_n 0, 1) := by decide +kernel
theorem d_J_numberOfTrailingZeros_20 : decode c_J_numberOfTrailingZeros 20 = .ok (.ldc_w 264, 3) := by decide +kernel
theorem d_J_numberOfTrailingZeros_23 : decode c_J_numberOfTrailingZeros 23 = .ok (.if_icmp .le 11, 3) := by decide +kernel
theorem d_J_numberOfTrailingZeros_26 : decode c_J_numberOfTrailingZeros 26 = .ok (.iinc 1 16, 3) := by decide +kernel
theorem d_J_numberOfTrailingZeros_29 : decode c_J_numberOfTrailingZeros 29 = .ok (.iload_n 0, 1) := by decide +kernel
theorem d_J_numberOfTrailingZeros_30 : decode c_J_numberOfTrailingZeros 30 = .ok (.bipush 16, 2) := by decide +kernel
theorem d_J_numberOfTrailingZeros_32 : decode c_J_numberOfTrailingZeros 32 = .ok (.iushr, 1) := by decide +kernel
theorem d_J_numberOfTrailingZeros_33 : decode c_J_numberOfTrailingZeros 33 = .ok (.istore_n 0, 1) := by decide +kernel
theorem d_J_numberOfTrailingZeros_34 : decode c_J_numberOfTrailingZeros 34 = .ok (.iload_n 0, 1) := by decide +kernel
theorem d_J_numberOfTrailingZeros_35 : decode c_J_numberOfTrailingZeros 35 = .ok (.sipush 256, 3) := by decide +kernel
theorem d_J_numberOfTrailingZeros_38 : decode c_J_numberOfTrailingZeros 38 = .ok (.if_icmp .le 11, 3) := by decide +kernel
theorem d_J_numberOfTrailingZeros_41 : decode c_J_numberOfTrailingZeros 41 = .ok (.iinc 1 8, 3) := by decide +kernel
theorem d_J_numberOfTrailingZeros_44 : decode c_J_numberOfTrailingZeros 44 = .ok (.iload_n 0, 1) := by decide +kernel
theorem d_J_numberOfTrailingZeros_45 : decode c_J_numberOfTrailingZeros 45 = .ok (.bipush 8, 2) := by decide +kernel
theorem d_J_numberOfTrailingZeros_47 : decode c_J_numberOfTrailingZeros 47 = .ok (.iushr, 1) := by decide +kernel
theorem d_J_numberOfTrailingZeros_48 : decode c_J_numberOfTrailingZeros 48 = .ok (.istore_n 0, 1) := by decide +kernel
theorem d_J_numberOfTrailingZeros_49 : decode c_J_numberOfTrailingZeros 49 = .ok (.iload_n 0, 1) := by decide +kernel
theorem d_J_numberOfTrailingZeros_50 : decode c_J_numberOfTrailingZeros 50 = .ok (.bipush 16, 2) := by decide +kernel
theorem d_J_numberOfTrailingZeros_52 : decode c_J_numberOfTrailingZeros 52 = .ok (.if_icmp .le 10, 3) := by decide +kernel
theorem d_J_numberOfTrailingZeros_55 : decode c_J_numberOfTrailingZeros 55 = .ok (.iinc 1 4, 3) := by decide +kernel
theorem d_J_numberOfTrailingZeros_58 : decode c_J_numberOfTrailingZeros 58 = .ok (.iload_n 0, 1) := by decide +kernel
theorem d_J_numberOfTrailingZeros_59 : decode c_J_numberOfTrailingZeros 59 = .ok (.iconst 4, 1) := by decide +kernel
theorem d_J_numberOfTrailingZeros_60 : decode c_J_numberOfTrailingZeros 60 = .ok (.iushr, 1) := by decide +kernel
theorem d_J_numberOfTrailingZeros_61 : decode c_J_numberOfTrailingZeros 61 = .ok (.istore_n 0, 1) := by decide +kernel
theorem d_J_numberOfTrailingZeros_62 : decode c_J_numberOfTrailingZeros 62 = .ok (.iload_n 0, 1) := by decide +kernel
theorem d_J_numberOfTrailingZeros_63 : decode c_J_numberOfTrailingZeros 63 = .ok (.iconst 4, 1) := by decide +kernel
theorem d_J_numberOfTrailingZeros_64 : decode c_J_numberOfTrailingZeros 64 = .ok (.if_icmp .le 10, 3) := by decide +kernel
theorem d_J_numberOfTrailingZeros_67 : decode c_J_numberOfTrailingZeros 67 = .ok (.iinc 1 2, 3) := by decide +kernel
theorem d_J_numberOfTrailingZeros_70 : decode c_J_numberOfTrailingZeros 70 = .ok (.iload_n 0, 1) := by decide +kernel
theorem d_J_numberOfTrailingZeros_71 : decode c_J_numberOfTrailingZeros 71 = .ok (.iconst 2, 1) := by decide +kernel
theorem d_J_numberOfTrailingZeros_72 : decode c_J_numberOfTrailingZeros 72 = .ok (.iushr, 1) := by decide +kernel
theorem d_J_numberOfTrailingZeros_73 : decode c_J_numberOfTrailingZeros 73 = .ok (.istore_n 0, 1) := by decide +kernel
theorem d_J_numberOfTrailingZeros_74 : decode c_J_numberOfTrailingZeros 74 = .ok (.iload_n 1, 1) := by decide +kernel
theorem d_J_numberOfTrailingZeros_75 : decode c_J_numberOfTrailingZeros 75 = .ok (.iload_n 0, 1) := by decide +kernel
theorem d_J_numberOfTrailingZeros_76 : decode c_J_numberOfTrailingZeros 76 = .ok (.iconst 1, 1) := by decide +kernel
theorem d_J_numberOfTrailingZeros_77 : decode c_J_numberOfTrailingZeros 77 = .ok (.iushr, 1) := by decide +kernel
theorem d_J_numberOfTrailingZeros_78 : decode c_J_numberOfTrailingZeros 78 = .ok (.iadd, 1) := by decide +kernel
theorem d_J_numberOfTrailingZeros_79 : decode c_J_numberOfTrailingZeros 79 = .ok (.ireturn, 1) := by decide +kernel
theorem d_M_copyExtent_0 : decode c_M_copyExtent 0 = .ok (.aload_n 0, 1) := by decide +kernel
theorem d_M_copyExtent_1 : decode c_M_copyExtent 1 = .ok (.getfield 11, 3) := by decide +kernel
theorem d_M_copyExtent_4 : decode c_M_copyExtent 4 = .ok (.aload_n 0, 1) := by decide +kernel
theorem d_M_copyExtent_5 : decode c_M_copyExtent 5 = .ok (.getfield 32, 3) := by decide +kernel
theorem d_M_copyExtent_8 : decode c_M_copyExtent 8 = .ok (.aaload, 1) := by decide +kernel
theorem d_M_copyExtent_9 : decode c_M_copyExtent 9 = .ok (.getfield 87, 3) := by decide +kernel
theorem d_M_copyExtent_12 : decode c_M_copyExtent 12 = .ok (.astore_n 2, 1) := by decide +kernel
theorem d_M_copyExtent_13 : decode c_M_copyExtent 13 = .ok (.aload_n 0, 1) := by decide +kernel
theorem d_M_copyExtent_14 : decode c_M_copyExtent 14 = .ok (.getfield 11, 3) := by decide +kernel
theorem d_M_copyExtent_17 : decode c_M_copyExtent 17 = .ok (.iconst 1, 1) := by decide +kernel
theorem d_M_copyExtent_18 : decode c_M_copyExtent 18 = .ok (.aload_n 0, 1) := by decide +kernel
theorem d_M_copyExtent_19 : decode c_M_copyExtent 19 = .ok (.getfield 32, 3) := by decide +kernel
theorem d_M_copyExtent_22 : decode c_M_copyExtent 22 = .ok (.isub, 1) := by decide +kernel
theorem d_M_copyExtent_23 : decode c_M_copyExtent 23 = .ok (.aaload, 1) := by decide +kernel
theorem d_M_copyExtent_24 : decode c_M_copyExtent 24 = .ok (.getfield 87, 3) := by decide +kernel
theorem d_M_copyExtent_27 : decode c_M_copyExtent 27 = .ok (.astore_n 3, 1) := by decide +kernel
theorem d_M_copyExtent_28 : decode c_M_copyExtent 28 = .ok (.iload_n 1, 1) := by decide +kernel
theorem d_M_copyExtent_29 : decode c_M_copyExtent 29 = .ok (.iconst 4, 1) := by decide +kernel
theorem d_M_copyExtent_30 : decode c_M_copyExtent 30 = .ok (.imul, 1) := by decide +kernel
theorem d_M_copyExtent_31 : decode c_M_copyExtent 31 = .ok (.istore 4, 2) := by decide +kernel
theorem d_M_copyExtent_33 : decode c_M_copyExtent 33 = .ok (.iload 4, 2) := by decide +kernel
theorem d_M_copyExtent_35 : decode c_M_copyExtent 35 = .ok (.istore 5, 2) := by decide +kernel
theorem d_M_copyExtent_37 : decode c_M_copyExtent 37 = .ok (.iload 5, 2) := by decide +kernel
theorem d_M_copyExtent_39 : decode c_M_copyExtent 39 = .ok (.iload 4, 2) := by decide +kernel
theorem d_M_copyExtent_41 : decode c_M_copyExtent 41 = .ok (.iconst 4, 1) := by decide +kernel
theorem d_M_copyExtent_42 : decode c_M_copyExtent 42 = .ok (.iadd, 1) := by decide +kernel
theorem d_M_copyExtent_43 : decode c_M_copyExtent 43 = .ok (.if_icmp .ge 21, 3) := by decide +kernel
theorem d_M_copyExtent_46 : decode c_M_copyExtent 46 = .ok (.aload_n 3, 1) := by decide +kernel
theorem d_M_copyExtent_47 : decode c_M_copyExtent 47 = .ok (.iload 5, 2) := by decide +kernel
theorem d_M_copyExtent_49 : decode c_M_copyExtent 49 = .ok (.aload_n 2, 1) := by decide +kernel
theorem d_M_copyExtent_50 : decode c_M_copyExtent 50 = .ok (.iload 5, 2) := by decide +kernel
theorem d_M_copyExtent_52 : decode c_M_copyExtent 52 = .ok (.invokevirtual 91, 3) := by decide +kernel
theorem d_M_copyExtent_55 : decode c_M_copyExtent 55 = .ok (.invokevirtual 199, 3) := by decide +kernel
theorem d_M_copyExtent_58 : decode c_M_copyExtent 58 = .ok (.iinc 5 1, 3) := by decide +kernel
theorem d_M_copyExtent_61 : decode c_M_copyExtent 61 = .ok (.goto (-24), 3) := by decide +kernel
theorem d_M_copyExtent_64 : decode c_M_copyExtent 64 = .ok (.return_, 1) := by decide +kernel
theorem d_M_promote_0 : decode c_M_promote 0 = .ok (.iload_n 1, 1) := by decide +kernel
theorem d_M_promote_1 : decode c_M_promote 1 = .ok (.invokestatic 97, 3) := by decide +kernel
theorem d_M_promote_4 : decode c_M_promote 4 = .ok (.ifCond .eq 15, 3) := by decide +kernel
theorem d_M_promote_7 : decode c_M_promote 7 = .ok (.aload_n 0, 1) := by decide +kernel
theorem d_M_promote_8 : decode c_M_promote 8 = .ok (.getfield 11, 3) := by decide +kernel
theorem d_M_promote_11 : decode c_M_promote 11 = .ok (.iload_n 1, 1) := by decide +kernel
theorem d_M_promote_12 : decode c_M_promote 12 = .ok (.aaload, 1) := by decide +kernel
theorem d_M_promote_13 : decode c_M_promote 13 = .ok (.invokevirtual 138, 3) := by decide +kernel
theorem d_M_promote_16 : decode c_M_promote 16 = .ok (.ifCond .ne 5, 3) := by decide +kernel
theorem d_M_promote_19 : decode c_M_promote 19 = .ok (.iconst (-1), 1) := by decide +kernel
theorem d_M_promote_20 : decode c_M_promote 20 = .ok (.ireturn, 1) := by decide +kernel
theorem d_M_promote_21 : decode c_M_promote 21 = .ok (.aload_n 0, 1) := by decide +kernel
theorem d_M_promote_22 : decode c_M_promote 22 = .ok (.getfield 11, 3) := by decide +kernel
theorem d_M_promote_25 : decode c_M_promote 25 = .ok (.iload_n 1, 1) := by decide +kernel
theorem d_M_promote_26 : decode c_M_promote 26 = .ok (.aaload, 1) := by decide +kernel
theorem d_M_promote_27 : decode c_M_promote 27 = .ok (.astore_n 3, 1) := by decide +kernel
theorem d_M_promote_28 : decode c_M_promote 28 = .ok (.aload_n 0, 1) := by decide +kernel
theorem d_M_promote_29 : decode c_M_promote 29 = .ok (.getfield 51, 3) := by decide +kernel
theorem d_M_promote_32 : decode c_M_promote 32 = .ok (.iconst 1, 1) := by decide +kernel
theorem d_M_promote_33 : decode c_M_promote 33 = .ok (.iload_n 1, 1) := by decide +kernel
theorem d_M_promote_34 : decode c_M_promote 34 = .ok (.isub, 1) := by decide +kernel
theorem d_M_promote_35 : decode c_M_promote 35 = .ok (.invokevirtual 142, 3) := by decide +kernel
theorem d_M_promote_38 : decode c_M_promote 38 = .ok (.ifCond .eq 6, 3) := by decide +kernel
theorem d_M_promote_41 : decode c_M_promote 41 = .ok (.bipush (-4), 2) := by decide +kernel
theorem d_M_promote_43 : decode c_M_promote 43 = .ok (.ireturn, 1) := by decide +kernel
theorem d_M_promote_44 : decode c_M_promote 44 = .ok (.aload_n 3, 1) := by decide +kernel
theorem d_M_promote_45 : decode c_M_promote 45 = .ok (.getfield 109, 3) := by decide +kernel
theorem d_M_promote_48 : decode c_M_promote 48 = .ok (.ifCond .ne 6, 3) := by decide +kernel
theorem d_M_promote_51 : decode c_M_promote 51 = .ok (.bipush (-6), 2) := by decide +kernel
theorem d_M_promote_53 : decode c_M_promote 53 = .ok (.ireturn, 1) := by decide +kernel
theorem d_M_promote_54 : decode c_M_promote 54 = .ok (.aload_n 3, 1) := by decide +kernel
theorem d_M_promote_55 : decode c_M_promote 55 = .ok (.getfield 109, 3) := by decide +kernel
theorem d_M_promote_58 : decode c_M_promote 58 = .ok (.aload_n 0, 1) := by decide +kernel
theorem d_M_promote_59 : decode c_M_promote 59 = .ok (.getfield 51, 3) := by decide +kernel
theorem d_M_promote_62 : decode c_M_promote 62 = .ok (.getfield 145, 3) := by decide +kernel
theorem d_M_promote_65 : decode c_M_promote 65 = .ok (.if_icmp .eq 7, 3) := by decide +kernel
theorem d_M_promote_68 : decode c_M_promote 68 = .ok (.iconst 1, 1) := by decide +kernel
theorem d_M_promote_69 : decode c_M_promote 69 = .ok (.goto 4, 3) := by decide +kernel
theorem d_M_promote_72 : decode c_M_promote 72 = .ok (.iconst 0, 1) := by decide +kernel
theorem d_M_promote_73 : decode c_M_promote 73 = .ok (.istore 4, 2) := by decide +kernel
theorem d_M_promote_75 : decode c_M_promote 75 = .ok (.iload 4, 2) := by decide +kernel
theorem d_M_promote_77 : decode c_M_promote 77 = .ok (.ifCond .eq 10, 3) := by decide +kernel
theorem d_M_promote_80 : decode c_M_promote 80 = .ok (.iload_n 2, 1) := by decide +kernel
theorem d_M_promote_81 : decode c_M_promote 81 = .ok (.ifCond .ne 6, 3) := by decide +kernel
theorem d_M_promote_84 : decode c_M_promote 84 = .ok (.bipush (-5), 2) := by decide +kernel
theorem d_M_promote_86 : decode c_M_promote 86 = .ok (.ireturn, 1) := by decide +kernel
theorem d_M_promote_87 : decode c_M_promote 87 = .ok (.aload_n 0, 1) := by decide +kernel
theorem d_M_promote_88 : decode c_M_promote 88 = .ok (.iconst 1, 1) := by decide +kernel
theorem d_M_promote_89 : decode c_M_promote 89 = .ok (.iload_n 1, 1) := by decide +kernel
theorem d_M_promote_90 : decode c_M_promote 90 = .ok (.isub, 1) := by decide +kernel
theorem d_M_promote_91 : decode c_M_promote 91 = .ok (.invokevirtual 146, 3) := by decide +kernel
theorem d_M_promote_94 : decode c_M_promote 94 = .ok (.aload_n 3, 1) := by decide +kernel
theorem d_M_promote_95 : decode c_M_promote 95 = .ok (.iconst 1, 1) := by decide +kernel
theorem d_M_promote_96 : decode c_M_promote 96 = .ok (.putfield 149, 3) := by decide +kernel
theorem d_M_promote_99 : decode c_M_promote 99 = .ok (.aload_n 0, 1) := by decide +kernel
theorem d_M_promote_100 : decode c_M_promote 100 = .ok (.getfield 51, 3) := by decide +kernel
theorem d_M_promote_103 : decode c_M_promote 103 = .ok (.iload_n 1, 1) := by decide +kernel
theorem d_M_promote_104 : decode c_M_promote 104 = .ok (.invokevirtual 152, 3) := by decide +kernel
theorem d_M_promote_107 : decode c_M_promote 107 = .ok (.iload 4, 2) := by decide +kernel
theorem d_M_promote_109 : decode c_M_promote 109 = .ok (.ifCond .ne 11, 3) := by decide +kernel
theorem d_M_promote_112 : decode c_M_promote 112 = .ok (.aload_n 0, 1) := by decide +kernel
theorem d_M_promote_113 : decode c_M_promote 113 = .ok (.iload_n 1, 1) := by decide +kernel
theorem d_M_promote_114 : decode c_M_promote 114 = .ok (.invokevirtual 70, 3) := by decide +kernel
theorem d_M_promote_117 : decode c_M_promote 117 = .ok (.ifCond .eq 8, 3) := by decide +kernel
theorem d_M_promote_120 : decode c_M_promote 120 = .ok (.aload_n 0, 1) := by decide +kernel
theorem d_M_promote_121 : decode c_M_promote 121 = .ok (.iload_n 1, 1) := by decide +kernel
theorem d_M_promote_122 : decode c_M_promote 122 = .ok (.invokevirtual 76, 3) := by decide +kernel
theorem d_M_promote_125 : decode c_M_promote 125 = .ok (.aload_n 0, 1) := by decide +kernel
theorem d_M_promote_126 : decode c_M_promote 126 = .ok (.iload_n 1, 1) := by decide +kernel
theorem d_M_promote_127 : decode c_M_promote 127 = .ok (.invokevirtual 155, 3) := by decide +kernel
theorem d_M_promote_130 : decode c_M_promote 130 = .ok (.aload_n 0, 1) := by decide +kernel
theorem d_M_promote_131 : decode c_M_promote 131 = .ok (.iload_n 1, 1) := by decide +kernel
theorem d_M_promote_132 : decode c_M_promote 132 = .ok (.invokevirtual 158, 3) := by decide +kernel
theorem d_M_promote_135 : decode c_M_promote 135 = .ok (.ireturn, 1) := by decide +kernel
theorem d_N_mayAskForLease_0 : decode c_N_mayAskForLease 0 = .ok (.aload_n 0, 1) := by decide +kernel
theorem d_N_mayAskForLease_1 : decode c_N_mayAskForLease 1 = .ok (.getfield 16, 3) := by decide +kernel
theorem d_N_mayAskForLease_4 : decode c_N_mayAskForLease 4 = .ok (.ifCond .eq 21, 3) := by decide +kernel
theorem d_N_mayAskForLease_7 : decode c_N_mayAskForLease 7 = .ok (.aload_n 0, 1) := by decide +kernel
theorem d_N_mayAskForLease_8 : decode c_N_mayAskForLease 8 = .ok (.getfield 20, 3) := by decide +kernel
theorem d_N_mayAskForLease_11 : decode c_N_mayAskForLease 11 = .ok (.ifCond .ne 14, 3) := by decide +kernel
theorem d_N_mayAskForLease_14 : decode c_N_mayAskForLease 14 = .ok (.aload_n 0, 1) := by decide +kernel
theorem d_N_mayAskForLease_15 : decode c_N_mayAskForLease 15 = .ok (.getfield 36, 3) := by decide +kernel
theorem d_N_mayAskForLease_18 : decode c_N_mayAskForLease 18 = .ok (.ifCond .eq 7, 3) := by decide +kernel
theorem d_N_mayAskForLease_21 : decode c_N_mayAskForLease 21 = .ok (.iconst 1, 1) := by decide +kernel
theorem d_N_mayAskForLease_22 : decode c_N_mayAskForLease 22 = .ok (.goto 4, 3) := by decide +kernel
theorem d_N_mayAskForLease_25 : decode c_N_mayAskForLease 25 = .ok (.iconst 0, 1) := by decide +kernel
theorem d_N_mayAskForLease_26 : decode c_N_mayAskForLease 26 = .ok (.ireturn, 1) := by decide +kernel
theorem d_T_isLentTo_0 : decode c_T_isLentTo 0 = .ok (.aload_n 0, 1) := by decide +kernel
theorem d_T_isLentTo_1 : decode c_T_isLentTo 1 = .ok (.getfield 18, 3) := by decide +kernel
theorem d_T_isLentTo_4 : decode c_T_isLentTo 4 = .ok (.iload_n 1, 1) := by decide +kernel
theorem d_T_isLentTo_5 : decode c_T_isLentTo 5 = .ok (.if_icmp .ne 14, 3) := by decide +kernel
theorem d_T_isLentTo_8 : decode c_T_isLentTo 8 = .ok (.aload_n 0, 1) := by decide +kernel
theorem d_T_isLentTo_9 : decode c_T_isLentTo 9 = .ok (.invokevirtual 27, 3) := by decide +kernel
theorem d_T_isLentTo_12 : decode c_T_isLentTo 12 = .ok (.ifCond .eq 7, 3) := by decide +kernel
theorem d_T_isLentTo_15 : decode c_T_isLentTo 15 = .ok (.iconst 1, 1) := by decide +kernel
theorem d_T_isLentTo_16 : decode c_T_isLentTo 16 = .ok (.goto 4, 3) := by decide +kernel
theorem d_T_isLentTo_19 : decode c_T_isLentTo 19 = .ok (.iconst 0, 1) := by decide +kernel
theorem d_T_isLentTo_20 : decode c_T_isLentTo 20 = .ok (.ireturn, 1) := by decide +kernel
theorem d_T_isRunning_0 : decode c_T_isRunning 0 = .ok (.aload_n 0, 1) := by decide +kernel
theorem d_T_isRunning_1 : decode c_T_isRunning 1 = .ok (.getfield 18, 3) := by decide +kernel
theorem d_T_isRunning_4 : decode c_T_isRunning 4 = .ok (.iconst 2, 1) := by decide +kernel
theorem d_T_isRunning_5 : decode c_T_isRunning 5 = .ok (.if_icmp .eq 18, 3) := by decide +kernel
theorem d_T_isRunning_8 : decode c_T_isRunning 8 = .ok (.aload_n 0, 1) := by decide +kernel
theorem d_T_isRunning_9 : decode c_T_isRunning 9 = .ok (.getfield 21, 3) := by decide +kernel
theorem d_T_isRunning_12 : decode c_T_isRunning 12 = .ok (.aload_n 0, 1) := by decide +kernel
theorem d_T_isRunning_13 : decode c_T_isRunning 13 = .ok (.getfield 15, 3) := by decide +kernel
theorem d_T_isRunning_16 : decode c_T_isRunning 16 = .ok (.if_icmp .le 7, 3) := by decide +kernel
theorem d_T_isRunning_19 : decode c_T_isRunning 19 = .ok (.iconst 1, 1) := by decide +kernel
theorem d_T_isRunning_20 : decode c_T_isRunning 20 = .ok (.goto 4, 3) := by decide +kernel
theorem d_T_isRunning_23 : decode c_T_isRunning 23 = .ok (.iconst 0, 1) := by decide +kernel
theorem d_T_isRunning_24 : decode c_T_isRunning 24 = .ok (.ireturn, 1) := by decide +kernel
theorem d_T_lendTo_0 : decode c_T_lendTo 0 = .ok (.aload_n 0, 1) := by decide +kernel
theorem d_T_lendTo_1 : decode c_T_lendTo 1 = .ok (.iload_n 1, 1) := by decide +kernel
theorem d_T_lendTo_2 : decode c_T_lendTo 2 = .ok (.putfield 18, 3) := by decide +kernel
theorem d_T_lendTo_5 : decode c_T_lendTo 5 = .ok (.aload_n 0, 1) := by decide +kernel
theorem d_T_lendTo_6 : decode c_T_lendTo 6 = .ok (.invokevirtual 31, 3) := by decide +kernel
theorem d_T_lendTo_9 : decode c_T_lendTo 9 = .ok (.return_, 1) := by decide +kernel
theorem d_T_extendLease_0 : decode c_T_extendLease 0 = .ok (.aload_n 0, 1) := by decide +kernel
theorem d_T_extendLease_1 : decode c_T_extendLease 1 = .ok (.aload_n 0, 1) := by decide +kernel
theorem d_T_extendLease_2 : decode c_T_extendLease 2 = .ok (.getfield 15, 3) := by decide +kernel
theorem d_T_extendLease_5 : decode c_T_extendLease 5 = .ok (.aload_n 0, 1) := by decide +kernel
theorem d_T_extendLease_6 : decode c_T_extendLease 6 = .ok (.getfield 24, 3) := by decide +kernel
theorem d_T_extendLease_9 : decode c_T_extendLease 9 = .ok (.iadd, 1) := by decide +kernel
theorem d_T_extendLease_10 : decode c_T_extendLease 10 = .ok (.putfield 21, 3) := by decide +kernel
theorem d_T_extendLease_13 : decode c_T_extendLease 13 = .ok (.return_, 1) := by decide +kernel
theorem d_M_redoJournal_0 : decode c_M_redoJournal 0 = .ok (.aload_n 0, 1) := by decide +kernel
theorem d_M_redoJournal_1 : decode c_M_redoJournal 1 = .ok (.getfield 11, 3) := by decide +kernel
theorem d_M_redoJournal_4 : decode c_M_redoJournal 4 = .ok (.iload_n 1, 1) := by decide +kernel
theorem d_M_redoJournal_5 : decode c_M_redoJournal 5 = .ok (.aaload, 1) := by decide +kernel
theorem d_M_redoJournal_6 : decode c_M_redoJournal 6 = .ok (.getfield 87, 3) := by decide +kernel
theorem d_M_redoJournal_9 : decode c_M_redoJournal 9 = .ok (.astore_n 2, 1) := by decide +kernel
theorem d_M_redoJournal_10 : decode c_M_redoJournal 10 = .ok (.aload_n 2, 1) := by decide +kernel
theorem d_M_redoJournal_11 : decode c_M_redoJournal 11 = .ok (.bipush 24, 2) := by decide +kernel
theorem d_M_redoJournal_13 : decode c_M_redoJournal 13 = .ok (.invokevirtual 91, 3) := by decide +kernel
theorem d_M_redoJournal_16 : decode c_M_redoJournal 16 = .ok (.istore_n 3, 1) := by decide +kernel
theorem d_M_redoJournal_17 : decode c_M_redoJournal 17 = .ok (.iload_n 3, 1) := by decide +kernel
theorem d_M_redoJournal_18 : decode c_M_redoJournal 18 = .ok (.iconst 1, 1) := by decide +kernel
theorem d_M_redoJournal_19 : decode c_M_redoJournal 19 = .ok (.if_icmp .lt 8, 3) := by decide +kernel
theorem d_M_redoJournal_22 : decode c_M_redoJournal 22 = .ok (.iload_n 3, 1) := by decide +kernel
theorem d_M_redoJournal_23 : decode c_M_redoJournal 23 = .ok (.iconst 3, 1) := by decide +kernel
theorem d_M_redoJournal_24 : decode c_M_redoJournal 24 = .ok (.if_icmp .le 5, 3) := by decide +kernel
theorem d_M_redoJournal_27 : decode c_M_redoJournal 27 = .ok (.iconst 0, 1) := by decide +kernel
theorem d_M_redoJournal_28 : decode c_M_redoJournal 28 = .ok (.ireturn, 1) := by decide +kernel
theorem d_M_redoJournal_29 : decode c_M_redoJournal 29 = .ok (.iconst 0, 1) := by decide +kernel
theorem d_M_redoJournal_30 : decode c_M_redoJournal 30 = .ok (.istore 4, 2) := by decide +kernel
theorem d_M_redoJournal_32 : decode c_M_redoJournal 32 = .ok (.iload 4, 2) := by decide +kernel
theorem d_M_redoJournal_34 : decode c_M_redoJournal 34 = .ok (.iload_n 3, 1) := by decide +kernel
theorem d_M_redoJournal_35 : decode c_M_redoJournal 35 = .ok (.if_icmp .ge 50, 3) := by decide +kernel
theorem d_M_redoJournal_38 : decode c_M_redoJournal 38 = .ok (.aload_n 2, 1) := by decide +kernel
theorem d_M_redoJournal_39 : decode c_M_redoJournal 39 = .ok (.bipush 25, 2) := by decide +kernel
theorem d_M_redoJournal_41 : decode c_M_redoJournal 41 = .ok (.iconst 2, 1) := by decide +kernel
theorem d_M_redoJournal_42 : decode c_M_redoJournal 42 = .ok (.iload 4, 2) := by decide +kernel
theorem d_M_redoJournal_44 : decode c_M_redoJournal 44 = .ok (.imul, 1) := by decide +kernel
theorem d_M_redoJournal_45 : decode c_M_redoJournal 45 = .ok (.iadd, 1) := by decide +kernel
theorem d_M_redoJournal_46 : decode c_M_redoJournal 46 = .ok (.invokevirtual 91, 3) := by decide +kernel
theorem d_M_redoJournal_49 : decode c_M_redoJournal 49 = .ok (.istore 5, 2) := by decide +kernel
theorem d_M_redoJournal_51 : decode c_M_redoJournal 51 = .ok (.iload 5, 2) := by decide +kernel
theorem d_M_redoJournal_53 : decode c_M_redoJournal 53 = .ok (.invokestatic 55, 3) := by decide +kernel
theorem d_M_redoJournal_56 : decode c_M_redoJournal 56 = .ok (.ifCond .eq 23, 3) := by decide +kernel
theorem d_M_redoJournal_59 : decode c_M_redoJournal 59 = .ok (.aload_n 0, 1) := by decide +kernel
theorem d_M_redoJournal_60 : decode c_M_redoJournal 60 = .ok (.iload_n 1, 1) := by decide +kernel
theorem d_M_redoJournal_61 : decode c_M_redoJournal 61 = .ok (.iload 5, 2) := by decide +kernel
theorem d_M_redoJournal_63 : decode c_M_redoJournal 63 = .ok (.aload_n 2, 1) := by decide +kernel
theorem d_M_redoJournal_64 : decode c_M_redoJournal 64 = .ok (.bipush 25, 2) := by decide +kernel
theorem d_M_redoJournal_66 : decode c_M_redoJournal 66 = .ok (.iconst 2, 1) := by decide +kernel
theorem d_M_redoJournal_67 : decode c_M_redoJournal 67 = .ok (.iload 4, 2) := by decide +kernel
theorem d_M_redoJournal_69 : decode c_M_redoJournal 69 = .ok (.imul, 1) := by decide +kernel
theorem d_M_redoJournal_70 : decode c_M_redoJournal 70 = .ok (.iadd, 1) := by decide +kernel
theorem d_M_redoJournal_71 : decode c_M_redoJournal 71 = .ok (.iconst 1, 1) := by decide +kernel
theorem d_M_redoJournal_72 : decode c_M_redoJournal 72 = .ok (.iadd, 1) := by decide +kernel
theorem d_M_redoJournal_73 : decode c_M_redoJournal 73 = .ok (.invokevirtual 91, 3) := by decide +kernel
theorem d_M_redoJournal_76 : decode c_M_redoJournal 76 = .ok (.invokevirtual 205, 3) := by decide +kernel
theorem d_M_redoJournal_79 : decode c_M_redoJournal 79 = .ok (.iinc 4 1, 3) := by decide +kernel
theorem d_M_redoJournal_82 : decode c_M_redoJournal 82 = .ok (.goto (-50), 3) := by decide +kernel
theorem d_M_redoJournal_85 : decode c_M_redoJournal 85 = .ok (.iload_n 3, 1) := by decide +kernel
theorem d_M_redoJournal_86 : decode c_M_redoJournal 86 = .ok (.ireturn, 1) := by decide +kernel
theorem d_M_demote_0 : decode c_M_demote 0 = .ok (.iload_n 1, 1) := by decide +kernel
theorem d_M_demote_1 : decode c_M_demote 1 = .ok (.invokestatic 97, 3) := by decide +kernel
theorem d_M_demote_4 : decode c_M_demote 4 = .ok (.ifCond .eq 15, 3) := by decide +kernel
theorem d_M_demote_7 : decode c_M_demote 7 = .ok (.aload_n 0, 1) := by decide +kernel
theorem d_M_demote_8 : decode c_M_demote 8 = .ok (.getfield 11, 3) := by decide +kernel
theorem d_M_demote_11 : decode c_M_demote 11 = .ok (.iload_n 1, 1) := by decide +kernel
theorem d_M_demote_12 : decode c_M_demote 12 = .ok (.aaload, 1) := by decide +kernel
theorem d_M_demote_13 : decode c_M_demote 13 = .ok (.getfield 149, 3) := by decide +kernel
theorem d_M_demote_16 : decode c_M_demote 16 = .ok (.ifCond .ne 5, 3) := by decide +kernel
theorem d_M_demote_19 : decode c_M_demote 19 = .ok (.iconst (-1), 1) := by decide +kernel
theorem d_M_demote_20 : decode c_M_demote 20 = .ok (.ireturn, 1) := by decide +kernel
theorem d_M_demote_21 : decode c_M_demote 21 = .ok (.aload_n 0, 1) := by decide +kernel
theorem d_M_demote_22 : decode c_M_demote 22 = .ok (.iload_n 1, 1) := by decide +kernel
theorem d_M_demote_23 : decode c_M_demote 23 = .ok (.invokevirtual 146, 3) := by decide +kernel
theorem d_M_demote_26 : decode c_M_demote 26 = .ok (.aload_n 0, 1) := by decide +kernel
theorem d_M_demote_27 : decode c_M_demote 27 = .ok (.getfield 51, 3) := by decide +kernel
theorem d_M_demote_30 : decode c_M_demote 30 = .ok (.getfield 161, 3) := by decide +kernel
theorem d_M_demote_33 : decode c_M_demote 33 = .ok (.iload_n 1, 1) := by decide +kernel
theorem d_M_demote_34 : decode c_M_demote 34 = .ok (.if_icmp .ne 11, 3) := by decide +kernel
theorem d_M_demote_37 : decode c_M_demote 37 = .ok (.aload_n 0, 1) := by decide +kernel
theorem d_M_demote_38 : decode c_M_demote 38 = .ok (.getfield 51, 3) := by decide +kernel
theorem d_M_demote_41 : decode c_M_demote 41 = .ok (.iconst 2, 1) := by decide +kernel
theorem d_M_demote_42 : decode c_M_demote 42 = .ok (.putfield 161, 3) := by decide +kernel
theorem d_M_demote_45 : decode c_M_demote 45 = .ok (.iconst 0, 1) := by decide +kernel
theorem d_M_demote_46 : decode c_M_demote 46 = .ok (.ireturn, 1) := by decide +kernel
theorem d_M_renew_0 : decode c_M_renew 0 = .ok (.aload_n 0, 1) := by decide +kernel
theorem d_M_renew_1 : decode c_M_renew 1 = .ok (.invokevirtual 59, 3) := by decide +kernel
theorem d_M_renew_4 : decode c_M_renew 4 = .ok (.istore_n 1, 1) := by decide +kernel
theorem d_M_renew_5 : decode c_M_renew 5 = .ok (.iload_n 1, 1) := by decide +kernel
theorem d_M_renew_6 : decode c_M_renew 6 = .ok (.iconst 2, 1) := by decide +kernel
theorem d_M_renew_7 : decode c_M_renew 7 = .ok (.if_icmp .eq 15, 3) := by decide +kernel
theorem d_M_renew_10 : decode c_M_renew 10 = .ok (.aload_n 0, 1) := by decide +kernel
theorem d_M_renew_11 : decode c_M_renew 11 = .ok (.getfield 11, 3) := by decide +kernel
theorem d_M_renew_14 : decode c_M_renew 14 = .ok (.iload_n 1, 1) := by decide +kernel
theorem d_M_renew_15 : decode c_M_renew 15 = .ok (.aaload, 1) := by decide +kernel
theorem d_M_renew_16 : decode c_M_renew 16 = .ok (.getfield 73, 3) := by decide +kernel
theorem d_M_renew_19 : decode c_M_renew 19 = .ok (.ifCond .ne 5, 3) := by decide +kernel
theorem d_M_renew_22 : decode c_M_renew 22 = .ok (.iconst (-1), 1) := by decide +kernel
theorem d_M_renew_23 : decode c_M_renew 23 = .ok (.ireturn, 1) := by decide +kernel
theorem d_M_renew_24 : decode c_M_renew 24 = .ok (.aload_n 0, 1) := by decide +kernel
theorem d_M_renew_25 : decode c_M_renew 25 = .ok (.getfield 51, 3) := by decide +kernel
theorem d_M_renew_28 : decode c_M_renew 28 = .ok (.invokevirtual 164, 3) := by decide +kernel
theorem d_M_renew_31 : decode c_M_renew 31 = .ok (.aload_n 0, 1) := by decide +kernel
theorem d_M_renew_32 : decode c_M_renew 32 = .ok (.getfield 51, 3) := by decide +kernel
theorem d_M_renew_35 : decode c_M_renew 35 = .ok (.getfield 167, 3) := by decide +kernel
theorem d_M_renew_38 : decode c_M_renew 38 = .ok (.ireturn, 1) := by decide +kernel
theorem d_M_tick_0 : decode c_M_tick 0 = .ok (.iload_n 1, 1) := by decide +kernel
theorem d_M_tick_1 : decode c_M_tick 1 = .ok (.ifCond .lt 9, 3) := by decide +kernel
theorem d_M_tick_4 : decode c_M_tick 4 = .ok (.iload_n 1, 1) := by decide +kernel
theorem d_M_tick_5 : decode c_M_tick 5 = .ok (.bipush 100, 2) := by decide +kernel
theorem d_M_tick_7 : decode c_M_tick 7 = .ok (.if_icmp .le 5, 3) := by decide +kernel
theorem d_M_tick_10 : decode c_M_tick 10 = .ok (.iconst (-1), 1) := by decide +kernel
theorem d_M_tick_11 : decode c_M_tick 11 = .ok (.ireturn, 1) := by decide +kernel
theorem d_M_tick_12 : decode c_M_tick 12 = .ok (.aload_n 0, 1) := by decide +kernel
theorem d_M_tick_13 : decode c_M_tick 13 = .ok (.getfield 51, 3) := by decide +kernel
theorem d_M_tick_16 : decode c_M_tick 16 = .ok (.dup, 1) := by decide +kernel
theorem d_M_tick_17 : decode c_M_tick 17 = .ok (.getfield 170, 3) := by decide +kernel
theorem d_M_tick_20 : decode c_M_tick 20 = .ok (.iload_n 1, 1) := by decide +kernel
theorem d_M_tick_21 : decode c_M_tick 21 = .ok (.iadd, 1) := by decide +kernel
theorem d_M_tick_22 : decode c_M_tick 22 = .ok (.putfield 170, 3) := by decide +kernel
theorem d_M_tick_25 : decode c_M_tick 25 = .ok (.aload_n 0, 1) := by decide +kernel
theorem d_M_tick_26 : decode c_M_tick 26 = .ok (.getfield 51, 3) := by decide +kernel
theorem d_M_tick_29 : decode c_M_tick 29 = .ok (.invokevirtual 173, 3) := by decide +kernel
theorem d_M_tick_32 : decode c_M_tick 32 = .ok (.ifCond .ne 21, 3) := by decide +kernel
theorem d_M_tick_35 : decode c_M_tick 35 = .ok (.aload_n 0, 1) := by decide +kernel
theorem d_M_tick_36 : decode c_M_tick 36 = .ok (.getfield 51, 3) := by decide +kernel
theorem d_M_tick_39 : decode c_M_tick 39 = .ok (.iconst 2, 1) := by decide +kernel
theorem d_M_tick_40 : decode c_M_tick 40 = .ok (.putfield 161, 3) := by decide +kernel
theorem d_M_tick_43 : decode c_M_tick 43 = .ok (.aload_n 0, 1) := by decide +kernel
theorem d_M_tick_44 : decode c_M_tick 44 = .ok (.iconst 0, 1) := by decide +kernel
theorem d_M_tick_45 : decode c_M_tick 45 = .ok (.invokevirtual 146, 3) := by decide +kernel
theorem d_M_tick_48 : decode c_M_tick 48 = .ok (.aload_n 0, 1) := by decide +kernel
theorem d_M_tick_49 : decode c_M_tick 49 = .ok (.iconst 1, 1) := by decide +kernel
theorem d_M_tick_50 : decode c_M_tick 50 = .ok (.invokevirtual 146, 3) := by decide +kernel
theorem d_M_tick_53 : decode c_M_tick 53 = .ok (.aload_n 0, 1) := by decide +kernel
theorem d_M_tick_54 : decode c_M_tick 54 = .ok (.getfield 51, 3) := by decide +kernel
theorem d_M_tick_57 : decode c_M_tick 57 = .ok (.getfield 170, 3) := by decide +kernel
theorem d_M_tick_60 : decode c_M_tick 60 = .ok (.ireturn, 1) := by decide +kernel
theorem d_M_block_0 : decode c_M_block 0 = .ok (.iload_n 1, 1) := by decide +kernel
theorem d_M_block_1 : decode c_M_block 1 = .ok (.invokestatic 97, 3) := by decide +kernel
theorem d_M_block_4 : decode c_M_block 4 = .ok (.ifCond .eq 13, 3) := by decide +kernel
theorem d_M_block_7 : decode c_M_block 7 = .ok (.iload_n 2, 1) := by decide +kernel
theorem d_M_block_8 : decode c_M_block 8 = .ok (.ifCond .lt 9, 3) := by decide +kernel
theorem d_M_block_11 : decode c_M_block 11 = .ok (.iload_n 2, 1) := by decide +kernel
theorem d_M_block_12 : decode c_M_block 12 = .ok (.bipush 32, 2) := by decide +kernel
theorem d_M_block_14 : decode c_M_block 14 = .ok (.if_icmp .lt 7, 3) := by decide +kernel
theorem d_M_block_17 : decode c_M_block 17 = .ok (.ldc2_w 85, 3) := by decide +kernel
theorem d_M_block_20 : decode c_M_block 20 = .ok (.lreturn, 1) := by decide +kernel
theorem d_M_block_21 : decode c_M_block 21 = .ok (.aload_n 0, 1) := by decide +kernel
theorem d_M_block_22 : decode c_M_block 22 = .ok (.getfield 11, 3) := by decide +kernel
theorem d_M_block_25 : decode c_M_block 25 = .ok (.iload_n 1, 1) := by decide +kernel
theorem d_M_block_26 : decode c_M_block 26 = .ok (.aaload, 1) := by decide +kernel
theorem d_M_block_27 : decode c_M_block 27 = .ok (.getfield 87, 3) := by decide +kernel
theorem d_M_block_30 : decode c_M_block 30 = .ok (.astore 4, 2) := by decide +kernel
theorem d_M_block_32 : decode c_M_block 32 = .ok (.iload_n 3, 1) := by decide +kernel
theorem d_M_block_33 : decode c_M_block 33 = .ok (.ifCond .eq 14, 3) := by decide +kernel
theorem d_M_block_36 : decode c_M_block 36 = .ok (.aload 4, 2) := by decide +kernel
theorem d_M_block_38 : decode c_M_block 38 = .ok (.getfield 176, 3) := by decide +kernel
theorem d_M_block_41 : decode c_M_block 41 = .ok (.iload_n 2, 1) := by decide +kernel
theorem d_M_block_42 : decode c_M_block 42 = .ok (.iaload, 1) := by decide +kernel
theorem d_M_block_43 : decode c_M_block 43 = .ok (.i2l, 1) := by decide +kernel
theorem d_M_block_44 : decode c_M_block 44 = .ok (.goto 10, 3) := by decide +kernel
theorem d_M_block_47 : decode c_M_block 47 = .ok (.aload 4, 2) := by decide +kernel
theorem d_M_block_49 : decode c_M_block 49 = .ok (.iload_n 2, 1) := by decide +kernel
theorem d_M_block_50 : decode c_M_block 50 = .ok (.invokevirtual 91, 3) := by decide +kernel
theorem d_M_block_53 : decode c_M_block 53 = .ok (.i2l, 1) := by decide +kernel
theorem d_M_block_54 : decode c_M_block 54 = .ok (.lreturn, 1) := by decide +kernel
theorem d_M_node_0 : decode c_M_node 0 = .ok (.iload_n 1, 1) := by decide +kernel
theorem d_M_node_1 : decode c_M_node 1 = .ok (.invokestatic 97, 3) := by decide +kernel
theorem d_M_node_4 : decode c_M_node 4 = .ok (.ifCond .ne 5, 3) := by decide +kernel
theorem d_M_node_7 : decode c_M_node 7 = .ok (.iconst (-1), 1) := by decide +kernel
theorem d_M_node_8 : decode c_M_node 8 = .ok (.ireturn, 1) := by decide +kernel
theorem d_M_node_9 : decode c_M_node 9 = .ok (.aload_n 0, 1) := by decide +kernel
theorem d_M_node_10 : decode c_M_node 10 = .ok (.getfield 11, 3) := by decide +kernel
theorem d_M_node_13 : decode c_M_node 13 = .ok (.iload_n 1, 1) := by decide +kernel
theorem d_M_node_14 : decode c_M_node 14 = .ok (.aaload, 1) := by decide +kernel
theorem d_M_node_15 : decode c_M_node 15 = .ok (.astore_n 3, 1) := by decide +kernel
theorem d_M_node_16 : decode c_M_node 16 = .ok (.iload_n 2, 1) := by decide +kernel
theorem d_M_node_17 : decode c_M_node 17 = .ok (.tableswitch 102 0 7 #[47, 55, 63, 68, 73, 81, 86, 94], 47) := by decide +kernel
theorem d_M_node_64 : decode c_M_node 64 = .ok (.aload_n 3, 1) := by decide +kernel
theorem d_M_node_65 : decode c_M_node 65 = .ok (.getfield 100, 3) := by decide +kernel
theorem d_M_node_68 : decode c_M_node 68 = .ok (.invokestatic 180, 3) := by decide +kernel
theorem d_M_node_71 : decode c_M_node 71 = .ok (.ireturn, 1) := by decide +kernel
theorem d_M_node_72 : decode c_M_node 72 = .ok (.aload_n 3, 1) := by decide +kernel
theorem d_M_node_73 : decode c_M_node 73 = .ok (.getfield 149, 3) := by decide +kernel
theorem d_M_node_76 : decode c_M_node 76 = .ok (.invokestatic 180, 3) := by decide +kernel
theorem d_M_node_79 : decode c_M_node 79 = .ok (.ireturn, 1) := by decide +kernel
theorem d_M_node_80 : decode c_M_node 80 = .ok (.aload_n 3, 1) := by decide +kernel
theorem d_M_node_81 : decode c_M_node 81 = .ok (.getfield 109, 3) := by decide +kernel
theorem d_M_node_84 : decode c_M_node 84 = .ok (.ireturn, 1) := by decide +kernel
theorem d_M_node_85 : decode c_M_node 85 = .ok (.aload_n 3, 1) := by decide +kernel
theorem d_M_node_86 : decode c_M_node 86 = .ok (.getfield 184, 3) := by decide +kernel
theorem d_M_node_89 : decode c_M_node 89 = .ok (.ireturn, 1) := by decide +kernel
theorem d_M_node_90 : decode c_M_node 90 = .ok (.aload_n 3, 1) := by decide +kernel
theorem d_M_node_91 : decode c_M_node 91 = .ok (.getfield 187, 3) := by decide +kernel
theorem d_M_node_94 : decode c_M_node 94 = .ok (.invokestatic 180, 3) := by decide +kernel
theorem d_M_node_97 : decode c_M_node 97 = .ok (.ireturn, 1) := by decide +kernel
theorem d_M_node_98 : decode c_M_node 98 = .ok (.aload_n 3, 1) := by decide +kernel
theorem d_M_node_99 : decode c_M_node 99 = .ok (.getfield 129, 3) := by decide +kernel
theorem d_M_node_102 : decode c_M_node 102 = .ok (.ireturn, 1) := by decide +kernel
theorem d_M_node_103 : decode c_M_node 103 = .ok (.aload_n 3, 1) := by decide +kernel
theorem d_M_node_104 : decode c_M_node 104 = .ok (.getfield 87, 3) := by decide +kernel
theorem d_M_node_107 : decode c_M_node 107 = .ok (.invokevirtual 190, 3) := by decide +kernel
theorem d_M_node_110 : decode c_M_node 110 = .ok (.ireturn, 1) := by decide +kernel
theorem d_M_node_111 : decode c_M_node 111 = .ok (.aload_n 3, 1) := by decide +kernel
theorem d_M_node_112 : decode c_M_node 112 = .ok (.getfield 73, 3) := by decide +kernel
theorem d_M_node_115 : decode c_M_node 115 = .ok (.invokestatic 180, 3) := by decide +kernel
theorem d_M_node_118 : decode c_M_node 118 = .ok (.ireturn, 1) := by decide +kernel
theorem d_M_node_119 : decode c_M_node 119 = .ok (.iconst (-1), 1) := by decide +kernel
theorem d_M_node_120 : decode c_M_node 120 = .ok (.ireturn, 1) := by decide +kernel
theorem d_M_asNumber_0 : decode c_M_asNumber 0 = .ok (.iload_n 0, 1) := by decide +kernel
theorem d_M_asNumber_1 : decode c_M_asNumber 1 = .ok (.ifCond .eq 7, 3) := by decide +kernel
theorem d_M_asNumber_4 : decode c_M_asNumber 4 = .ok (.iconst 1, 1) := by decide +kernel
theorem d_M_asNumber_5 : decode c_M_asNumber 5 = .ok (.goto 4, 3) := by decide +kernel
theorem d_M_asNumber_8 : decode c_M_asNumber 8 = .ok (.iconst 0, 1) := by decide +kernel
theorem d_M_asNumber_9 : decode c_M_asNumber 9 = .ok (.ireturn, 1) := by decide +kernel
theorem d_D_countCached_0 : decode c_D_countCached 0 = .ok (.aload_n 0, 1) := by decide +kernel
theorem d_D_countCached_1 : decode c_D_countCached 1 = .ok (.getfield 18, 3) := by decide +kernel
theorem d_D_countCached_4 : decode c_D_countCached 4 = .ok (.invokestatic 30, 3) := by decide +kernel
theorem d_D_countCached_7 : decode c_D_countCached 7 = .ok (.ireturn, 1) := by decide +kernel
theorem d_M_mirror_0 : decode c_M_mirror 0 = .ok (.iload_n 1, 1) := by decide +kernel
theorem d_M_mirror_1 : decode c_M_mirror 1 = .ok (.tableswitch 122 0 6 #[43, 51, 67, 75, 83, 106, 114], 43) := by decide +kernel
theorem d_M_mirror_44 : decode c_M_mirror 44 = .ok (.aload_n 0, 1) := by decide +kernel
theorem d_M_mirror_45 : decode c_M_mirror 45 = .ok (.getfield 26, 3) := by decide +kernel
theorem d_M_mirror_48 : decode c_M_mirror 48 = .ok (.invokestatic 180, 3) := by decide +kernel
theorem d_M_mirror_51 : decode c_M_mirror 51 = .ok (.ireturn, 1) := by decide +kernel
theorem d_M_mirror_52 : decode c_M_mirror 52 = .ok (.aload_n 0, 1) := by decide +kernel
theorem d_M_mirror_53 : decode c_M_mirror 53 = .ok (.getfield 29, 3) := by decide +kernel
theorem d_M_mirror_56 : decode c_M_mirror 56 = .ok (.ifCond .eq 10, 3) := by decide +kernel
theorem d_M_mirror_59 : decode c_M_mirror 59 = .ok (.aload_n 0, 1) := by decide +kernel
theorem d_M_mirror_60 : decode c_M_mirror 60 = .ok (.getfield 32, 3) := by decide +kernel
theorem d_M_mirror_63 : decode c_M_mirror 63 = .ok (.goto 4, 3) := by decide +kernel
theorem d_M_mirror_66 : decode c_M_mirror 66 = .ok (.iconst 2, 1) := by decide +kernel
theorem d_M_mirror_67 : decode c_M_mirror 67 = .ok (.ireturn, 1) := by decide +kernel
theorem d_M_mirror_68 : decode c_M_mirror 68 = .ok (.aload_n 0, 1) := by decide +kernel
theorem d_M_mirror_69 : decode c_M_mirror 69 = .ok (.getfield 51, 3) := by decide +kernel
theorem d_M_mirror_72 : decode c_M_mirror 72 = .ok (.getfield 145, 3) := by decide +kernel
theorem d_M_mirror_75 : decode c_M_mirror 75 = .ok (.ireturn, 1) := by decide +kernel
theorem d_M_mirror_76 : decode c_M_mirror 76 = .ok (.aload_n 0, 1) := by decide +kernel
theorem d_M_mirror_77 : decode c_M_mirror 77 = .ok (.getfield 51, 3) := by decide +kernel
theorem d_M_mirror_80 : decode c_M_mirror 80 = .ok (.getfield 161, 3) := by decide +kernel
theorem d_M_mirror_83 : decode c_M_mirror 83 = .ok (.ireturn, 1) := by decide +kernel
theorem d_M_mirror_84 : decode c_M_mirror 84 = .ok (.aload_n 0, 1) := by decide +kernel
theorem d_M_mirror_85 : decode c_M_mirror 85 = .ok (.getfield 51, 3) := by decide +kernel
theorem d_M_mirror_88 : decode c_M_mirror 88 = .ok (.getfield 161, 3) := by decide +kernel
theorem d_M_mirror_91 : decode c_M_mirror 91 = .ok (.iconst 2, 1) := by decide +kernel
theorem d_M_mirror_92 : decode c_M_mirror 92 = .ok (.if_icmp .ne 7, 3) := by decide +kernel
theorem d_M_mirror_95 : decode c_M_mirror 95 = .ok (.iconst 0, 1) := by decide +kernel
theorem d_M_mirror_96 : decode c_M_mirror 96 = .ok (.goto 10, 3) := by decide +kernel
theorem d_M_mirror_99 : decode c_M_mirror 99 = .ok (.aload_n 0, 1) := by decide +kernel
theorem d_M_mirror_100 : decode c_M_mirror 100 = .ok (.getfield 51, 3) := by decide +kernel
theorem d_M_mirror_103 : decode c_M_mirror 103 = .ok (.getfield 167, 3) := by decide +kernel
theorem d_M_mirror_106 : decode c_M_mirror 106 = .ok (.ireturn, 1) := by decide +kernel
theorem d_M_mirror_107 : decode c_M_mirror 107 = .ok (.aload_n 0, 1) := by decide +kernel
theorem d_M_mirror_108 : decode c_M_mirror 108 = .ok (.getfield 18, 3) := by decide +kernel
theorem d_M_mirror_111 : decode c_M_mirror 111 = .ok (.getfield 63, 3) := by decide +kernel
theorem d_M_mirror_114 : decode c_M_mirror 114 = .ok (.ireturn, 1) := by decide +kernel
theorem d_M_mirror_115 : decode c_M_mirror 115 = .ok (.aload_n 0, 1) := by decide +kernel
theorem d_M_mirror_116 : decode c_M_mirror 116 = .ok (.getfield 22, 3) := by decide +kernel
theorem d_M_mirror_119 : decode c_M_mirror 119 = .ok (.invokestatic 180, 3) := by decide +kernel
theorem d_M_mirror_122 : decode c_M_mirror 122 = .ok (.ireturn, 1) := by decide +kernel
theorem d_M_mirror_123 : decode c_M_mirror 123 = .ok (.iconst (-1), 1) := by decide +kernel
theorem d_M_mirror_124 : decode c_M_mirror 124 = .ok (.ireturn, 1) := by decide +kernel
theorem d_L_cell_0 : decode c_L_cell 0 = .ok (.iload_n 1, 1) := by decide +kernel
theorem d_L_cell_1 : decode c_L_cell 1 = .ok (.aload_n 0, 1) := by decide +kernel
theorem d_L_cell_2 : decode c_L_cell 2 = .ok (.arraylength, 1) := by decide +kernel
theorem d_L_cell_3 : decode c_L_cell 3 = .ok (.if_icmp .ge 9, 3) := by decide +kernel
theorem d_L_cell_6 : decode c_L_cell 6 = .ok (.aload_n 0, 1) := by decide +kernel
theorem d_L_cell_7 : decode c_L_cell 7 = .ok (.iload_n 1, 1) := by decide +kernel
theorem d_L_cell_8 : decode c_L_cell 8 = .ok (.iaload, 1) := by decide +kernel
theorem d_L_cell_9 : decode c_L_cell 9 = .ok (.goto 4, 3) := by decide +kernel
theorem d_L_cell_12 : decode c_L_cell 12 = .ok (.iconst 0, 1) := by decide +kernel
theorem d_L_cell_13 : decode c_L_cell 13 = .ok (.ireturn, 1) := by decide +kernel
theorem d_K_init_0 : decode c_K_init 0 = .ok (.aload_n 0, 1) := by decide +kernel
theorem d_K_init_1 : decode c_K_init 1 = .ok (.invokespecial 1, 3) := by decide +kernel
theorem d_K_init_4 : decode c_K_init 4 = .ok (.aload_n 0, 1) := by decide +kernel
theorem d_K_init_5 : decode c_K_init 5 = .ok (.bipush 64, 2) := by decide +kernel
theorem d_K_init_7 : decode c_K_init 7 = .ok (.newarray .int, 2) := by decide +kernel
theorem d_K_init_9 : decode c_K_init 9 = .ok (.putfield 7, 3) := by decide +kernel
theorem d_K_init_12 : decode c_K_init 12 = .ok (.aload_n 0, 1) := by decide +kernel
theorem d_K_init_13 : decode c_K_init 13 = .ok (.bipush 64, 2) := by decide +kernel
theorem d_K_init_15 : decode c_K_init 15 = .ok (.newarray .int, 2) := by decide +kernel
theorem d_K_init_17 : decode c_K_init 17 = .ok (.putfield 13, 3) := by decide +kernel
theorem d_K_init_20 : decode c_K_init 20 = .ok (.aload_n 0, 1) := by decide +kernel
theorem d_K_init_21 : decode c_K_init 21 = .ok (.bipush 64, 2) := by decide +kernel
theorem d_K_init_23 : decode c_K_init 23 = .ok (.newarray .boolean, 2) := by decide +kernel
theorem d_K_init_25 : decode c_K_init 25 = .ok (.putfield 16, 3) := by decide +kernel
theorem d_K_init_28 : decode c_K_init 28 = .ok (.aload_n 0, 1) := by decide +kernel
theorem d_K_init_29 : decode c_K_init 29 = .ok (.iconst 2, 1) := by decide +kernel
theorem d_K_init_30 : decode c_K_init 30 = .ok (.newarray .boolean, 2) := by decide +kernel
theorem d_K_init_32 : decode c_K_init 32 = .ok (.putfield 20, 3) := by decide +kernel
theorem d_K_init_35 : decode c_K_init 35 = .ok (.aload_n 0, 1) := by decide +kernel
theorem d_K_init_36 : decode c_K_init 36 = .ok (.iconst 2, 1) := by decide +kernel
theorem d_K_init_37 : decode c_K_init 37 = .ok (.newarray .boolean, 2) := by decide +kernel
theorem d_K_init_39 : decode c_K_init 39 = .ok (.putfield 23, 3) := by decide +kernel
theorem d_K_init_42 : decode c_K_init 42 = .ok (.aload_n 0, 1) := by decide +kernel
theorem d_K_init_43 : decode c_K_init 43 = .ok (.iconst 2, 1) := by decide +kernel
theorem d_K_init_44 : decode c_K_init 44 = .ok (.newarray .boolean, 2) := by decide +kernel
theorem d_K_init_46 : decode c_K_init 46 = .ok (.putfield 26, 3) := by decide +kernel
theorem d_K_init_49 : decode c_K_init 49 = .ok (.aload_n 0, 1) := by decide +kernel
theorem d_K_init_50 : decode c_K_init 50 = .ok (.iconst 2, 1) := by decide +kernel
theorem d_K_init_51 : decode c_K_init 51 = .ok (.newarray .int, 2) := by decide +kernel
theorem d_K_init_53 : decode c_K_init 53 = .ok (.putfield 29, 3) := by decide +kernel
theorem d_K_init_56 : decode c_K_init 56 = .ok (.aload_n 0, 1) := by decide +kernel
theorem d_K_init_57 : decode c_K_init 57 = .ok (.iconst 2, 1) := by decide +kernel
theorem d_K_init_58 : decode c_K_init 58 = .ok (.newarray .int, 2) := by decide +kernel
theorem d_K_init_60 : decode c_K_init 60 = .ok (.putfield 32, 3) := by decide +kernel
theorem d_K_init_63 : decode c_K_init 63 = .ok (.aload_n 0, 1) := by decide +kernel
theorem d_K_init_64 : decode c_K_init 64 = .ok (.iconst 2, 1) := by decide +kernel
theorem d_K_init_65 : decode c_K_init 65 = .ok (.newarray .int, 2) := by decide +kernel
theorem d_K_init_67 : decode c_K_init 67 = .ok (.putfield 35, 3) := by decide +kernel
theorem d_K_init_70 : decode c_K_init 70 = .ok (.aload_n 0, 1) := by decide +kernel
theorem d_K_init_71 : decode c_K_init 71 = .ok (.iconst 2, 1) := by decide +kernel
theorem d_K_init_72 : decode c_K_init 72 = .ok (.putfield 38, 3) := by decide +kernel
theorem d_K_init_75 : decode c_K_init 75 = .ok (.aload_n 0, 1) := by decide +kernel
theorem d_K_init_76 : decode c_K_init 76 = .ok (.iconst 2, 1) := by decide +kernel
theorem d_K_init_77 : decode c_K_init 77 = .ok (.putfield 42, 3) := by decide +kernel
theorem d_K_init_80 : decode c_K_init 80 = .ok (.aload_n 0, 1) := by decide +kernel
theorem d_K_init_81 : decode c_K_init 81 = .ok (.iconst 2, 1) := by decide +kernel
theorem d_K_init_82 : decode c_K_init 82 = .ok (.putfield 45, 3) := by decide +kernel
theorem d_K_init_85 : decode c_K_init 85 = .ok (.aload_n 0, 1) := by decide +kernel
theorem d_K_init_86 : decode c_K_init 86 = .ok (.iconst 1, 1) := by decide +kernel
theorem d_K_init_87 : decode c_K_init 87 = .ok (.putfield 48, 3) := by decide +kernel
theorem d_K_init_90 : decode c_K_init 90 = .ok (.aload_n 0, 1) := by decide +kernel
theorem d_K_init_91 : decode c_K_init 91 = .ok (.iconst 1, 1) := by decide +kernel
theorem d_K_init_92 : decode c_K_init 92 = .ok (.putfield 52, 3) := by decide +kernel
theorem d_K_init_95 : decode c_K_init 95 = .ok (.aload_n 0, 1) := by decide +kernel
theorem d_K_init_96 : decode c_K_init 96 = .ok (.iconst 1, 1) := by decide +kernel
theorem d_K_init_97 : decode c_K_init 97 = .ok (.putfield 55, 3) := by decide +kernel
theorem d_K_init_100 : decode c_K_init 100 = .ok (.aload_n 0, 1) := by decide +kernel
theorem d_K_init_101 : decode c_K_init 101 = .ok (.iconst 3, 1) := by decide +kernel
theorem d_K_init_102 : decode c_K_init 102 = .ok (.newarray .int, 2) := by decide +kernel
theorem d_K_init_104 : decode c_K_init 104 = .ok (.putfield 58, 3) := by decide +kernel
theorem d_K_init_107 : decode c_K_init 107 = .ok (.aload_n 0, 1) := by decide +kernel
theorem d_K_init_108 : decode c_K_init 108 = .ok (.iconst 3, 1) := by decide +kernel
theorem d_K_init_109 : decode c_K_init 109 = .ok (.newarray .int, 2) := by decide +kernel
theorem d_K_init_111 : decode c_K_init 111 = .ok (.putfield 61, 3) := by decide +kernel
theorem d_K_init_114 : decode c_K_init 114 = .ok (.aload_n 0, 1) := by decide +kernel
theorem d_K_init_115 : decode c_K_init 115 = .ok (.iload_n 1, 1) := by decide +kernel
theorem d_K_init_116 : decode c_K_init 116 = .ok (.iconst 2, 1) := by decide +kernel
theorem d_K_init_117 : decode c_K_init 117 = .ok (.if_icmp .ge 7, 3) := by decide +kernel
theorem d_K_init_120 : decode c_K_init 120 = .ok (.iconst 2, 1) := by decide +kernel
theorem d_K_init_121 : decode c_K_init 121 = .ok (.goto 15, 3) := by decide +kernel
theorem d_K_init_124 : decode c_K_init 124 = .ok (.iload_n 1, 1) := by decide +kernel
theorem d_K_init_125 : decode c_K_init 125 = .ok (.bipush 50, 2) := by decide +kernel
theorem d_K_init_127 : decode c_K_init 127 = .ok (.if_icmp .le 8, 3) := by decide +kernel
theorem d_K_init_130 : decode c_K_init 130 = .ok (.bipush 50, 2) := by decide +kernel
theorem d_K_init_132 : decode c_K_init 132 = .ok (.goto 4, 3) := by decide +kernel
theorem d_K_init_135 : decode c_K_init 135 = .ok (.iload_n 1, 1) := by decide +kernel
theorem d_K_init_136 : decode c_K_init 136 = .ok (.putfield 64, 3) := by decide +kernel
theorem d_K_init_139 : decode c_K_init 139 = .ok (.aload_n 0, 1) := by decide +kernel
theorem d_K_init_140 : decode c_K_init 140 = .ok (.getfield 29, 3) := by decide +kernel
theorem d_K_init_143 : decode c_K_init 143 = .ok (.iconst 0, 1) := by decide +kernel
theorem d_K_init_144 : decode c_K_init 144 = .ok (.iconst 1, 1) := by decide +kernel
theorem d_K_init_145 : decode c_K_init 145 = .ok (.iastore, 1) := by decide +kernel
theorem d_K_init_146 : decode c_K_init 146 = .ok (.aload_n 0, 1) := by decide +kernel
theorem d_K_init_147 : decode c_K_init 147 = .ok (.getfield 29, 3) := by decide +kernel
theorem d_K_init_150 : decode c_K_init 150 = .ok (.iconst 1, 1) := by decide +kernel
theorem d_K_init_151 : decode c_K_init 151 = .ok (.iconst 1, 1) := by decide +kernel
theorem d_K_init_152 : decode c_K_init 152 = .ok (.iastore, 1) := by decide +kernel
theorem d_K_init_153 : decode c_K_init 153 = .ok (.return_, 1) := by decide +kernel
theorem d_K_stage_0 : decode c_K_stage 0 = .ok (.aload_n 0, 1) := by decide +kernel
theorem d_K_stage_1 : decode c_K_stage 1 = .ok (.iload_n 1, 1) := by decide +kernel
theorem d_K_stage_2 : decode c_K_stage 2 = .ok (.bipush 24, 2) := by decide +kernel
theorem d_K_stage_4 : decode c_K_stage 4 = .ok (.invokevirtual 93, 3) := by decide +kernel
theorem d_K_stage_7 : decode c_K_stage 7 = .ok (.ifCond .ne 11, 3) := by decide +kernel
theorem d_K_stage_10 : decode c_K_stage 10 = .ok (.aload_n 0, 1) := by decide +kernel
theorem d_K_stage_11 : decode c_K_stage 11 = .ok (.getfield 38, 3) := by decide +kernel
theorem d_K_stage_14 : decode c_K_stage 14 = .ok (.iconst 2, 1) := by decide +kernel
theorem d_K_stage_15 : decode c_K_stage 15 = .ok (.if_icmp .ne 5, 3) := by decide +kernel
theorem d_K_stage_18 : decode c_K_stage 18 = .ok (.iconst (-1), 1) := by decide +kernel
theorem d_K_stage_19 : decode c_K_stage 19 = .ok (.ireturn, 1) := by decide +kernel
theorem d_K_stage_20 : decode c_K_stage 20 = .ok (.aload_n 0, 1) := by decide +kernel
theorem d_K_stage_21 : decode c_K_stage 21 = .ok (.getfield 67, 3) := by decide +kernel
theorem d_K_stage_24 : decode c_K_stage 24 = .ok (.iconst 3, 1) := by decide +kernel
theorem d_K_stage_25 : decode c_K_stage 25 = .ok (.if_icmp .ne 6, 3) := by decide +kernel
theorem d_K_stage_28 : decode c_K_stage 28 = .ok (.bipush (-2), 2) := by decide +kernel
theorem d_K_stage_30 : decode c_K_stage 30 = .ok (.ireturn, 1) := by decide +kernel
theorem d_K_stage_31 : decode c_K_stage 31 = .ok (.aload_n 0, 1) := by decide +kernel
theorem d_K_stage_32 : decode c_K_stage 32 = .ok (.getfield 58, 3) := by decide +kernel
theorem d_K_stage_35 : decode c_K_stage 35 = .ok (.aload_n 0, 1) := by decide +kernel
theorem d_K_stage_36 : decode c_K_stage 36 = .ok (.getfield 67, 3) := by decide +kernel
theorem d_K_stage_39 : decode c_K_stage 39 = .ok (.iload_n 1, 1) := by decide +kernel
theorem d_K_stage_40 : decode c_K_stage 40 = .ok (.iastore, 1) := by decide +kernel
theorem d_K_stage_41 : decode c_K_stage 41 = .ok (.aload_n 0, 1) := by decide +kernel
theorem d_K_stage_42 : decode c_K_stage 42 = .ok (.getfield 61, 3) := by decide +kernel
theorem d_K_stage_45 : decode c_K_stage 45 = .ok (.aload_n 0, 1) := by decide +kernel
theorem d_K_stage_46 : decode c_K_stage 46 = .ok (.getfield 67, 3) := by decide +kernel
theorem d_K_stage_49 : decode c_K_stage 49 = .ok (.iload_n 2, 1) := by decide +kernel
theorem d_K_stage_50 : decode c_K_stage 50 = .ok (.iastore, 1) := by decide +kernel
theorem d_K_stage_51 : decode c_K_stage 51 = .ok (.aload_n 0, 1) := by decide +kernel
theorem d_K_stage_52 : decode c_K_stage 52 = .ok (.dup, 1) := by decide +kernel
theorem d_K_stage_53 : decode c_K_stage 53 = .ok (.getfield 67, 3) := by decide +kernel
theorem d_K_stage_56 : decode c_K_stage 56 = .ok (.iconst 1, 1) := by decide +kernel
theorem d_K_stage_57 : decode c_K_stage 57 = .ok (.iadd, 1) := by decide +kernel
theorem d_K_stage_58 : decode c_K_stage 58 = .ok (.putfield 67, 3) := by decide +kernel
theorem d_K_stage_61 : decode c_K_stage 61 = .ok (.aload_n 0, 1) := by decide +kernel
theorem d_K_stage_62 : decode c_K_stage 62 = .ok (.getfield 67, 3) := by decide +kernel
theorem d_K_stage_65 : decode c_K_stage 65 = .ok (.ireturn, 1) := by decide +kernel
theorem d_K_out_0 : decode c_K_out 0 = .ok (.iload_n 1, 1) := by decide +kernel
theorem d_K_out_1 : decode c_K_out 1 = .ok (.ifCond .lt 8, 3) := by decide +kernel
theorem d_K_out_4 : decode c_K_out 4 = .ok (.iload_n 1, 1) := by decide +kernel
theorem d_K_out_5 : decode c_K_out 5 = .ok (.iload_n 2, 1) := by decide +kernel
theorem d_K_out_6 : decode c_K_out 6 = .ok (.if_icmp .lt 7, 3) := by decide +kernel
theorem d_K_out_9 : decode c_K_out 9 = .ok (.iconst 1, 1) := by decide +kernel
theorem d_K_out_10 : decode c_K_out 10 = .ok (.goto 4, 3) := by decide +kernel
theorem d_K_out_13 : decode c_K_out 13 = .ok (.iconst 0, 1) := by decide +kernel
theorem d_K_out_14 : decode c_K_out 14 = .ok (.ireturn, 1) := by decide +kernel
theorem d_K_commit_0 : decode c_K_commit 0 = .ok (.aload_n 0, 1) := by decide +kernel
theorem d_K_commit_1 : decode c_K_commit 1 = .ok (.getfield 38, 3) := by decide +kernel
theorem d_K_commit_4 : decode c_K_commit 4 = .ok (.iconst 2, 1) := by decide +kernel
theorem d_K_commit_5 : decode c_K_commit 5 = .ok (.if_icmp .eq 10, 3) := by decide +kernel
theorem d_K_commit_8 : decode c_K_commit 8 = .ok (.aload_n 0, 1) := by decide +kernel
theorem d_K_commit_9 : decode c_K_commit 9 = .ok (.getfield 67, 3) := by decide +kernel
theorem d_K_commit_12 : decode c_K_commit 12 = .ok (.ifCond .ne 5, 3) := by decide +kernel
theorem d_K_commit_15 : decode c_K_commit 15 = .ok (.iconst (-1), 1) := by decide +kernel
theorem d_K_commit_16 : decode c_K_commit 16 = .ok (.ireturn, 1) := by decide +kernel
theorem d_K_commit_17 : decode c_K_commit 17 = .ok (.aload_n 0, 1) := by decide +kernel
theorem d_K_commit_18 : decode c_K_commit 18 = .ok (.getfield 48, 3) := by decide +kernel
theorem d_K_commit_21 : decode c_K_commit 21 = .ok (.ifCond .ne 38, 3) := by decide +kernel
theorem d_K_commit_24 : decode c_K_commit 24 = .ok (.aload_n 0, 1) := by decide +kernel
theorem d_K_commit_25 : decode c_K_commit 25 = .ok (.getfield 23, 3) := by decide +kernel
theorem d_K_commit_28 : decode c_K_commit 28 = .ok (.aload_n 0, 1) := by decide +kernel
theorem d_K_commit_29 : decode c_K_commit 29 = .ok (.getfield 38, 3) := by decide +kernel
theorem d_K_commit_32 : decode c_K_commit 32 = .ok (.baload, 1) := by decide +kernel
theorem d_K_commit_33 : decode c_K_commit 33 = .ok (.ifCond .ne 26, 3) := by decide +kernel
theorem d_K_commit_36 : decode c_K_commit 36 = .ok (.aload_n 0, 1) := by decide +kernel
theorem d_K_commit_37 : decode c_K_commit 37 = .ok (.getfield 26, 3) := by decide +kernel
theorem d_K_commit_40 : decode c_K_commit 40 = .ok (.aload_n 0, 1) := by decide +kernel
theorem d_K_commit_41 : decode c_K_commit 41 = .ok (.getfield 38, 3) := by decide +kernel
theorem d_K_commit_44 : decode c_K_commit 44 = .ok (.baload, 1) := by decide +kernel
theorem d_K_commit_45 : decode c_K_commit 45 = .ok (.ifCond .eq 6, 3) := by decide +kernel
theorem d_K_commit_48 : decode c_K_commit 48 = .ok (.bipush (-3), 2) := by decide +kernel
theorem d_K_commit_50 : decode c_K_commit 50 = .ok (.ireturn, 1) := by decide +kernel
theorem d_K_commit_51 : decode c_K_commit 51 = .ok (.aload_n 0, 1) := by decide +kernel
theorem d_K_commit_52 : decode c_K_commit 52 = .ok (.aload_n 0, 1) := by decide +kernel
theorem d_K_commit_53 : decode c_K_commit 53 = .ok (.getfield 38, 3) := by decide +kernel
theorem d_K_commit_56 : decode c_K_commit 56 = .ok (.invokevirtual 97, 3) := by decide +kernel
theorem d_K_commit_59 : decode c_K_commit 59 = .ok (.aload_n 0, 1) := by decide +kernel
theorem d_K_commit_60 : decode c_K_commit 60 = .ok (.getfield 67, 3) := by decide +kernel
theorem d_K_commit_63 : decode c_K_commit 63 = .ok (.istore_n 3, 1) := by decide +kernel
theorem d_K_commit_64 : decode c_K_commit 64 = .ok (.iconst 3, 1) := by decide +kernel
theorem d_K_commit_65 : decode c_K_commit 65 = .ok (.iload_n 3, 1) := by decide +kernel
theorem d_K_commit_66 : decode c_K_commit 66 = .ok (.imul, 1) := by decide +kernel
theorem d_K_commit_67 : decode c_K_commit 67 = .ok (.bipush 7, 2) := by decide +kernel
theorem d_K_commit_69 : decode c_K_commit 69 = .ok (.iadd, 1) := by decide +kernel
theorem d_K_commit_70 : decode c_K_commit 70 = .ok (.istore 4, 2) := by decide +kernel
theorem d_K_commit_72 : decode c_K_commit 72 = .ok (.iload_n 1, 1) := by decide +kernel
theorem d_K_commit_73 : decode c_K_commit 73 = .ok (.ifCond .lt 13, 3) := by decide +kernel
theorem d_K_commit_76 : decode c_K_commit 76 = .ok (.iload_n 1, 1) := by decide +kernel
theorem d_K_commit_77 : decode c_K_commit 77 = .ok (.iload 4, 2) := by decide +kernel
theorem d_K_commit_79 : decode c_K_commit 79 = .ok (.if_icmp .ge 7, 3) := by decide +kernel
theorem d_K_commit_82 : decode c_K_commit 82 = .ok (.iconst 1, 1) := by decide +kernel
theorem d_K_commit_83 : decode c_K_commit 83 = .ok (.goto 4, 3) := by decide +kernel
theorem d_K_commit_86 : decode c_K_commit 86 = .ok (.iconst 0, 1) := by decide +kernel
theorem d_K_commit_87 : decode c_K_commit 87 = .ok (.istore 5, 2) := by decide +kernel
theorem d_K_commit_89 : decode c_K_commit 89 = .ok (.iconst 0, 1) := by decide +kernel
theorem d_K_commit_90 : decode c_K_commit 90 = .ok (.istore 6, 2) := by decide +kernel
theorem d_K_commit_92 : decode c_K_commit 92 = .ok (.iload 6, 2) := by decide +kernel
theorem d_K_commit_94 : decode c_K_commit 94 = .ok (.iload 5, 2) := by decide +kernel
theorem d_K_commit_96 : decode c_K_commit 96 = .ok (.ifCond .eq 7, 3) := by decide +kernel
theorem d_K_commit_99 : decode c_K_commit 99 = .ok (.iload_n 1, 1) := by decide +kernel
theorem d_K_commit_100 : decode c_K_commit 100 = .ok (.goto 5, 3) := by decide +kernel
theorem d_K_commit_103 : decode c_K_commit 103 = .ok (.iload 4, 2) := by decide +kernel
theorem d_K_commit_105 : decode c_K_commit 105 = .ok (.if_icmp .ge 16, 3) := by decide +kernel
theorem d_K_commit_108 : decode c_K_commit 108 = .ok (.aload_n 0, 1) := by decide +kernel
theorem d_K_commit_109 : decode c_K_commit 109 = .ok (.iload 6, 2) := by decide +kernel
theorem d_K_commit_111 : decode c_K_commit 111 = .ok (.iload_n 3, 1) := by decide +kernel
theorem d_K_commit_112 : decode c_K_commit 112 = .ok (.invokevirtual 100, 3) := by decide +kernel
theorem d_K_commit_115 : decode c_K_commit 115 = .ok (.iinc 6 1, 3) := by decide +kernel
theorem d_K_commit_118 : decode c_K_commit 118 = .ok (.goto (-26), 3) := by decide +kernel
theorem d_K_commit_121 : decode c_K_commit 121 = .ok (.iload 5, 2) := by decide +kernel
theorem d_K_commit_123 : decode c_K_commit 123 = .ok (.ifCond .eq 17, 3) := by decide +kernel
theorem d_K_commit_126 : decode c_K_commit 126 = .ok (.aload_n 0, 1) := by decide +kernel
theorem d_K_commit_127 : decode c_K_commit 127 = .ok (.aload_n 0, 1) := by decide +kernel
theorem d_K_commit_128 : decode c_K_commit 128 = .ok (.getfield 38, 3) := by decide +kernel
theorem d_K_commit_131 : decode c_K_commit 131 = .ok (.iload_n 2, 1) := by decide +kernel
theorem d_K_commit_132 : decode c_K_commit 132 = .ok (.invokevirtual 103, 3) := by decide +kernel
theorem d_K_commit_135 : decode c_K_commit 135 = .ok (.istore 6, 2) := by decide +kernel
theorem d_K_commit_137 : decode c_K_commit 137 = .ok (.bipush (-7), 2) := by decide +kernel
theorem d_K_commit_139 : decode c_K_commit 139 = .ok (.ireturn, 1) := by decide +kernel
theorem d_K_commit_140 : decode c_K_commit 140 = .ok (.aload_n 0, 1) := by decide +kernel
theorem d_K_commit_141 : decode c_K_commit 141 = .ok (.iconst 0, 1) := by decide +kernel
theorem d_K_commit_142 : decode c_K_commit 142 = .ok (.putfield 67, 3) := by decide +kernel
theorem d_K_commit_145 : decode c_K_commit 145 = .ok (.iconst 0, 1) := by decide +kernel
theorem d_K_commit_146 : decode c_K_commit 146 = .ok (.ireturn, 1) := by decide +kernel
theorem d_K_goAlone_0 : decode c_K_goAlone 0 = .ok (.aload_n 0, 1) := by decide +kernel
theorem d_K_goAlone_1 : decode c_K_goAlone 1 = .ok (.dup, 1) := by decide +kernel
theorem d_K_goAlone_2 : decode c_K_goAlone 2 = .ok (.getfield 55, 3) := by decide +kernel
theorem d_K_goAlone_5 : decode c_K_goAlone 5 = .ok (.iconst 1, 1) := by decide +kernel
theorem d_K_goAlone_6 : decode c_K_goAlone 6 = .ok (.iadd, 1) := by decide +kernel
theorem d_K_goAlone_7 : decode c_K_goAlone 7 = .ok (.putfield 55, 3) := by decide +kernel
theorem d_K_goAlone_10 : decode c_K_goAlone 10 = .ok (.aload_n 0, 1) := by decide +kernel
theorem d_K_goAlone_11 : decode c_K_goAlone 11 = .ok (.getfield 32, 3) := by decide +kernel
theorem d_K_goAlone_14 : decode c_K_goAlone 14 = .ok (.iload_n 1, 1) := by decide +kernel
theorem d_K_goAlone_15 : decode c_K_goAlone 15 = .ok (.aload_n 0, 1) := by decide +kernel
theorem d_K_goAlone_16 : decode c_K_goAlone 16 = .ok (.getfield 29, 3) := by decide +kernel
theorem d_K_goAlone_19 : decode c_K_goAlone 19 = .ok (.iload_n 1, 1) := by decide +kernel
theorem d_K_goAlone_20 : decode c_K_goAlone 20 = .ok (.iaload, 1) := by decide +kernel
theorem d_K_goAlone_21 : decode c_K_goAlone 21 = .ok (.iastore, 1) := by decide +kernel
theorem d_K_goAlone_22 : decode c_K_goAlone 22 = .ok (.aload_n 0, 1) := by decide +kernel
theorem d_K_goAlone_23 : decode c_K_goAlone 23 = .ok (.getfield 29, 3) := by decide +kernel
theorem d_K_goAlone_26 : decode c_K_goAlone 26 = .ok (.iload_n 1, 1) := by decide +kernel
theorem d_K_goAlone_27 : decode c_K_goAlone 27 = .ok (.aload_n 0, 1) := by decide +kernel
theorem d_K_goAlone_28 : decode c_K_goAlone 28 = .ok (.getfield 55, 3) := by decide +kernel
theorem d_K_goAlone_31 : decode c_K_goAlone 31 = .ok (.iastore, 1) := by decide +kernel
theorem d_K_goAlone_32 : decode c_K_goAlone 32 = .ok (.aload_n 0, 1) := by decide +kernel
theorem d_K_goAlone_33 : decode c_K_goAlone 33 = .ok (.getfield 23, 3) := by decide +kernel
theorem d_K_goAlone_36 : decode c_K_goAlone 36 = .ok (.iload_n 1, 1) := by decide +kernel
theorem d_K_goAlone_37 : decode c_K_goAlone 37 = .ok (.iconst 1, 1) := by decide +kernel
theorem d_K_goAlone_38 : decode c_K_goAlone 38 = .ok (.bastore, 1) := by decide +kernel
theorem d_K_goAlone_39 : decode c_K_goAlone 39 = .ok (.return_, 1) := by decide +kernel
end
section
theorem d_K_step_0 : decode c_K_step 0 = .ok (.iconst 3, 1) := by decide +kernel
theorem d_K_step_1 : decode c_K_step 1 = .ok (.iconst 2, 1) := by decide +kernel
theorem d_K_step_2 : decode c_K_step 2 = .ok (.iload_n 2, 1) := by decide +kernel
theorem d_K_step_3 : decode c_K_step 3 = .ok (.imul, 1) := by decide +kernel
theorem d_K_step_4 : decode c_K_step 4 = .ok (.iadd, 1) := by decide +kernel
theorem d_K_step_5 : decode c_K_step 5 = .ok (.istore_n 3, 1) := by decide +kernel
theorem d_K_step_6 : decode c_K_step 6 = .ok (.iload_n 1, 1) := by decide +kernel
theorem d_K_step_7 : decode c_K_step 7 = .ok (.ifCond .eq 20, 3) := by decide +kernel
theorem d_K_step_10 : decode c_K_step 10 = .ok (.iload_n 1, 1) := by decide +kernel
theorem d_K_step_11 : decode c_K_step 11 = .ok (.iconst 2, 1) := by decide +kernel
theorem d_K_step_12 : decode c_K_step 12 = .ok (.if_icmp .eq 15, 3) := by decide +kernel
theorem d_K_step_15 : decode c_K_step 15 = .ok (.iload_n 1, 1) := by decide +kernel
theorem d_K_step_16 : decode c_K_step 16 = .ok (.iload_n 3, 1) := by decide +kernel
theorem d_K_step_17 : decode c_K_step 17 = .ok (.if_icmp .eq 10, 3) := by decide +kernel
theorem d_K_step_20 : decode c_K_step 20 = .ok (.iload_n 1, 1) := by decide +kernel
theorem d_K_step_21 : decode c_K_step 21 = .ok (.iload_n 3, 1) := by decide +kernel
theorem d_K_step_22 : decode c_K_step 22 = .ok (.iconst 2, 1) := by decide +kernel
theorem d_K_step_23 : decode c_K_step 23 = .ok (.iadd, 1) := by decide +kernel
theorem d_K_step_24 : decode c_K_step 24 = .ok (.if_icmp .ne 10, 3) := by decide +kernel
theorem d_K_step_27 : decode c_K_step 27 = .ok (.aload_n 0, 1) := by decide +kernel
theorem d_K_step_28 : decode c_K_step 28 = .ok (.invokevirtual 86, 3) := by decide +kernel
theorem d_K_step_31 : decode c_K_step 31 = .ok (.goto 147, 3) := by decide +kernel
theorem d_K_step_34 : decode c_K_step 34 = .ok (.iload_n 1, 1) := by decide +kernel
theorem d_K_step_35 : decode c_K_step 35 = .ok (.iconst 1, 1) := by decide +kernel
theorem d_K_step_36 : decode c_K_step 36 = .ok (.if_icmp .ne 13, 3) := by decide +kernel
theorem d_K_step_39 : decode c_K_step 39 = .ok (.aload_n 0, 1) := by decide +kernel
theorem d_K_step_40 : decode c_K_step 40 = .ok (.bipush 24, 2) := by decide +kernel
theorem d_K_step_42 : decode c_K_step 42 = .ok (.iconst 0, 1) := by decide +kernel
theorem d_K_step_43 : decode c_K_step 43 = .ok (.invokevirtual 89, 3) := by decide +kernel
theorem d_K_step_46 : decode c_K_step 46 = .ok (.goto 132, 3) := by decide +kernel
theorem d_K_step_49 : decode c_K_step 49 = .ok (.iload_n 1, 1) := by decide +kernel
theorem d_K_step_50 : decode c_K_step 50 = .ok (.iload_n 3, 1) := by decide +kernel
theorem d_K_step_51 : decode c_K_step 51 = .ok (.iconst 1, 1) := by decide +kernel
theorem d_K_step_52 : decode c_K_step 52 = .ok (.iadd, 1) := by decide +kernel
theorem d_K_step_53 : decode c_K_step 53 = .ok (.if_icmp .ne 13, 3) := by decide +kernel
theorem d_K_step_56 : decode c_K_step 56 = .ok (.aload_n 0, 1) := by decide +kernel
theorem d_K_step_57 : decode c_K_step 57 = .ok (.bipush 24, 2) := by decide +kernel
theorem d_K_step_59 : decode c_K_step 59 = .ok (.iload_n 2, 1) := by decide +kernel
theorem d_K_step_60 : decode c_K_step 60 = .ok (.invokevirtual 89, 3) := by decide +kernel
theorem d_K_step_63 : decode c_K_step 63 = .ok (.goto 115, 3) := by decide +kernel
theorem d_K_step_66 : decode c_K_step 66 = .ok (.iload_n 1, 1) := by decide +kernel
theorem d_K_step_67 : decode c_K_step 67 = .ok (.iload_n 3, 1) := by decide +kernel
theorem d_K_step_68 : decode c_K_step 68 = .ok (.if_icmp .ge 76, 3) := by decide +kernel
theorem d_K_step_71 : decode c_K_step 71 = .ok (.iload_n 1, 1) := by decide +kernel
theorem d_K_step_72 : decode c_K_step 72 = .ok (.iconst 3, 1) := by decide +kernel
theorem d_K_step_73 : decode c_K_step 73 = .ok (.isub, 1) := by decide +kernel
theorem d_K_step_74 : decode c_K_step 74 = .ok (.iconst 2, 1) := by decide +kernel
theorem d_K_step_75 : decode c_K_step 75 = .ok (.idiv, 1) := by decide +kernel
theorem d_K_step_76 : decode c_K_step 76 = .ok (.istore 4, 2) := by decide +kernel
theorem d_K_step_78 : decode c_K_step 78 = .ok (.iload_n 1, 1) := by decide +kernel
theorem d_K_step_79 : decode c_K_step 79 = .ok (.iconst 3, 1) := by decide +kernel
theorem d_K_step_80 : decode c_K_step 80 = .ok (.isub, 1) := by decide +kernel
theorem d_K_step_81 : decode c_K_step 81 = .ok (.iconst 1, 1) := by decide +kernel
theorem d_K_step_82 : decode c_K_step 82 = .ok (.iand, 1) := by decide +kernel
theorem d_K_step_83 : decode c_K_step 83 = .ok (.ifCond .ne 7, 3) := by decide +kernel
theorem d_K_step_86 : decode c_K_step 86 = .ok (.iconst 1, 1) := by decide +kernel
theorem d_K_step_87 : decode c_K_step 87 = .ok (.goto 4, 3) := by decide +kernel
theorem d_K_step_90 : decode c_K_step 90 = .ok (.iconst 0, 1) := by decide +kernel
theorem d_K_step_91 : decode c_K_step 91 = .ok (.istore 5, 2) := by decide +kernel
theorem d_K_step_93 : decode c_K_step 93 = .ok (.aload_n 0, 1) := by decide +kernel
theorem d_K_step_94 : decode c_K_step 94 = .ok (.iload 5, 2) := by decide +kernel
theorem d_K_step_96 : decode c_K_step 96 = .ok (.ifCond .eq 13, 3) := by decide +kernel
theorem d_K_step_99 : decode c_K_step 99 = .ok (.bipush 25, 2) := by decide +kernel
theorem d_K_step_101 : decode c_K_step 101 = .ok (.iconst 2, 1) := by decide +kernel
theorem d_K_step_102 : decode c_K_step 102 = .ok (.iload 4, 2) := by decide +kernel
theorem d_K_step_104 : decode c_K_step 104 = .ok (.imul, 1) := by decide +kernel
theorem d_K_step_105 : decode c_K_step 105 = .ok (.iadd, 1) := by decide +kernel
theorem d_K_step_106 : decode c_K_step 106 = .ok (.goto 10, 3) := by decide +kernel
theorem d_K_step_109 : decode c_K_step 109 = .ok (.bipush 26, 2) := by decide +kernel
theorem d_K_step_111 : decode c_K_step 111 = .ok (.iconst 2, 1) := by decide +kernel
theorem d_K_step_112 : decode c_K_step 112 = .ok (.iload 4, 2) := by decide +kernel
theorem d_K_step_114 : decode c_K_step 114 = .ok (.imul, 1) := by decide +kernel
theorem d_K_step_115 : decode c_K_step 115 = .ok (.iadd, 1) := by decide +kernel
theorem d_K_step_116 : decode c_K_step 116 = .ok (.iload 5, 2) := by decide +kernel
theorem d_K_step_118 : decode c_K_step 118 = .ok (.ifCond .eq 13, 3) := by decide +kernel
theorem d_K_step_121 : decode c_K_step 121 = .ok (.aload_n 0, 1) := by decide +kernel
theorem d_K_step_122 : decode c_K_step 122 = .ok (.getfield 58, 3) := by decide +kernel
theorem d_K_step_125 : decode c_K_step 125 = .ok (.iload 4, 2) := by decide +kernel
theorem d_K_step_127 : decode c_K_step 127 = .ok (.iaload, 1) := by decide +kernel
theorem d_K_step_128 : decode c_K_step 128 = .ok (.goto 10, 3) := by decide +kernel
theorem d_K_step_131 : decode c_K_step 131 = .ok (.aload_n 0, 1) := by decide +kernel
theorem d_K_step_132 : decode c_K_step 132 = .ok (.getfield 61, 3) := by decide +kernel
theorem d_K_step_135 : decode c_K_step 135 = .ok (.iload 4, 2) := by decide +kernel
theorem d_K_step_137 : decode c_K_step 137 = .ok (.iaload, 1) := by decide +kernel
theorem d_K_step_138 : decode c_K_step 138 = .ok (.invokevirtual 89, 3) := by decide +kernel
theorem d_K_step_141 : decode c_K_step 141 = .ok (.goto 37, 3) := by decide +kernel
theorem d_K_step_144 : decode c_K_step 144 = .ok (.iload_n 1, 1) := by decide +kernel
theorem d_K_step_145 : decode c_K_step 145 = .ok (.iload_n 3, 1) := by decide +kernel
theorem d_K_step_146 : decode c_K_step 146 = .ok (.iconst 3, 1) := by decide +kernel
theorem d_K_step_147 : decode c_K_step 147 = .ok (.iadd, 1) := by decide +kernel
theorem d_K_step_148 : decode c_K_step 148 = .ok (.iload_n 2, 1) := by decide +kernel
theorem d_K_step_149 : decode c_K_step 149 = .ok (.iadd, 1) := by decide +kernel
theorem d_K_step_150 : decode c_K_step 150 = .ok (.if_icmp .ge 28, 3) := by decide +kernel
theorem d_K_step_153 : decode c_K_step 153 = .ok (.iload_n 1, 1) := by decide +kernel
theorem d_K_step_154 : decode c_K_step 154 = .ok (.iload_n 3, 1) := by decide +kernel
theorem d_K_step_155 : decode c_K_step 155 = .ok (.isub, 1) := by decide +kernel
theorem d_K_step_156 : decode c_K_step 156 = .ok (.iconst 3, 1) := by decide +kernel
theorem d_K_step_157 : decode c_K_step 157 = .ok (.isub, 1) := by decide +kernel
theorem d_K_step_158 : decode c_K_step 158 = .ok (.istore 4, 2) := by decide +kernel
theorem d_K_step_160 : decode c_K_step 160 = .ok (.aload_n 0, 1) := by decide +kernel
theorem d_K_step_161 : decode c_K_step 161 = .ok (.aload_n 0, 1) := by decide +kernel
theorem d_K_step_162 : decode c_K_step 162 = .ok (.getfield 58, 3) := by decide +kernel
theorem d_K_step_165 : decode c_K_step 165 = .ok (.iload 4, 2) := by decide +kernel
theorem d_K_step_167 : decode c_K_step 167 = .ok (.iaload, 1) := by decide +kernel
theorem d_K_step_168 : decode c_K_step 168 = .ok (.aload_n 0, 1) := by decide +kernel
theorem d_K_step_169 : decode c_K_step 169 = .ok (.getfield 61, 3) := by decide +kernel
theorem d_K_step_172 : decode c_K_step 172 = .ok (.iload 4, 2) := by decide +kernel
theorem d_K_step_174 : decode c_K_step 174 = .ok (.iaload, 1) := by decide +kernel
theorem d_K_step_175 : decode c_K_step 175 = .ok (.invokevirtual 89, 3) := by decide +kernel
theorem d_K_step_178 : decode c_K_step 178 = .ok (.return_, 1) := by decide +kernel
theorem d_K_flushStep_0 : decode c_K_flushStep 0 = .ok (.aload_n 0, 1) := by decide +kernel
theorem d_K_flushStep_1 : decode c_K_flushStep 1 = .ok (.getfield 48, 3) := by decide +kernel
theorem d_K_flushStep_4 : decode c_K_flushStep 4 = .ok (.ifCond .eq 13, 3) := by decide +kernel
theorem d_K_flushStep_7 : decode c_K_flushStep 7 = .ok (.aload_n 0, 1) := by decide +kernel
theorem d_K_flushStep_8 : decode c_K_flushStep 8 = .ok (.iconst 1, 1) := by decide +kernel
theorem d_K_flushStep_9 : decode c_K_flushStep 9 = .ok (.aload_n 0, 1) := by decide +kernel
theorem d_K_flushStep_10 : decode c_K_flushStep 10 = .ok (.getfield 38, 3) := by decide +kernel
theorem d_K_flushStep_13 : decode c_K_flushStep 13 = .ok (.isub, 1) := by decide +kernel
theorem d_K_flushStep_14 : decode c_K_flushStep 14 = .ok (.invokevirtual 82, 3) := by decide +kernel
theorem d_K_flushStep_17 : decode c_K_flushStep 17 = .ok (.aload_n 0, 1) := by decide +kernel
theorem d_K_flushStep_18 : decode c_K_flushStep 18 = .ok (.aload_n 0, 1) := by decide +kernel
theorem d_K_flushStep_19 : decode c_K_flushStep 19 = .ok (.getfield 38, 3) := by decide +kernel
theorem d_K_flushStep_22 : decode c_K_flushStep 22 = .ok (.invokevirtual 82, 3) := by decide +kernel
theorem d_K_flushStep_25 : decode c_K_flushStep 25 = .ok (.return_, 1) := by decide +kernel
theorem d_K_settle_0 : decode c_K_settle 0 = .ok (.iconst 0, 1) := by decide +kernel
theorem d_K_settle_1 : decode c_K_settle 1 = .ok (.istore_n 2, 1) := by decide +kernel
theorem d_K_settle_2 : decode c_K_settle 2 = .ok (.iload_n 2, 1) := by decide +kernel
theorem d_K_settle_3 : decode c_K_settle 3 = .ok (.bipush 32, 2) := by decide +kernel
theorem d_K_settle_5 : decode c_K_settle 5 = .ok (.if_icmp .ge 38, 3) := by decide +kernel
theorem d_K_settle_8 : decode c_K_settle 8 = .ok (.aload_n 0, 1) := by decide +kernel
theorem d_K_settle_9 : decode c_K_settle 9 = .ok (.getfield 7, 3) := by decide +kernel
theorem d_K_settle_12 : decode c_K_settle 12 = .ok (.iload_n 1, 1) := by decide +kernel
theorem d_K_settle_13 : decode c_K_settle 13 = .ok (.bipush 32, 2) := by decide +kernel
theorem d_K_settle_15 : decode c_K_settle 15 = .ok (.imul, 1) := by decide +kernel
theorem d_K_settle_16 : decode c_K_settle 16 = .ok (.iload_n 2, 1) := by decide +kernel
theorem d_K_settle_17 : decode c_K_settle 17 = .ok (.iadd, 1) := by decide +kernel
theorem d_K_settle_18 : decode c_K_settle 18 = .ok (.aload_n 0, 1) := by decide +kernel
theorem d_K_settle_19 : decode c_K_settle 19 = .ok (.iload_n 1, 1) := by decide +kernel
theorem d_K_settle_20 : decode c_K_settle 20 = .ok (.iload_n 2, 1) := by decide +kernel
theorem d_K_settle_21 : decode c_K_settle 21 = .ok (.invokevirtual 78, 3) := by decide +kernel
theorem d_K_settle_24 : decode c_K_settle 24 = .ok (.iastore, 1) := by decide +kernel
theorem d_K_settle_25 : decode c_K_settle 25 = .ok (.aload_n 0, 1) := by decide +kernel
theorem d_K_settle_26 : decode c_K_settle 26 = .ok (.getfield 16, 3) := by decide +kernel
theorem d_K_settle_29 : decode c_K_settle 29 = .ok (.iload_n 1, 1) := by decide +kernel
theorem d_K_settle_30 : decode c_K_settle 30 = .ok (.bipush 32, 2) := by decide +kernel
theorem d_K_settle_32 : decode c_K_settle 32 = .ok (.imul, 1) := by decide +kernel
theorem d_K_settle_33 : decode c_K_settle 33 = .ok (.iload_n 2, 1) := by decide +kernel
theorem d_K_settle_34 : decode c_K_settle 34 = .ok (.iadd, 1) := by decide +kernel
theorem d_K_settle_35 : decode c_K_settle 35 = .ok (.iconst 0, 1) := by decide +kernel
theorem d_K_settle_36 : decode c_K_settle 36 = .ok (.bastore, 1) := by decide +kernel
theorem d_K_settle_37 : decode c_K_settle 37 = .ok (.iinc 2 1, 3) := by decide +kernel
theorem d_K_settle_40 : decode c_K_settle 40 = .ok (.goto (-38), 3) := by decide +kernel
theorem d_K_settle_43 : decode c_K_settle 43 = .ok (.return_, 1) := by decide +kernel
theorem d_K_holds_0 : decode c_K_holds 0 = .ok (.aload_n 0, 1) := by decide +kernel
theorem d_K_holds_1 : decode c_K_holds 1 = .ok (.getfield 16, 3) := by decide +kernel
theorem d_K_holds_4 : decode c_K_holds 4 = .ok (.iload_n 1, 1) := by decide +kernel
theorem d_K_holds_5 : decode c_K_holds 5 = .ok (.bipush 32, 2) := by decide +kernel
theorem d_K_holds_7 : decode c_K_holds 7 = .ok (.imul, 1) := by decide +kernel
theorem d_K_holds_8 : decode c_K_holds 8 = .ok (.iload_n 2, 1) := by decide +kernel
theorem d_K_holds_9 : decode c_K_holds 9 = .ok (.iadd, 1) := by decide +kernel
theorem d_K_holds_10 : decode c_K_holds 10 = .ok (.baload, 1) := by decide +kernel
theorem d_K_holds_11 : decode c_K_holds 11 = .ok (.ifCond .eq 17, 3) := by decide +kernel
theorem d_K_holds_14 : decode c_K_holds 14 = .ok (.aload_n 0, 1) := by decide +kernel
theorem d_K_holds_15 : decode c_K_holds 15 = .ok (.getfield 13, 3) := by decide +kernel
theorem d_K_holds_18 : decode c_K_holds 18 = .ok (.iload_n 1, 1) := by decide +kernel
theorem d_K_holds_19 : decode c_K_holds 19 = .ok (.bipush 32, 2) := by decide +kernel
theorem d_K_holds_21 : decode c_K_holds 21 = .ok (.imul, 1) := by decide +kernel
theorem d_K_holds_22 : decode c_K_holds 22 = .ok (.iload_n 2, 1) := by decide +kernel
theorem d_K_holds_23 : decode c_K_holds 23 = .ok (.iadd, 1) := by decide +kernel
theorem d_K_holds_24 : decode c_K_holds 24 = .ok (.iaload, 1) := by decide +kernel
theorem d_K_holds_25 : decode c_K_holds 25 = .ok (.goto 14, 3) := by decide +kernel
theorem d_K_holds_28 : decode c_K_holds 28 = .ok (.aload_n 0, 1) := by decide +kernel
theorem d_K_holds_29 : decode c_K_holds 29 = .ok (.getfield 7, 3) := by decide +kernel
theorem d_K_holds_32 : decode c_K_holds 32 = .ok (.iload_n 1, 1) := by decide +kernel
theorem d_K_holds_33 : decode c_K_holds 33 = .ok (.bipush 32, 2) := by decide +kernel
theorem d_K_holds_35 : decode c_K_holds 35 = .ok (.imul, 1) := by decide +kernel
theorem d_K_holds_36 : decode c_K_holds 36 = .ok (.iload_n 2, 1) := by decide +kernel
theorem d_K_holds_37 : decode c_K_holds 37 = .ok (.iadd, 1) := by decide +kernel
theorem d_K_holds_38 : decode c_K_holds 38 = .ok (.iaload, 1) := by decide +kernel
theorem d_K_holds_39 : decode c_K_holds 39 = .ok (.ireturn, 1) := by decide +kernel
theorem d_K_writeStep_0 : decode c_K_writeStep 0 = .ok (.aload_n 0, 1) := by decide +kernel
theorem d_K_writeStep_1 : decode c_K_writeStep 1 = .ok (.aload_n 0, 1) := by decide +kernel
theorem d_K_writeStep_2 : decode c_K_writeStep 2 = .ok (.getfield 38, 3) := by decide +kernel
theorem d_K_writeStep_5 : decode c_K_writeStep 5 = .ok (.iload_n 1, 1) := by decide +kernel
theorem d_K_writeStep_6 : decode c_K_writeStep 6 = .ok (.iload_n 2, 1) := by decide +kernel
theorem d_K_writeStep_7 : decode c_K_writeStep 7 = .ok (.invokevirtual 70, 3) := by decide +kernel
theorem d_K_writeStep_10 : decode c_K_writeStep 10 = .ok (.aload_n 0, 1) := by decide +kernel
theorem d_K_writeStep_11 : decode c_K_writeStep 11 = .ok (.getfield 48, 3) := by decide +kernel
theorem d_K_writeStep_14 : decode c_K_writeStep 14 = .ok (.ifCond .eq 18, 3) := by decide +kernel
theorem d_K_writeStep_17 : decode c_K_writeStep 17 = .ok (.aload_n 0, 1) := by decide +kernel
theorem d_K_writeStep_18 : decode c_K_writeStep 18 = .ok (.iconst 1, 1) := by decide +kernel
theorem d_K_writeStep_19 : decode c_K_writeStep 19 = .ok (.aload_n 0, 1) := by decide +kernel
theorem d_K_writeStep_20 : decode c_K_writeStep 20 = .ok (.getfield 38, 3) := by decide +kernel
theorem d_K_writeStep_23 : decode c_K_writeStep 23 = .ok (.isub, 1) := by decide +kernel
theorem d_K_writeStep_24 : decode c_K_writeStep 24 = .ok (.iload_n 1, 1) := by decide +kernel
theorem d_K_writeStep_25 : decode c_K_writeStep 25 = .ok (.iload_n 2, 1) := by decide +kernel
theorem d_K_writeStep_26 : decode c_K_writeStep 26 = .ok (.invokevirtual 70, 3) := by decide +kernel
theorem d_K_writeStep_29 : decode c_K_writeStep 29 = .ok (.goto 20, 3) := by decide +kernel
theorem d_K_writeStep_32 : decode c_K_writeStep 32 = .ok (.aload_n 0, 1) := by decide +kernel
theorem d_K_writeStep_33 : decode c_K_writeStep 33 = .ok (.getfield 35, 3) := by decide +kernel
theorem d_K_writeStep_36 : decode c_K_writeStep 36 = .ok (.aload_n 0, 1) := by decide +kernel
theorem d_K_writeStep_37 : decode c_K_writeStep 37 = .ok (.getfield 38, 3) := by decide +kernel
theorem d_K_writeStep_40 : decode c_K_writeStep 40 = .ok (.dup2, 1) := by decide +kernel
theorem d_K_writeStep_41 : decode c_K_writeStep 41 = .ok (.iaload, 1) := by decide +kernel
theorem d_K_writeStep_42 : decode c_K_writeStep 42 = .ok (.aload_n 0, 1) := by decide +kernel
theorem d_K_writeStep_43 : decode c_K_writeStep 43 = .ok (.iload_n 1, 1) := by decide +kernel
theorem d_K_writeStep_44 : decode c_K_writeStep 44 = .ok (.invokevirtual 74, 3) := by decide +kernel
theorem d_K_writeStep_47 : decode c_K_writeStep 47 = .ok (.ior, 1) := by decide +kernel
theorem d_K_writeStep_48 : decode c_K_writeStep 48 = .ok (.iastore, 1) := by decide +kernel
theorem d_K_writeStep_49 : decode c_K_writeStep 49 = .ok (.return_, 1) := by decide +kernel
theorem d_K_keepIn_0 : decode c_K_keepIn 0 = .ok (.aload_n 0, 1) := by decide +kernel
theorem d_K_keepIn_1 : decode c_K_keepIn 1 = .ok (.getfield 13, 3) := by decide +kernel
theorem d_K_keepIn_4 : decode c_K_keepIn 4 = .ok (.iload_n 1, 1) := by decide +kernel
theorem d_K_keepIn_5 : decode c_K_keepIn 5 = .ok (.bipush 32, 2) := by decide +kernel
theorem d_K_keepIn_7 : decode c_K_keepIn 7 = .ok (.imul, 1) := by decide +kernel
theorem d_K_keepIn_8 : decode c_K_keepIn 8 = .ok (.iload_n 2, 1) := by decide +kernel
theorem d_K_keepIn_9 : decode c_K_keepIn 9 = .ok (.iadd, 1) := by decide +kernel
theorem d_K_keepIn_10 : decode c_K_keepIn 10 = .ok (.iload_n 3, 1) := by decide +kernel
theorem d_K_keepIn_11 : decode c_K_keepIn 11 = .ok (.iastore, 1) := by decide +kernel
theorem d_K_keepIn_12 : decode c_K_keepIn 12 = .ok (.aload_n 0, 1) := by decide +kernel
theorem d_K_keepIn_13 : decode c_K_keepIn 13 = .ok (.getfield 16, 3) := by decide +kernel
theorem d_K_keepIn_16 : decode c_K_keepIn 16 = .ok (.iload_n 1, 1) := by decide +kernel
theorem d_K_keepIn_17 : decode c_K_keepIn 17 = .ok (.bipush 32, 2) := by decide +kernel
theorem d_K_keepIn_19 : decode c_K_keepIn 19 = .ok (.imul, 1) := by decide +kernel
theorem d_K_keepIn_20 : decode c_K_keepIn 20 = .ok (.iload_n 2, 1) := by decide +kernel
theorem d_K_keepIn_21 : decode c_K_keepIn 21 = .ok (.iadd, 1) := by decide +kernel
theorem d_K_keepIn_22 : decode c_K_keepIn 22 = .ok (.iconst 1, 1) := by decide +kernel
theorem d_K_keepIn_23 : decode c_K_keepIn 23 = .ok (.bastore, 1) := by decide +kernel
theorem d_K_keepIn_24 : decode c_K_keepIn 24 = .ok (.return_, 1) := by decide +kernel
theorem d_K_extentBit_0 : decode c_K_extentBit 0 = .ok (.iconst 1, 1) := by decide +kernel
theorem d_K_extentBit_1 : decode c_K_extentBit 1 = .ok (.iload_n 1, 1) := by decide +kernel
theorem d_K_extentBit_2 : decode c_K_extentBit 2 = .ok (.iconst 4, 1) := by decide +kernel
theorem d_K_extentBit_3 : decode c_K_extentBit 3 = .ok (.idiv, 1) := by decide +kernel
theorem d_K_extentBit_4 : decode c_K_extentBit 4 = .ok (.ishl, 1) := by decide +kernel
theorem d_K_extentBit_5 : decode c_K_extentBit 5 = .ok (.ireturn, 1) := by decide +kernel
theorem d_K_crash_0 : decode c_K_crash 0 = .ok (.aload_n 0, 1) := by decide +kernel
theorem d_K_crash_1 : decode c_K_crash 1 = .ok (.iload_n 1, 1) := by decide +kernel
theorem d_K_crash_2 : decode c_K_crash 2 = .ok (.iconst 2, 1) := by decide +kernel
theorem d_K_crash_3 : decode c_K_crash 3 = .ok (.invokevirtual 93, 3) := by decide +kernel
theorem d_K_crash_6 : decode c_K_crash 6 = .ok (.ifCond .ne 12, 3) := by decide +kernel
theorem d_K_crash_9 : decode c_K_crash 9 = .ok (.aload_n 0, 1) := by decide +kernel
theorem d_K_crash_10 : decode c_K_crash 10 = .ok (.getfield 20, 3) := by decide +kernel
theorem d_K_crash_13 : decode c_K_crash 13 = .ok (.iload_n 1, 1) := by decide +kernel
theorem d_K_crash_14 : decode c_K_crash 14 = .ok (.baload, 1) := by decide +kernel
theorem d_K_crash_15 : decode c_K_crash 15 = .ok (.ifCond .eq 5, 3) := by decide +kernel
theorem d_K_crash_18 : decode c_K_crash 18 = .ok (.iconst (-1), 1) := by decide +kernel
theorem d_K_crash_19 : decode c_K_crash 19 = .ok (.ireturn, 1) := by decide +kernel
theorem d_K_crash_20 : decode c_K_crash 20 = .ok (.iconst 0, 1) := by decide +kernel
theorem d_K_crash_21 : decode c_K_crash 21 = .ok (.istore_n 3, 1) := by decide +kernel
theorem d_K_crash_22 : decode c_K_crash 22 = .ok (.iload_n 3, 1) := by decide +kernel
theorem d_K_crash_23 : decode c_K_crash 23 = .ok (.bipush 32, 2) := by decide +kernel
theorem d_K_crash_25 : decode c_K_crash 25 = .ok (.if_icmp .ge 103, 3) := by decide +kernel
theorem d_K_crash_28 : decode c_K_crash 28 = .ok (.aload_n 0, 1) := by decide +kernel
theorem d_K_crash_29 : decode c_K_crash 29 = .ok (.getfield 16, 3) := by decide +kernel
theorem d_K_crash_32 : decode c_K_crash 32 = .ok (.iload_n 1, 1) := by decide +kernel
theorem d_K_crash_33 : decode c_K_crash 33 = .ok (.bipush 32, 2) := by decide +kernel
theorem d_K_crash_35 : decode c_K_crash 35 = .ok (.imul, 1) := by decide +kernel
theorem d_K_crash_36 : decode c_K_crash 36 = .ok (.iload_n 3, 1) := by decide +kernel
theorem d_K_crash_37 : decode c_K_crash 37 = .ok (.iadd, 1) := by decide +kernel
theorem d_K_crash_38 : decode c_K_crash 38 = .ok (.baload, 1) := by decide +kernel
theorem d_K_crash_39 : decode c_K_crash 39 = .ok (.ifCond .eq 83, 3) := by decide +kernel
theorem d_K_crash_42 : decode c_K_crash 42 = .ok (.aload_n 0, 1) := by decide +kernel
theorem d_K_crash_43 : decode c_K_crash 43 = .ok (.getfield 35, 3) := by decide +kernel
theorem d_K_crash_46 : decode c_K_crash 46 = .ok (.iload_n 1, 1) := by decide +kernel
theorem d_K_crash_47 : decode c_K_crash 47 = .ok (.dup2, 1) := by decide +kernel
theorem d_K_crash_48 : decode c_K_crash 48 = .ok (.iaload, 1) := by decide +kernel
theorem d_K_crash_49 : decode c_K_crash 49 = .ok (.aload_n 0, 1) := by decide +kernel
theorem d_K_crash_50 : decode c_K_crash 50 = .ok (.iload_n 3, 1) := by decide +kernel
theorem d_K_crash_51 : decode c_K_crash 51 = .ok (.invokevirtual 74, 3) := by decide +kernel
theorem d_K_crash_54 : decode c_K_crash 54 = .ok (.ior, 1) := by decide +kernel
theorem d_K_crash_55 : decode c_K_crash 55 = .ok (.iastore, 1) := by decide +kernel
theorem d_K_crash_56 : decode c_K_crash 56 = .ok (.aload_n 0, 1) := by decide +kernel
theorem d_K_crash_57 : decode c_K_crash 57 = .ok (.getfield 48, 3) := by decide +kernel
theorem d_K_crash_60 : decode c_K_crash 60 = .ok (.ifCond .eq 19, 3) := by decide +kernel
theorem d_K_crash_63 : decode c_K_crash 63 = .ok (.aload_n 0, 1) := by decide +kernel
theorem d_K_crash_64 : decode c_K_crash 64 = .ok (.getfield 35, 3) := by decide +kernel
theorem d_K_crash_67 : decode c_K_crash 67 = .ok (.iconst 1, 1) := by decide +kernel
theorem d_K_crash_68 : decode c_K_crash 68 = .ok (.iload_n 1, 1) := by decide +kernel
theorem d_K_crash_69 : decode c_K_crash 69 = .ok (.isub, 1) := by decide +kernel
theorem d_K_crash_70 : decode c_K_crash 70 = .ok (.dup2, 1) := by decide +kernel
theorem d_K_crash_71 : decode c_K_crash 71 = .ok (.iaload, 1) := by decide +kernel
theorem d_K_crash_72 : decode c_K_crash 72 = .ok (.aload_n 0, 1) := by decide +kernel
theorem d_K_crash_73 : decode c_K_crash 73 = .ok (.iload_n 3, 1) := by decide +kernel
theorem d_K_crash_74 : decode c_K_crash 74 = .ok (.invokevirtual 74, 3) := by decide +kernel
theorem d_K_crash_77 : decode c_K_crash 77 = .ok (.ior, 1) := by decide +kernel
theorem d_K_crash_78 : decode c_K_crash 78 = .ok (.iastore, 1) := by decide +kernel
theorem d_K_crash_79 : decode c_K_crash 79 = .ok (.iload_n 2, 1) := by decide +kernel
theorem d_K_crash_80 : decode c_K_crash 80 = .ok (.iload_n 3, 1) := by decide +kernel
theorem d_K_crash_81 : decode c_K_crash 81 = .ok (.iushr, 1) := by decide +kernel
theorem d_K_crash_82 : decode c_K_crash 82 = .ok (.iconst 1, 1) := by decide +kernel
theorem d_K_crash_83 : decode c_K_crash 83 = .ok (.iand, 1) := by decide +kernel
theorem d_K_crash_84 : decode c_K_crash 84 = .ok (.iconst 1, 1) := by decide +kernel
theorem d_K_crash_85 : decode c_K_crash 85 = .ok (.if_icmp .ne 25, 3) := by decide +kernel
theorem d_K_crash_88 : decode c_K_crash 88 = .ok (.aload_n 0, 1) := by decide +kernel
theorem d_K_crash_89 : decode c_K_crash 89 = .ok (.getfield 7, 3) := by decide +kernel
theorem d_K_crash_92 : decode c_K_crash 92 = .ok (.iload_n 1, 1) := by decide +kernel
theorem d_K_crash_93 : decode c_K_crash 93 = .ok (.bipush 32, 2) := by decide +kernel
theorem d_K_crash_95 : decode c_K_crash 95 = .ok (.imul, 1) := by decide +kernel
theorem d_K_crash_96 : decode c_K_crash 96 = .ok (.iload_n 3, 1) := by decide +kernel
theorem d_K_crash_97 : decode c_K_crash 97 = .ok (.iadd, 1) := by decide +kernel
theorem d_K_crash_98 : decode c_K_crash 98 = .ok (.aload_n 0, 1) := by decide +kernel
theorem d_K_crash_99 : decode c_K_crash 99 = .ok (.getfield 13, 3) := by decide +kernel
theorem d_K_crash_102 : decode c_K_crash 102 = .ok (.iload_n 1, 1) := by decide +kernel
theorem d_K_crash_103 : decode c_K_crash 103 = .ok (.bipush 32, 2) := by decide +kernel
theorem d_K_crash_105 : decode c_K_crash 105 = .ok (.imul, 1) := by decide +kernel
theorem d_K_crash_106 : decode c_K_crash 106 = .ok (.iload_n 3, 1) := by decide +kernel
theorem d_K_crash_107 : decode c_K_crash 107 = .ok (.iadd, 1) := by decide +kernel
theorem d_K_crash_108 : decode c_K_crash 108 = .ok (.iaload, 1) := by decide +kernel
theorem d_K_crash_109 : decode c_K_crash 109 = .ok (.iastore, 1) := by decide +kernel
theorem d_K_crash_110 : decode c_K_crash 110 = .ok (.aload_n 0, 1) := by decide +kernel
theorem d_K_crash_111 : decode c_K_crash 111 = .ok (.getfield 16, 3) := by decide +kernel
theorem d_K_crash_114 : decode c_K_crash 114 = .ok (.iload_n 1, 1) := by decide +kernel
theorem d_K_crash_115 : decode c_K_crash 115 = .ok (.bipush 32, 2) := by decide +kernel
theorem d_K_crash_117 : decode c_K_crash 117 = .ok (.imul, 1) := by decide +kernel
theorem d_K_crash_118 : decode c_K_crash 118 = .ok (.iload_n 3, 1) := by decide +kernel
theorem d_K_crash_119 : decode c_K_crash 119 = .ok (.iadd, 1) := by decide +kernel
theorem d_K_crash_120 : decode c_K_crash 120 = .ok (.iconst 0, 1) := by decide +kernel
theorem d_K_crash_121 : decode c_K_crash 121 = .ok (.bastore, 1) := by decide +kernel
theorem d_K_crash_122 : decode c_K_crash 122 = .ok (.iinc 3 1, 3) := by decide +kernel
theorem d_K_crash_125 : decode c_K_crash 125 = .ok (.goto (-103), 3) := by decide +kernel
theorem d_K_crash_128 : decode c_K_crash 128 = .ok (.aload_n 0, 1) := by decide +kernel
theorem d_K_crash_129 : decode c_K_crash 129 = .ok (.getfield 20, 3) := by decide +kernel
theorem d_K_crash_132 : decode c_K_crash 132 = .ok (.iload_n 1, 1) := by decide +kernel
theorem d_K_crash_133 : decode c_K_crash 133 = .ok (.iconst 1, 1) := by decide +kernel
theorem d_K_crash_134 : decode c_K_crash 134 = .ok (.bastore, 1) := by decide +kernel
theorem d_K_crash_135 : decode c_K_crash 135 = .ok (.aload_n 0, 1) := by decide +kernel
theorem d_K_crash_136 : decode c_K_crash 136 = .ok (.getfield 38, 3) := by decide +kernel
theorem d_K_crash_139 : decode c_K_crash 139 = .ok (.iload_n 1, 1) := by decide +kernel
theorem d_K_crash_140 : decode c_K_crash 140 = .ok (.if_icmp .ne 7, 3) := by decide +kernel
theorem d_K_crash_143 : decode c_K_crash 143 = .ok (.aload_n 0, 1) := by decide +kernel
theorem d_K_crash_144 : decode c_K_crash 144 = .ok (.invokevirtual 108, 3) := by decide +kernel
theorem d_K_crash_147 : decode c_K_crash 147 = .ok (.aload_n 0, 1) := by decide +kernel
theorem d_K_crash_148 : decode c_K_crash 148 = .ok (.invokevirtual 111, 3) := by decide +kernel
theorem d_K_crash_151 : decode c_K_crash 151 = .ok (.iconst 0, 1) := by decide +kernel
theorem d_K_crash_152 : decode c_K_crash 152 = .ok (.ireturn, 1) := by decide +kernel
theorem d_K_noPrimary_0 : decode c_K_noPrimary 0 = .ok (.aload_n 0, 1) := by decide +kernel
theorem d_K_noPrimary_1 : decode c_K_noPrimary 1 = .ok (.iconst 2, 1) := by decide +kernel
theorem d_K_noPrimary_2 : decode c_K_noPrimary 2 = .ok (.putfield 38, 3) := by decide +kernel
theorem d_K_noPrimary_5 : decode c_K_noPrimary 5 = .ok (.aload_n 0, 1) := by decide +kernel
theorem d_K_noPrimary_6 : decode c_K_noPrimary 6 = .ok (.iconst 0, 1) := by decide +kernel
theorem d_K_noPrimary_7 : decode c_K_noPrimary 7 = .ok (.putfield 67, 3) := by decide +kernel
theorem d_K_noPrimary_10 : decode c_K_noPrimary 10 = .ok (.return_, 1) := by decide +kernel
theorem d_K_disconnect_0 : decode c_K_disconnect 0 = .ok (.aload_n 0, 1) := by decide +kernel
theorem d_K_disconnect_1 : decode c_K_disconnect 1 = .ok (.iconst 0, 1) := by decide +kernel
theorem d_K_disconnect_2 : decode c_K_disconnect 2 = .ok (.putfield 48, 3) := by decide +kernel
theorem d_K_disconnect_5 : decode c_K_disconnect 5 = .ok (.aload_n 0, 1) := by decide +kernel
theorem d_K_disconnect_6 : decode c_K_disconnect 6 = .ok (.iconst 2, 1) := by decide +kernel
theorem d_K_disconnect_7 : decode c_K_disconnect 7 = .ok (.putfield 42, 3) := by decide +kernel
theorem d_K_disconnect_10 : decode c_K_disconnect 10 = .ok (.return_, 1) := by decide +kernel
theorem d_K_cell_0 : decode c_K_cell 0 = .ok (.aload_n 0, 1) := by decide +kernel
theorem d_K_cell_1 : decode c_K_cell 1 = .ok (.iload_n 1, 1) := by decide +kernel
theorem d_K_cell_2 : decode c_K_cell 2 = .ok (.bipush 24, 2) := by decide +kernel
theorem d_K_cell_4 : decode c_K_cell 4 = .ok (.invokevirtual 93, 3) := by decide +kernel
theorem d_K_cell_7 : decode c_K_cell 7 = .ok (.ifCond .ne 11, 3) := by decide +kernel
theorem d_K_cell_10 : decode c_K_cell 10 = .ok (.aload_n 0, 1) := by decide +kernel
theorem d_K_cell_11 : decode c_K_cell 11 = .ok (.getfield 38, 3) := by decide +kernel
theorem d_K_cell_14 : decode c_K_cell 14 = .ok (.iconst 2, 1) := by decide +kernel
theorem d_K_cell_15 : decode c_K_cell 15 = .ok (.if_icmp .ne 9, 3) := by decide +kernel
theorem d_K_cell_18 : decode c_K_cell 18 = .ok (.ldc2_w 106, 3) := by decide +kernel
theorem d_K_cell_21 : decode c_K_cell 21 = .ok (.goto 13, 3) := by decide +kernel
theorem d_K_cell_24 : decode c_K_cell 24 = .ok (.aload_n 0, 1) := by decide +kernel
theorem d_K_cell_25 : decode c_K_cell 25 = .ok (.aload_n 0, 1) := by decide +kernel
theorem d_K_cell_26 : decode c_K_cell 26 = .ok (.getfield 38, 3) := by decide +kernel
theorem d_K_cell_29 : decode c_K_cell 29 = .ok (.iload_n 1, 1) := by decide +kernel
theorem d_K_cell_30 : decode c_K_cell 30 = .ok (.invokevirtual 78, 3) := by decide +kernel
theorem d_K_cell_33 : decode c_K_cell 33 = .ok (.i2l, 1) := by decide +kernel
theorem d_K_cell_34 : decode c_K_cell 34 = .ok (.lreturn, 1) := by decide +kernel
theorem d_K_restart_0 : decode c_K_restart 0 = .ok (.aload_n 0, 1) := by decide +kernel
theorem d_K_restart_1 : decode c_K_restart 1 = .ok (.iload_n 1, 1) := by decide +kernel
theorem d_K_restart_2 : decode c_K_restart 2 = .ok (.iconst 2, 1) := by decide +kernel
theorem d_K_restart_3 : decode c_K_restart 3 = .ok (.invokevirtual 93, 3) := by decide +kernel
theorem d_K_restart_6 : decode c_K_restart 6 = .ok (.ifCond .ne 12, 3) := by decide +kernel
theorem d_K_restart_9 : decode c_K_restart 9 = .ok (.aload_n 0, 1) := by decide +kernel
theorem d_K_restart_10 : decode c_K_restart 10 = .ok (.getfield 20, 3) := by decide +kernel
theorem d_K_restart_13 : decode c_K_restart 13 = .ok (.iload_n 1, 1) := by decide +kernel
theorem d_K_restart_14 : decode c_K_restart 14 = .ok (.baload, 1) := by decide +kernel
theorem d_K_restart_15 : decode c_K_restart 15 = .ok (.ifCond .ne 5, 3) := by decide +kernel
theorem d_K_restart_18 : decode c_K_restart 18 = .ok (.iconst (-1), 1) := by decide +kernel
theorem d_K_restart_19 : decode c_K_restart 19 = .ok (.ireturn, 1) := by decide +kernel
theorem d_K_restart_20 : decode c_K_restart 20 = .ok (.aload_n 0, 1) := by decide +kernel
theorem d_K_restart_21 : decode c_K_restart 21 = .ok (.getfield 20, 3) := by decide +kernel
theorem d_K_restart_24 : decode c_K_restart 24 = .ok (.iload_n 1, 1) := by decide +kernel
theorem d_K_restart_25 : decode c_K_restart 25 = .ok (.iconst 0, 1) := by decide +kernel
theorem d_K_restart_26 : decode c_K_restart 26 = .ok (.bastore, 1) := by decide +kernel
theorem d_K_restart_27 : decode c_K_restart 27 = .ok (.iconst 0, 1) := by decide +kernel
theorem d_K_restart_28 : decode c_K_restart 28 = .ok (.ireturn, 1) := by decide +kernel
theorem d_K_swap_0 : decode c_K_swap 0 = .ok (.aload_n 0, 1) := by decide +kernel
theorem d_K_swap_1 : decode c_K_swap 1 = .ok (.iload_n 1, 1) := by decide +kernel
theorem d_K_swap_2 : decode c_K_swap 2 = .ok (.iconst 2, 1) := by decide +kernel
theorem d_K_swap_3 : decode c_K_swap 3 = .ok (.invokevirtual 93, 3) := by decide +kernel
theorem d_K_swap_6 : decode c_K_swap 6 = .ok (.ifCond .ne 12, 3) := by decide +kernel
theorem d_K_swap_9 : decode c_K_swap 9 = .ok (.aload_n 0, 1) := by decide +kernel
theorem d_K_swap_10 : decode c_K_swap 10 = .ok (.getfield 20, 3) := by decide +kernel
theorem d_K_swap_13 : decode c_K_swap 13 = .ok (.iload_n 1, 1) := by decide +kernel
theorem d_K_swap_14 : decode c_K_swap 14 = .ok (.baload, 1) := by decide +kernel
theorem d_K_swap_15 : decode c_K_swap 15 = .ok (.ifCond .ne 5, 3) := by decide +kernel
theorem d_K_swap_18 : decode c_K_swap 18 = .ok (.iconst (-1), 1) := by decide +kernel
theorem d_K_swap_19 : decode c_K_swap 19 = .ok (.ireturn, 1) := by decide +kernel
theorem d_K_swap_20 : decode c_K_swap 20 = .ok (.iconst 0, 1) := by decide +kernel
theorem d_K_swap_21 : decode c_K_swap 21 = .ok (.istore_n 2, 1) := by decide +kernel
theorem d_K_swap_22 : decode c_K_swap 22 = .ok (.iload_n 2, 1) := by decide +kernel
theorem d_K_swap_23 : decode c_K_swap 23 = .ok (.bipush 32, 2) := by decide +kernel
theorem d_K_swap_25 : decode c_K_swap 25 = .ok (.if_icmp .ge 33, 3) := by decide +kernel
theorem d_K_swap_28 : decode c_K_swap 28 = .ok (.aload_n 0, 1) := by decide +kernel
theorem d_K_swap_29 : decode c_K_swap 29 = .ok (.getfield 7, 3) := by decide +kernel
theorem d_K_swap_32 : decode c_K_swap 32 = .ok (.iload_n 1, 1) := by decide +kernel
theorem d_K_swap_33 : decode c_K_swap 33 = .ok (.bipush 32, 2) := by decide +kernel
theorem d_K_swap_35 : decode c_K_swap 35 = .ok (.imul, 1) := by decide +kernel
theorem d_K_swap_36 : decode c_K_swap 36 = .ok (.iload_n 2, 1) := by decide +kernel
theorem d_K_swap_37 : decode c_K_swap 37 = .ok (.iadd, 1) := by decide +kernel
theorem d_K_swap_38 : decode c_K_swap 38 = .ok (.iconst 0, 1) := by decide +kernel
theorem d_K_swap_39 : decode c_K_swap 39 = .ok (.iastore, 1) := by decide +kernel
theorem d_K_swap_40 : decode c_K_swap 40 = .ok (.aload_n 0, 1) := by decide +kernel
theorem d_K_swap_41 : decode c_K_swap 41 = .ok (.getfield 16, 3) := by decide +kernel
theorem d_K_swap_44 : decode c_K_swap 44 = .ok (.iload_n 1, 1) := by decide +kernel
theorem d_K_swap_45 : decode c_K_swap 45 = .ok (.bipush 32, 2) := by decide +kernel
theorem d_K_swap_47 : decode c_K_swap 47 = .ok (.imul, 1) := by decide +kernel
theorem d_K_swap_48 : decode c_K_swap 48 = .ok (.iload_n 2, 1) := by decide +kernel
theorem d_K_swap_49 : decode c_K_swap 49 = .ok (.iadd, 1) := by decide +kernel
theorem d_K_swap_50 : decode c_K_swap 50 = .ok (.iconst 0, 1) := by decide +kernel
theorem d_K_swap_51 : decode c_K_swap 51 = .ok (.bastore, 1) := by decide +kernel
theorem d_K_swap_52 : decode c_K_swap 52 = .ok (.iinc 2 1, 3) := by decide +kernel
theorem d_K_swap_55 : decode c_K_swap 55 = .ok (.goto (-33), 3) := by decide +kernel
theorem d_K_swap_58 : decode c_K_swap 58 = .ok (.aload_n 0, 1) := by decide +kernel
theorem d_K_swap_59 : decode c_K_swap 59 = .ok (.getfield 29, 3) := by decide +kernel
theorem d_K_swap_62 : decode c_K_swap 62 = .ok (.iload_n 1, 1) := by decide +kernel
theorem d_K_swap_63 : decode c_K_swap 63 = .ok (.iconst 0, 1) := by decide +kernel
theorem d_K_swap_64 : decode c_K_swap 64 = .ok (.iastore, 1) := by decide +kernel
theorem d_K_swap_65 : decode c_K_swap 65 = .ok (.aload_n 0, 1) := by decide +kernel
theorem d_K_swap_66 : decode c_K_swap 66 = .ok (.getfield 32, 3) := by decide +kernel
theorem d_K_swap_69 : decode c_K_swap 69 = .ok (.iload_n 1, 1) := by decide +kernel
theorem d_K_swap_70 : decode c_K_swap 70 = .ok (.iconst 0, 1) := by decide +kernel
theorem d_K_swap_71 : decode c_K_swap 71 = .ok (.iastore, 1) := by decide +kernel
theorem d_K_swap_72 : decode c_K_swap 72 = .ok (.aload_n 0, 1) := by decide +kernel
theorem d_K_swap_73 : decode c_K_swap 73 = .ok (.getfield 23, 3) := by decide +kernel
theorem d_K_swap_76 : decode c_K_swap 76 = .ok (.iload_n 1, 1) := by decide +kernel
theorem d_K_swap_77 : decode c_K_swap 77 = .ok (.iconst 0, 1) := by decide +kernel
theorem d_K_swap_78 : decode c_K_swap 78 = .ok (.bastore, 1) := by decide +kernel
theorem d_K_swap_79 : decode c_K_swap 79 = .ok (.aload_n 0, 1) := by decide +kernel
theorem d_K_swap_80 : decode c_K_swap 80 = .ok (.getfield 35, 3) := by decide +kernel
theorem d_K_swap_83 : decode c_K_swap 83 = .ok (.iload_n 1, 1) := by decide +kernel
theorem d_K_swap_84 : decode c_K_swap 84 = .ok (.iconst 0, 1) := by decide +kernel
theorem d_K_swap_85 : decode c_K_swap 85 = .ok (.iastore, 1) := by decide +kernel
theorem d_K_swap_86 : decode c_K_swap 86 = .ok (.iconst 0, 1) := by decide +kernel
theorem d_K_swap_87 : decode c_K_swap 87 = .ok (.ireturn, 1) := by decide +kernel
theorem d_K_line_0 : decode c_K_line 0 = .ok (.aload_n 0, 1) := by decide +kernel
theorem d_K_line_1 : decode c_K_line 1 = .ok (.iload_n 1, 1) := by decide +kernel
theorem d_K_line_2 : decode c_K_line 2 = .ok (.putfield 52, 3) := by decide +kernel
theorem d_K_line_5 : decode c_K_line 5 = .ok (.iload_n 1, 1) := by decide +kernel
theorem d_K_line_6 : decode c_K_line 6 = .ok (.ifCond .ne 7, 3) := by decide +kernel
theorem d_K_line_9 : decode c_K_line 9 = .ok (.aload_n 0, 1) := by decide +kernel
theorem d_K_line_10 : decode c_K_line 10 = .ok (.invokevirtual 111, 3) := by decide +kernel
theorem d_K_line_13 : decode c_K_line 13 = .ok (.iconst 0, 1) := by decide +kernel
theorem d_K_line_14 : decode c_K_line 14 = .ok (.ireturn, 1) := by decide +kernel
theorem d_K_witnessLine_0 : decode c_K_witnessLine 0 = .ok (.aload_n 0, 1) := by decide +kernel
theorem d_K_witnessLine_1 : decode c_K_witnessLine 1 = .ok (.iload_n 1, 1) := by decide +kernel
theorem d_K_witnessLine_2 : decode c_K_witnessLine 2 = .ok (.iconst 2, 1) := by decide +kernel
theorem d_K_witnessLine_3 : decode c_K_witnessLine 3 = .ok (.invokevirtual 93, 3) := by decide +kernel
theorem d_K_witnessLine_6 : decode c_K_witnessLine 6 = .ok (.ifCond .eq 5, 3) := by decide +kernel
theorem d_K_witnessLine_9 : decode c_K_witnessLine 9 = .ok (.iconst (-1), 1) := by decide +kernel
theorem d_K_witnessLine_10 : decode c_K_witnessLine 10 = .ok (.ireturn, 1) := by decide +kernel
theorem d_K_witnessLine_11 : decode c_K_witnessLine 11 = .ok (.aload_n 0, 1) := by decide +kernel
theorem d_K_witnessLine_12 : decode c_K_witnessLine 12 = .ok (.getfield 26, 3) := by decide +kernel
theorem d_K_witnessLine_15 : decode c_K_witnessLine 15 = .ok (.iload_n 1, 1) := by decide +kernel
theorem d_K_witnessLine_16 : decode c_K_witnessLine 16 = .ok (.iload_n 2, 1) := by decide +kernel
theorem d_K_witnessLine_17 : decode c_K_witnessLine 17 = .ok (.ifCond .ne 7, 3) := by decide +kernel
theorem d_K_witnessLine_20 : decode c_K_witnessLine 20 = .ok (.iconst 1, 1) := by decide +kernel
theorem d_K_witnessLine_21 : decode c_K_witnessLine 21 = .ok (.goto 4, 3) := by decide +kernel
theorem d_K_witnessLine_24 : decode c_K_witnessLine 24 = .ok (.iconst 0, 1) := by decide +kernel
theorem d_K_witnessLine_25 : decode c_K_witnessLine 25 = .ok (.bastore, 1) := by decide +kernel
theorem d_K_witnessLine_26 : decode c_K_witnessLine 26 = .ok (.iconst 0, 1) := by decide +kernel
theorem d_K_witnessLine_27 : decode c_K_witnessLine 27 = .ok (.ireturn, 1) := by decide +kernel
theorem d_K_connect_0 : decode c_K_connect 0 = .ok (.aload_n 0, 1) := by decide +kernel
theorem d_K_connect_1 : decode c_K_connect 1 = .ok (.getfield 48, 3) := by decide +kernel
theorem d_K_connect_4 : decode c_K_connect 4 = .ok (.ifCond .ne 28, 3) := by decide +kernel
theorem d_K_connect_7 : decode c_K_connect 7 = .ok (.aload_n 0, 1) := by decide +kernel
theorem d_K_connect_8 : decode c_K_connect 8 = .ok (.getfield 52, 3) := by decide +kernel
theorem d_K_connect_11 : decode c_K_connect 11 = .ok (.ifCond .eq 21, 3) := by decide +kernel
theorem d_K_connect_14 : decode c_K_connect 14 = .ok (.aload_n 0, 1) := by decide +kernel
theorem d_K_connect_15 : decode c_K_connect 15 = .ok (.getfield 20, 3) := by decide +kernel
theorem d_K_connect_18 : decode c_K_connect 18 = .ok (.iconst 0, 1) := by decide +kernel
theorem d_K_connect_19 : decode c_K_connect 19 = .ok (.baload, 1) := by decide +kernel
theorem d_K_connect_20 : decode c_K_connect 20 = .ok (.ifCond .ne 12, 3) := by decide +kernel
theorem d_K_connect_23 : decode c_K_connect 23 = .ok (.aload_n 0, 1) := by decide +kernel
theorem d_K_connect_24 : decode c_K_connect 24 = .ok (.getfield 20, 3) := by decide +kernel
theorem d_K_connect_27 : decode c_K_connect 27 = .ok (.iconst 1, 1) := by decide +kernel
theorem d_K_connect_28 : decode c_K_connect 28 = .ok (.baload, 1) := by decide +kernel
theorem d_K_connect_29 : decode c_K_connect 29 = .ok (.ifCond .eq 5, 3) := by decide +kernel
theorem d_K_connect_32 : decode c_K_connect 32 = .ok (.iconst (-1), 1) := by decide +kernel
theorem d_K_connect_33 : decode c_K_connect 33 = .ok (.ireturn, 1) := by decide +kernel
theorem d_K_connect_34 : decode c_K_connect 34 = .ok (.aload_n 0, 1) := by decide +kernel
theorem d_K_connect_35 : decode c_K_connect 35 = .ok (.getfield 29, 3) := by decide +kernel
theorem d_K_connect_38 : decode c_K_connect 38 = .ok (.iconst 0, 1) := by decide +kernel
theorem d_K_connect_39 : decode c_K_connect 39 = .ok (.iaload, 1) := by decide +kernel
theorem d_K_connect_40 : decode c_K_connect 40 = .ok (.ifCond .ne 15, 3) := by decide +kernel
theorem d_K_connect_43 : decode c_K_connect 43 = .ok (.aload_n 0, 1) := by decide +kernel
theorem d_K_connect_44 : decode c_K_connect 44 = .ok (.getfield 29, 3) := by decide +kernel
theorem d_K_connect_47 : decode c_K_connect 47 = .ok (.iconst 1, 1) := by decide +kernel
theorem d_K_connect_48 : decode c_K_connect 48 = .ok (.iaload, 1) := by decide +kernel
theorem d_K_connect_49 : decode c_K_connect 49 = .ok (.ifCond .ne 6, 3) := by decide +kernel
theorem d_K_connect_52 : decode c_K_connect 52 = .ok (.bipush (-6), 2) := by decide +kernel
theorem d_K_connect_54 : decode c_K_connect 54 = .ok (.ireturn, 1) := by decide +kernel
theorem d_K_connect_55 : decode c_K_connect 55 = .ok (.aload_n 0, 1) := by decide +kernel
theorem d_K_connect_56 : decode c_K_connect 56 = .ok (.getfield 35, 3) := by decide +kernel
theorem d_K_connect_59 : decode c_K_connect 59 = .ok (.iconst 0, 1) := by decide +kernel
theorem d_K_connect_60 : decode c_K_connect 60 = .ok (.iaload, 1) := by decide +kernel
theorem d_K_connect_61 : decode c_K_connect 61 = .ok (.aload_n 0, 1) := by decide +kernel
theorem d_K_connect_62 : decode c_K_connect 62 = .ok (.getfield 35, 3) := by decide +kernel
theorem d_K_connect_65 : decode c_K_connect 65 = .ok (.iconst 1, 1) := by decide +kernel
theorem d_K_connect_66 : decode c_K_connect 66 = .ok (.iaload, 1) := by decide +kernel
theorem d_K_connect_67 : decode c_K_connect 67 = .ok (.ior, 1) := by decide +kernel
theorem d_K_connect_68 : decode c_K_connect 68 = .ok (.istore_n 1, 1) := by decide +kernel
theorem d_K_connect_69 : decode c_K_connect 69 = .ok (.aload_n 0, 1) := by decide +kernel
theorem d_K_connect_70 : decode c_K_connect 70 = .ok (.getfield 29, 3) := by decide +kernel
theorem d_K_connect_73 : decode c_K_connect 73 = .ok (.iconst 1, 1) := by decide +kernel
theorem d_K_connect_74 : decode c_K_connect 74 = .ok (.iaload, 1) := by decide +kernel
theorem d_K_connect_75 : decode c_K_connect 75 = .ok (.aload_n 0, 1) := by decide +kernel
theorem d_K_connect_76 : decode c_K_connect 76 = .ok (.getfield 29, 3) := by decide +kernel
theorem d_K_connect_79 : decode c_K_connect 79 = .ok (.iconst 0, 1) := by decide +kernel
theorem d_K_connect_80 : decode c_K_connect 80 = .ok (.iaload, 1) := by decide +kernel
theorem d_K_connect_81 : decode c_K_connect 81 = .ok (.if_icmp .le 7, 3) := by decide +kernel
theorem d_K_connect_84 : decode c_K_connect 84 = .ok (.iconst 1, 1) := by decide +kernel
theorem d_K_connect_85 : decode c_K_connect 85 = .ok (.goto 4, 3) := by decide +kernel
theorem d_K_connect_88 : decode c_K_connect 88 = .ok (.iconst 0, 1) := by decide +kernel
theorem d_K_connect_89 : decode c_K_connect 89 = .ok (.istore_n 2, 1) := by decide +kernel
theorem d_K_connect_90 : decode c_K_connect 90 = .ok (.aload_n 0, 1) := by decide +kernel
theorem d_K_connect_91 : decode c_K_connect 91 = .ok (.getfield 29, 3) := by decide +kernel
theorem d_K_connect_94 : decode c_K_connect 94 = .ok (.iconst 0, 1) := by decide +kernel
theorem d_K_connect_95 : decode c_K_connect 95 = .ok (.iaload, 1) := by decide +kernel
theorem d_K_connect_96 : decode c_K_connect 96 = .ok (.aload_n 0, 1) := by decide +kernel
theorem d_K_connect_97 : decode c_K_connect 97 = .ok (.getfield 29, 3) := by decide +kernel
theorem d_K_connect_100 : decode c_K_connect 100 = .ok (.iconst 1, 1) := by decide +kernel
theorem d_K_connect_101 : decode c_K_connect 101 = .ok (.iaload, 1) := by decide +kernel
theorem d_K_connect_102 : decode c_K_connect 102 = .ok (.if_icmp .ne 20, 3) := by decide +kernel
theorem d_K_connect_105 : decode c_K_connect 105 = .ok (.aload_n 0, 1) := by decide +kernel
theorem d_K_connect_106 : decode c_K_connect 106 = .ok (.getfield 38, 3) := by decide +kernel
theorem d_K_connect_109 : decode c_K_connect 109 = .ok (.iconst 1, 1) := by decide +kernel
theorem d_K_connect_110 : decode c_K_connect 110 = .ok (.if_icmp .ne 7, 3) := by decide +kernel
theorem d_K_connect_113 : decode c_K_connect 113 = .ok (.iconst 1, 1) := by decide +kernel
theorem d_K_connect_114 : decode c_K_connect 114 = .ok (.goto 4, 3) := by decide +kernel
theorem d_K_connect_117 : decode c_K_connect 117 = .ok (.iconst 0, 1) := by decide +kernel
theorem d_K_connect_118 : decode c_K_connect 118 = .ok (.istore_n 2, 1) := by decide +kernel
theorem d_K_connect_119 : decode c_K_connect 119 = .ok (.goto 33, 3) := by decide +kernel
theorem d_K_connect_122 : decode c_K_connect 122 = .ok (.aload_n 0, 1) := by decide +kernel
theorem d_K_connect_123 : decode c_K_connect 123 = .ok (.getfield 23, 3) := by decide +kernel
theorem d_K_connect_126 : decode c_K_connect 126 = .ok (.iload_n 2, 1) := by decide +kernel
theorem d_K_connect_127 : decode c_K_connect 127 = .ok (.baload, 1) := by decide +kernel
theorem d_K_connect_128 : decode c_K_connect 128 = .ok (.ifCond .eq 20, 3) := by decide +kernel
theorem d_K_connect_131 : decode c_K_connect 131 = .ok (.aload_n 0, 1) := by decide +kernel
theorem d_K_connect_132 : decode c_K_connect 132 = .ok (.getfield 32, 3) := by decide +kernel
theorem d_K_connect_135 : decode c_K_connect 135 = .ok (.iload_n 2, 1) := by decide +kernel
theorem d_K_connect_136 : decode c_K_connect 136 = .ok (.iaload, 1) := by decide +kernel
theorem d_K_connect_137 : decode c_K_connect 137 = .ok (.aload_n 0, 1) := by decide +kernel
theorem d_K_connect_138 : decode c_K_connect 138 = .ok (.getfield 29, 3) := by decide +kernel
theorem d_K_connect_141 : decode c_K_connect 141 = .ok (.iconst 1, 1) := by decide +kernel
theorem d_K_connect_142 : decode c_K_connect 142 = .ok (.iload_n 2, 1) := by decide +kernel
theorem d_K_connect_143 : decode c_K_connect 143 = .ok (.isub, 1) := by decide +kernel
theorem d_K_connect_144 : decode c_K_connect 144 = .ok (.iaload, 1) := by decide +kernel
theorem d_K_connect_145 : decode c_K_connect 145 = .ok (.if_icmp .eq 7, 3) := by decide +kernel
theorem d_K_connect_148 : decode c_K_connect 148 = .ok (.sipush 255, 3) := by decide +kernel
theorem d_K_connect_151 : decode c_K_connect 151 = .ok (.istore_n 1, 1) := by decide +kernel
theorem d_K_connect_152 : decode c_K_connect 152 = .ok (.aload_n 0, 1) := by decide +kernel
theorem d_K_connect_153 : decode c_K_connect 153 = .ok (.iconst 1, 1) := by decide +kernel
theorem d_K_connect_154 : decode c_K_connect 154 = .ok (.putfield 48, 3) := by decide +kernel
theorem d_K_connect_157 : decode c_K_connect 157 = .ok (.iconst 0, 1) := by decide +kernel
theorem d_K_connect_158 : decode c_K_connect 158 = .ok (.istore_n 3, 1) := by decide +kernel
theorem d_K_connect_159 : decode c_K_connect 159 = .ok (.iconst 0, 1) := by decide +kernel
theorem d_K_connect_160 : decode c_K_connect 160 = .ok (.istore 4, 2) := by decide +kernel
theorem d_K_connect_162 : decode c_K_connect 162 = .ok (.iload 4, 2) := by decide +kernel
theorem d_K_connect_164 : decode c_K_connect 164 = .ok (.bipush 8, 2) := by decide +kernel
theorem d_K_connect_166 : decode c_K_connect 166 = .ok (.if_icmp .ge 18, 3) := by decide +kernel
theorem d_K_connect_169 : decode c_K_connect 169 = .ok (.iload_n 3, 1) := by decide +kernel
theorem d_K_connect_170 : decode c_K_connect 170 = .ok (.iload_n 1, 1) := by decide +kernel
theorem d_K_connect_171 : decode c_K_connect 171 = .ok (.iload 4, 2) := by decide +kernel
theorem d_K_connect_173 : decode c_K_connect 173 = .ok (.ishr, 1) := by decide +kernel
theorem d_K_connect_174 : decode c_K_connect 174 = .ok (.iconst 1, 1) := by decide +kernel
theorem d_K_connect_175 : decode c_K_connect 175 = .ok (.iand, 1) := by decide +kernel
theorem d_K_connect_176 : decode c_K_connect 176 = .ok (.iadd, 1) := by decide +kernel
theorem d_K_connect_177 : decode c_K_connect 177 = .ok (.istore_n 3, 1) := by decide +kernel
theorem d_K_connect_178 : decode c_K_connect 178 = .ok (.iinc 4 1, 3) := by decide +kernel
theorem d_K_connect_181 : decode c_K_connect 181 = .ok (.goto (-19), 3) := by decide +kernel
theorem d_K_connect_184 : decode c_K_connect 184 = .ok (.iload_n 1, 1) := by decide +kernel
theorem d_K_connect_185 : decode c_K_connect 185 = .ok (.ifCond .ne 10, 3) := by decide +kernel
theorem d_K_connect_188 : decode c_K_connect 188 = .ok (.aload_n 0, 1) := by decide +kernel
theorem d_K_connect_189 : decode c_K_connect 189 = .ok (.iload_n 2, 1) := by decide +kernel
theorem d_K_connect_190 : decode c_K_connect 190 = .ok (.invokevirtual 114, 3) := by decide +kernel
theorem d_K_connect_193 : decode c_K_connect 193 = .ok (.iconst 0, 1) := by decide +kernel
theorem d_K_connect_194 : decode c_K_connect 194 = .ok (.ireturn, 1) := by decide +kernel
theorem d_K_connect_195 : decode c_K_connect 195 = .ok (.aload_n 0, 1) := by decide +kernel
theorem d_K_connect_196 : decode c_K_connect 196 = .ok (.getfield 35, 3) := by decide +kernel
theorem d_K_connect_199 : decode c_K_connect 199 = .ok (.iload_n 2, 1) := by decide +kernel
theorem d_K_connect_200 : decode c_K_connect 200 = .ok (.iload_n 1, 1) := by decide +kernel
theorem d_K_connect_201 : decode c_K_connect 201 = .ok (.iastore, 1) := by decide +kernel
theorem d_K_connect_202 : decode c_K_connect 202 = .ok (.aload_n 0, 1) := by decide +kernel
theorem d_K_connect_203 : decode c_K_connect 203 = .ok (.getfield 35, 3) := by decide +kernel
theorem d_K_connect_206 : decode c_K_connect 206 = .ok (.iconst 1, 1) := by decide +kernel
theorem d_K_connect_207 : decode c_K_connect 207 = .ok (.iload_n 2, 1) := by decide +kernel
theorem d_K_connect_208 : decode c_K_connect 208 = .ok (.isub, 1) := by decide +kernel
theorem d_K_connect_209 : decode c_K_connect 209 = .ok (.iconst 0, 1) := by decide +kernel
theorem d_K_connect_210 : decode c_K_connect 210 = .ok (.iastore, 1) := by decide +kernel
theorem d_K_connect_211 : decode c_K_connect 211 = .ok (.aload_n 0, 1) := by decide +kernel
theorem d_K_connect_212 : decode c_K_connect 212 = .ok (.getfield 29, 3) := by decide +kernel
theorem d_K_connect_215 : decode c_K_connect 215 = .ok (.iconst 1, 1) := by decide +kernel
theorem d_K_connect_216 : decode c_K_connect 216 = .ok (.iload_n 2, 1) := by decide +kernel
theorem d_K_connect_217 : decode c_K_connect 217 = .ok (.isub, 1) := by decide +kernel
theorem d_K_connect_218 : decode c_K_connect 218 = .ok (.iconst 0, 1) := by decide +kernel
theorem d_K_connect_219 : decode c_K_connect 219 = .ok (.iastore, 1) := by decide +kernel
theorem d_K_connect_220 : decode c_K_connect 220 = .ok (.aload_n 0, 1) := by decide +kernel
theorem d_K_connect_221 : decode c_K_connect 221 = .ok (.getfield 23, 3) := by decide +kernel
theorem d_K_connect_224 : decode c_K_connect 224 = .ok (.iconst 1, 1) := by decide +kernel
theorem d_K_connect_225 : decode c_K_connect 225 = .ok (.iload_n 2, 1) := by decide +kernel
theorem d_K_connect_226 : decode c_K_connect 226 = .ok (.isub, 1) := by decide +kernel
theorem d_K_connect_227 : decode c_K_connect 227 = .ok (.iconst 0, 1) := by decide +kernel
theorem d_K_connect_228 : decode c_K_connect 228 = .ok (.bastore, 1) := by decide +kernel
theorem d_K_connect_229 : decode c_K_connect 229 = .ok (.aload_n 0, 1) := by decide +kernel
theorem d_K_connect_230 : decode c_K_connect 230 = .ok (.iload_n 2, 1) := by decide +kernel
theorem d_K_connect_231 : decode c_K_connect 231 = .ok (.putfield 42, 3) := by decide +kernel
theorem d_K_connect_234 : decode c_K_connect 234 = .ok (.iload_n 3, 1) := by decide +kernel
theorem d_K_connect_235 : decode c_K_connect 235 = .ok (.ireturn, 1) := by decide +kernel
theorem d_K_finished_0 : decode c_K_finished 0 = .ok (.aload_n 0, 1) := by decide +kernel
theorem d_K_finished_1 : decode c_K_finished 1 = .ok (.iconst 0, 1) := by decide +kernel
theorem d_K_finished_2 : decode c_K_finished 2 = .ok (.invokevirtual 82, 3) := by decide +kernel
theorem d_K_finished_5 : decode c_K_finished 5 = .ok (.aload_n 0, 1) := by decide +kernel
theorem d_K_finished_6 : decode c_K_finished 6 = .ok (.iconst 1, 1) := by decide +kernel
theorem d_K_finished_7 : decode c_K_finished 7 = .ok (.invokevirtual 82, 3) := by decide +kernel
theorem d_K_finished_10 : decode c_K_finished 10 = .ok (.aload_n 0, 1) := by decide +kernel
theorem d_K_finished_11 : decode c_K_finished 11 = .ok (.getfield 29, 3) := by decide +kernel
theorem d_K_finished_14 : decode c_K_finished 14 = .ok (.iconst 1, 1) := by decide +kernel
theorem d_K_finished_15 : decode c_K_finished 15 = .ok (.iload_n 1, 1) := by decide +kernel
theorem d_K_finished_16 : decode c_K_finished 16 = .ok (.isub, 1) := by decide +kernel
theorem d_K_finished_17 : decode c_K_finished 17 = .ok (.aload_n 0, 1) := by decide +kernel
theorem d_K_finished_18 : decode c_K_finished 18 = .ok (.getfield 29, 3) := by decide +kernel
theorem d_K_finished_21 : decode c_K_finished 21 = .ok (.iload_n 1, 1) := by decide +kernel
theorem d_K_finished_22 : decode c_K_finished 22 = .ok (.iaload, 1) := by decide +kernel
theorem d_K_finished_23 : decode c_K_finished 23 = .ok (.iastore, 1) := by decide +kernel
theorem d_K_finished_24 : decode c_K_finished 24 = .ok (.iconst 0, 1) := by decide +kernel
theorem d_K_finished_25 : decode c_K_finished 25 = .ok (.istore_n 2, 1) := by decide +kernel
theorem d_K_finished_26 : decode c_K_finished 26 = .ok (.iload_n 2, 1) := by decide +kernel
theorem d_K_finished_27 : decode c_K_finished 27 = .ok (.iconst 2, 1) := by decide +kernel
theorem d_K_finished_28 : decode c_K_finished 28 = .ok (.if_icmp .ge 23, 3) := by decide +kernel
theorem d_K_finished_31 : decode c_K_finished 31 = .ok (.aload_n 0, 1) := by decide +kernel
theorem d_K_finished_32 : decode c_K_finished 32 = .ok (.getfield 23, 3) := by decide +kernel
theorem d_K_finished_35 : decode c_K_finished 35 = .ok (.iload_n 2, 1) := by decide +kernel
theorem d_K_finished_36 : decode c_K_finished 36 = .ok (.iconst 0, 1) := by decide +kernel
theorem d_K_finished_37 : decode c_K_finished 37 = .ok (.bastore, 1) := by decide +kernel
theorem d_K_finished_38 : decode c_K_finished 38 = .ok (.aload_n 0, 1) := by decide +kernel
theorem d_K_finished_39 : decode c_K_finished 39 = .ok (.getfield 35, 3) := by decide +kernel
theorem d_K_finished_42 : decode c_K_finished 42 = .ok (.iload_n 2, 1) := by decide +kernel
theorem d_K_finished_43 : decode c_K_finished 43 = .ok (.iconst 0, 1) := by decide +kernel
theorem d_K_finished_44 : decode c_K_finished 44 = .ok (.iastore, 1) := by decide +kernel
theorem d_K_finished_45 : decode c_K_finished 45 = .ok (.iinc 2 1, 3) := by decide +kernel
theorem d_K_finished_48 : decode c_K_finished 48 = .ok (.goto (-22), 3) := by decide +kernel
theorem d_K_finished_51 : decode c_K_finished 51 = .ok (.aload_n 0, 1) := by decide +kernel
theorem d_K_finished_52 : decode c_K_finished 52 = .ok (.iconst 2, 1) := by decide +kernel
theorem d_K_finished_53 : decode c_K_finished 53 = .ok (.putfield 42, 3) := by decide +kernel
theorem d_K_finished_56 : decode c_K_finished 56 = .ok (.return_, 1) := by decide +kernel
theorem d_K_resync_0 : decode c_K_resync 0 = .ok (.iload_n 1, 1) := by decide +kernel
theorem d_K_resync_1 : decode c_K_resync 1 = .ok (.iconst 1, 1) := by decide +kernel
theorem d_K_resync_2 : decode c_K_resync 2 = .ok (.if_icmp .lt 16, 3) := by decide +kernel
theorem d_K_resync_5 : decode c_K_resync 5 = .ok (.iload_n 1, 1) := by decide +kernel
theorem d_K_resync_6 : decode c_K_resync 6 = .ok (.iconst 4, 1) := by decide +kernel
theorem d_K_resync_7 : decode c_K_resync 7 = .ok (.if_icmp .gt 11, 3) := by decide +kernel
theorem d_K_resync_10 : decode c_K_resync 10 = .ok (.aload_n 0, 1) := by decide +kernel
theorem d_K_resync_11 : decode c_K_resync 11 = .ok (.getfield 42, 3) := by decide +kernel
theorem d_K_resync_14 : decode c_K_resync 14 = .ok (.iconst 2, 1) := by decide +kernel
theorem d_K_resync_15 : decode c_K_resync 15 = .ok (.if_icmp .ne 5, 3) := by decide +kernel
theorem d_K_resync_18 : decode c_K_resync 18 = .ok (.iconst (-1), 1) := by decide +kernel
theorem d_K_resync_19 : decode c_K_resync 19 = .ok (.ireturn, 1) := by decide +kernel
theorem d_K_resync_20 : decode c_K_resync 20 = .ok (.aload_n 0, 1) := by decide +kernel
theorem d_K_resync_21 : decode c_K_resync 21 = .ok (.getfield 42, 3) := by decide +kernel
theorem d_K_resync_24 : decode c_K_resync 24 = .ok (.istore_n 2, 1) := by decide +kernel
theorem d_K_resync_25 : decode c_K_resync 25 = .ok (.iconst 0, 1) := by decide +kernel
theorem d_K_resync_26 : decode c_K_resync 26 = .ok (.istore_n 3, 1) := by decide +kernel
theorem d_K_resync_27 : decode c_K_resync 27 = .ok (.iconst 0, 1) := by decide +kernel
theorem d_K_resync_28 : decode c_K_resync 28 = .ok (.istore 4, 2) := by decide +kernel
theorem d_K_resync_30 : decode c_K_resync 30 = .ok (.iload 4, 2) := by decide +kernel
theorem d_K_resync_32 : decode c_K_resync 32 = .ok (.bipush 8, 2) := by decide +kernel
theorem d_K_resync_34 : decode c_K_resync 34 = .ok (.if_icmp .ge 96, 3) := by decide +kernel
theorem d_K_resync_37 : decode c_K_resync 37 = .ok (.aload_n 0, 1) := by decide +kernel
theorem d_K_resync_38 : decode c_K_resync 38 = .ok (.getfield 35, 3) := by decide +kernel
theorem d_K_resync_41 : decode c_K_resync 41 = .ok (.iload_n 2, 1) := by decide +kernel
theorem d_K_resync_42 : decode c_K_resync 42 = .ok (.iaload, 1) := by decide +kernel
theorem d_K_resync_43 : decode c_K_resync 43 = .ok (.iload 4, 2) := by decide +kernel
theorem d_K_resync_45 : decode c_K_resync 45 = .ok (.ishr, 1) := by decide +kernel
theorem d_K_resync_46 : decode c_K_resync 46 = .ok (.iconst 1, 1) := by decide +kernel
theorem d_K_resync_47 : decode c_K_resync 47 = .ok (.iand, 1) := by decide +kernel
theorem d_K_resync_48 : decode c_K_resync 48 = .ok (.iconst 1, 1) := by decide +kernel
theorem d_K_resync_49 : decode c_K_resync 49 = .ok (.if_icmp .ne 7, 3) := by decide +kernel
theorem d_K_resync_52 : decode c_K_resync 52 = .ok (.iconst 1, 1) := by decide +kernel
theorem d_K_resync_53 : decode c_K_resync 53 = .ok (.goto 4, 3) := by decide +kernel
theorem d_K_resync_56 : decode c_K_resync 56 = .ok (.iconst 0, 1) := by decide +kernel
theorem d_K_resync_57 : decode c_K_resync 57 = .ok (.istore 5, 2) := by decide +kernel
theorem d_K_resync_59 : decode c_K_resync 59 = .ok (.iload 5, 2) := by decide +kernel
theorem d_K_resync_61 : decode c_K_resync 61 = .ok (.ifCond .eq 63, 3) := by decide +kernel
theorem d_K_resync_64 : decode c_K_resync 64 = .ok (.iload_n 3, 1) := by decide +kernel
theorem d_K_resync_65 : decode c_K_resync 65 = .ok (.iload_n 1, 1) := by decide +kernel
theorem d_K_resync_66 : decode c_K_resync 66 = .ok (.if_icmp .ge 58, 3) := by decide +kernel
theorem d_K_resync_69 : decode c_K_resync 69 = .ok (.iinc 3 1, 3) := by decide +kernel
theorem d_K_resync_72 : decode c_K_resync 72 = .ok (.aload_n 0, 1) := by decide +kernel
theorem d_K_resync_73 : decode c_K_resync 73 = .ok (.getfield 35, 3) := by decide +kernel
theorem d_K_resync_76 : decode c_K_resync 76 = .ok (.iload_n 2, 1) := by decide +kernel
theorem d_K_resync_77 : decode c_K_resync 77 = .ok (.dup2, 1) := by decide +kernel
theorem d_K_resync_78 : decode c_K_resync 78 = .ok (.iaload, 1) := by decide +kernel
theorem d_K_resync_79 : decode c_K_resync 79 = .ok (.iconst 1, 1) := by decide +kernel
theorem d_K_resync_80 : decode c_K_resync 80 = .ok (.iload 4, 2) := by decide +kernel
theorem d_K_resync_82 : decode c_K_resync 82 = .ok (.ishl, 1) := by decide +kernel
theorem d_K_resync_83 : decode c_K_resync 83 = .ok (.isub, 1) := by decide +kernel
theorem d_K_resync_84 : decode c_K_resync 84 = .ok (.iastore, 1) := by decide +kernel
theorem d_K_resync_85 : decode c_K_resync 85 = .ok (.iconst 4, 1) := by decide +kernel
theorem d_K_resync_86 : decode c_K_resync 86 = .ok (.iload 4, 2) := by decide +kernel
theorem d_K_resync_88 : decode c_K_resync 88 = .ok (.imul, 1) := by decide +kernel
theorem d_K_resync_89 : decode c_K_resync 89 = .ok (.istore 6, 2) := by decide +kernel
theorem d_K_resync_91 : decode c_K_resync 91 = .ok (.iload 6, 2) := by decide +kernel
theorem d_K_resync_93 : decode c_K_resync 93 = .ok (.iconst 4, 1) := by decide +kernel
theorem d_K_resync_94 : decode c_K_resync 94 = .ok (.iload 4, 2) := by decide +kernel
theorem d_K_resync_96 : decode c_K_resync 96 = .ok (.imul, 1) := by decide +kernel
theorem d_K_resync_97 : decode c_K_resync 97 = .ok (.iconst 4, 1) := by decide +kernel
theorem d_K_resync_98 : decode c_K_resync 98 = .ok (.iadd, 1) := by decide +kernel
theorem d_K_resync_99 : decode c_K_resync 99 = .ok (.if_icmp .ge 25, 3) := by decide +kernel
theorem d_K_resync_102 : decode c_K_resync 102 = .ok (.aload_n 0, 1) := by decide +kernel
theorem d_K_resync_103 : decode c_K_resync 103 = .ok (.iconst 1, 1) := by decide +kernel
theorem d_K_resync_104 : decode c_K_resync 104 = .ok (.iload_n 2, 1) := by decide +kernel
theorem d_K_resync_105 : decode c_K_resync 105 = .ok (.isub, 1) := by decide +kernel
theorem d_K_resync_106 : decode c_K_resync 106 = .ok (.iload 6, 2) := by decide +kernel
theorem d_K_resync_108 : decode c_K_resync 108 = .ok (.aload_n 0, 1) := by decide +kernel
theorem d_K_resync_109 : decode c_K_resync 109 = .ok (.iload_n 2, 1) := by decide +kernel
theorem d_K_resync_110 : decode c_K_resync 110 = .ok (.iload 6, 2) := by decide +kernel
theorem d_K_resync_112 : decode c_K_resync 112 = .ok (.invokevirtual 78, 3) := by decide +kernel
theorem d_K_resync_115 : decode c_K_resync 115 = .ok (.invokevirtual 70, 3) := by decide +kernel
theorem d_K_resync_118 : decode c_K_resync 118 = .ok (.iinc 6 1, 3) := by decide +kernel
theorem d_K_resync_121 : decode c_K_resync 121 = .ok (.goto (-30), 3) := by decide +kernel
theorem d_K_resync_124 : decode c_K_resync 124 = .ok (.iinc 4 1, 3) := by decide +kernel
theorem d_K_resync_127 : decode c_K_resync 127 = .ok (.goto (-97), 3) := by decide +kernel
theorem d_K_resync_130 : decode c_K_resync 130 = .ok (.iconst 0, 1) := by decide +kernel
theorem d_K_resync_131 : decode c_K_resync 131 = .ok (.istore 4, 2) := by decide +kernel
theorem d_K_resync_133 : decode c_K_resync 133 = .ok (.iconst 0, 1) := by decide +kernel
theorem d_K_resync_134 : decode c_K_resync 134 = .ok (.istore 5, 2) := by decide +kernel
theorem d_K_resync_136 : decode c_K_resync 136 = .ok (.iload 5, 2) := by decide +kernel
theorem d_K_resync_138 : decode c_K_resync 138 = .ok (.bipush 8, 2) := by decide +kernel
theorem d_K_resync_140 : decode c_K_resync 140 = .ok (.if_icmp .ge 25, 3) := by decide +kernel
theorem d_K_resync_143 : decode c_K_resync 143 = .ok (.iload 4, 2) := by decide +kernel
theorem d_K_resync_145 : decode c_K_resync 145 = .ok (.aload_n 0, 1) := by decide +kernel
theorem d_K_resync_146 : decode c_K_resync 146 = .ok (.getfield 35, 3) := by decide +kernel
theorem d_K_resync_149 : decode c_K_resync 149 = .ok (.iload_n 2, 1) := by decide +kernel
theorem d_K_resync_150 : decode c_K_resync 150 = .ok (.iaload, 1) := by decide +kernel
theorem d_K_resync_151 : decode c_K_resync 151 = .ok (.iload 5, 2) := by decide +kernel
theorem d_K_resync_153 : decode c_K_resync 153 = .ok (.ishr, 1) := by decide +kernel
theorem d_K_resync_154 : decode c_K_resync 154 = .ok (.iconst 1, 1) := by decide +kernel
theorem d_K_resync_155 : decode c_K_resync 155 = .ok (.iand, 1) := by decide +kernel
theorem d_K_resync_156 : decode c_K_resync 156 = .ok (.iadd, 1) := by decide +kernel
theorem d_K_resync_157 : decode c_K_resync 157 = .ok (.istore 4, 2) := by decide +kernel
theorem d_K_resync_159 : decode c_K_resync 159 = .ok (.iinc 5 1, 3) := by decide +kernel
theorem d_K_resync_162 : decode c_K_resync 162 = .ok (.goto (-26), 3) := by decide +kernel
theorem d_K_resync_165 : decode c_K_resync 165 = .ok (.iload 4, 2) := by decide +kernel
theorem d_K_resync_167 : decode c_K_resync 167 = .ok (.ifCond .ne 8, 3) := by decide +kernel
theorem d_K_resync_170 : decode c_K_resync 170 = .ok (.aload_n 0, 1) := by decide +kernel
theorem d_K_resync_171 : decode c_K_resync 171 = .ok (.iload_n 2, 1) := by decide +kernel
theorem d_K_resync_172 : decode c_K_resync 172 = .ok (.invokevirtual 114, 3) := by decide +kernel
theorem d_K_resync_175 : decode c_K_resync 175 = .ok (.iload 4, 2) := by decide +kernel
theorem d_K_resync_177 : decode c_K_resync 177 = .ok (.ireturn, 1) := by decide +kernel
theorem d_K_promote_0 : decode c_K_promote 0 = .ok (.aload_n 0, 1) := by decide +kernel
theorem d_K_promote_1 : decode c_K_promote 1 = .ok (.iload_n 1, 1) := by decide +kernel
theorem d_K_promote_2 : decode c_K_promote 2 = .ok (.iconst 2, 1) := by decide +kernel
theorem d_K_promote_3 : decode c_K_promote 3 = .ok (.invokevirtual 93, 3) := by decide +kernel
theorem d_K_promote_6 : decode c_K_promote 6 = .ok (.ifCond .ne 29, 3) := by decide +kernel
theorem d_K_promote_9 : decode c_K_promote 9 = .ok (.aload_n 0, 1) := by decide +kernel
theorem d_K_promote_10 : decode c_K_promote 10 = .ok (.getfield 20, 3) := by decide +kernel
theorem d_K_promote_13 : decode c_K_promote 13 = .ok (.iload_n 1, 1) := by decide +kernel
theorem d_K_promote_14 : decode c_K_promote 14 = .ok (.baload, 1) := by decide +kernel
theorem d_K_promote_15 : decode c_K_promote 15 = .ok (.ifCond .ne 20, 3) := by decide +kernel
theorem d_K_promote_18 : decode c_K_promote 18 = .ok (.aload_n 0, 1) := by decide +kernel
theorem d_K_promote_19 : decode c_K_promote 19 = .ok (.getfield 38, 3) := by decide +kernel
theorem d_K_promote_22 : decode c_K_promote 22 = .ok (.iload_n 1, 1) := by decide +kernel
theorem d_K_promote_23 : decode c_K_promote 23 = .ok (.if_icmp .eq 12, 3) := by decide +kernel
theorem d_K_promote_26 : decode c_K_promote 26 = .ok (.aload_n 0, 1) := by decide +kernel
theorem d_K_promote_27 : decode c_K_promote 27 = .ok (.getfield 26, 3) := by decide +kernel
theorem d_K_promote_30 : decode c_K_promote 30 = .ok (.iload_n 1, 1) := by decide +kernel
theorem d_K_promote_31 : decode c_K_promote 31 = .ok (.baload, 1) := by decide +kernel
theorem d_K_promote_32 : decode c_K_promote 32 = .ok (.ifCond .eq 5, 3) := by decide +kernel
theorem d_K_promote_35 : decode c_K_promote 35 = .ok (.iconst (-1), 1) := by decide +kernel
theorem d_K_promote_36 : decode c_K_promote 36 = .ok (.ireturn, 1) := by decide +kernel
theorem d_K_promote_37 : decode c_K_promote 37 = .ok (.aload_n 0, 1) := by decide +kernel
theorem d_K_promote_38 : decode c_K_promote 38 = .ok (.getfield 45, 3) := by decide +kernel
theorem d_K_promote_41 : decode c_K_promote 41 = .ok (.iconst 1, 1) := by decide +kernel
theorem d_K_promote_42 : decode c_K_promote 42 = .ok (.iload_n 1, 1) := by decide +kernel
theorem d_K_promote_43 : decode c_K_promote 43 = .ok (.isub, 1) := by decide +kernel
theorem d_K_promote_44 : decode c_K_promote 44 = .ok (.if_icmp .ne 17, 3) := by decide +kernel
theorem d_K_promote_47 : decode c_K_promote 47 = .ok (.aload_n 0, 1) := by decide +kernel
theorem d_K_promote_48 : decode c_K_promote 48 = .ok (.getfield 117, 3) := by decide +kernel
theorem d_K_promote_51 : decode c_K_promote 51 = .ok (.aload_n 0, 1) := by decide +kernel
theorem d_K_promote_52 : decode c_K_promote 52 = .ok (.getfield 120, 3) := by decide +kernel
theorem d_K_promote_55 : decode c_K_promote 55 = .ok (.if_icmp .le 6, 3) := by decide +kernel
theorem d_K_promote_58 : decode c_K_promote 58 = .ok (.bipush (-4), 2) := by decide +kernel
theorem d_K_promote_60 : decode c_K_promote 60 = .ok (.ireturn, 1) := by decide +kernel
theorem d_K_promote_61 : decode c_K_promote 61 = .ok (.aload_n 0, 1) := by decide +kernel
theorem d_K_promote_62 : decode c_K_promote 62 = .ok (.getfield 29, 3) := by decide +kernel
theorem d_K_promote_65 : decode c_K_promote 65 = .ok (.iload_n 1, 1) := by decide +kernel
theorem d_K_promote_66 : decode c_K_promote 66 = .ok (.iaload, 1) := by decide +kernel
theorem d_K_promote_67 : decode c_K_promote 67 = .ok (.ifCond .ne 6, 3) := by decide +kernel
theorem d_K_promote_70 : decode c_K_promote 70 = .ok (.bipush (-6), 2) := by decide +kernel
theorem d_K_promote_72 : decode c_K_promote 72 = .ok (.ireturn, 1) := by decide +kernel
theorem d_K_promote_73 : decode c_K_promote 73 = .ok (.aload_n 0, 1) := by decide +kernel
theorem d_K_promote_74 : decode c_K_promote 74 = .ok (.getfield 29, 3) := by decide +kernel
theorem d_K_promote_77 : decode c_K_promote 77 = .ok (.iload_n 1, 1) := by decide +kernel
theorem d_K_promote_78 : decode c_K_promote 78 = .ok (.iaload, 1) := by decide +kernel
theorem d_K_promote_79 : decode c_K_promote 79 = .ok (.aload_n 0, 1) := by decide +kernel
theorem d_K_promote_80 : decode c_K_promote 80 = .ok (.getfield 55, 3) := by decide +kernel
theorem d_K_promote_83 : decode c_K_promote 83 = .ok (.if_icmp .eq 7, 3) := by decide +kernel
theorem d_K_promote_86 : decode c_K_promote 86 = .ok (.iconst 1, 1) := by decide +kernel
theorem d_K_promote_87 : decode c_K_promote 87 = .ok (.goto 4, 3) := by decide +kernel
theorem d_K_promote_90 : decode c_K_promote 90 = .ok (.iconst 0, 1) := by decide +kernel
theorem d_K_promote_91 : decode c_K_promote 91 = .ok (.istore_n 3, 1) := by decide +kernel
theorem d_K_promote_92 : decode c_K_promote 92 = .ok (.iload_n 3, 1) := by decide +kernel
theorem d_K_promote_93 : decode c_K_promote 93 = .ok (.ifCond .eq 10, 3) := by decide +kernel
theorem d_K_promote_96 : decode c_K_promote 96 = .ok (.iload_n 2, 1) := by decide +kernel
theorem d_K_promote_97 : decode c_K_promote 97 = .ok (.ifCond .ne 6, 3) := by decide +kernel
theorem d_K_promote_100 : decode c_K_promote 100 = .ok (.bipush (-5), 2) := by decide +kernel
theorem d_K_promote_102 : decode c_K_promote 102 = .ok (.ireturn, 1) := by decide +kernel
theorem d_K_promote_103 : decode c_K_promote 103 = .ok (.aload_n 0, 1) := by decide +kernel
theorem d_K_promote_104 : decode c_K_promote 104 = .ok (.getfield 38, 3) := by decide +kernel
theorem d_K_promote_107 : decode c_K_promote 107 = .ok (.iconst 2, 1) := by decide +kernel
theorem d_K_promote_108 : decode c_K_promote 108 = .ok (.if_icmp .eq 7, 3) := by decide +kernel
theorem d_K_promote_111 : decode c_K_promote 111 = .ok (.aload_n 0, 1) := by decide +kernel
theorem d_K_promote_112 : decode c_K_promote 112 = .ok (.invokevirtual 108, 3) := by decide +kernel
theorem d_K_promote_115 : decode c_K_promote 115 = .ok (.aload_n 0, 1) := by decide +kernel
theorem d_K_promote_116 : decode c_K_promote 116 = .ok (.iload_n 1, 1) := by decide +kernel
theorem d_K_promote_117 : decode c_K_promote 117 = .ok (.putfield 38, 3) := by decide +kernel
theorem d_K_promote_120 : decode c_K_promote 120 = .ok (.aload_n 0, 1) := by decide +kernel
theorem d_K_promote_121 : decode c_K_promote 121 = .ok (.iload_n 1, 1) := by decide +kernel
theorem d_K_promote_122 : decode c_K_promote 122 = .ok (.putfield 45, 3) := by decide +kernel
theorem d_K_promote_125 : decode c_K_promote 125 = .ok (.aload_n 0, 1) := by decide +kernel
theorem d_K_promote_126 : decode c_K_promote 126 = .ok (.aload_n 0, 1) := by decide +kernel
theorem d_K_promote_127 : decode c_K_promote 127 = .ok (.getfield 120, 3) := by decide +kernel
theorem d_K_promote_130 : decode c_K_promote 130 = .ok (.aload_n 0, 1) := by decide +kernel
theorem d_K_promote_131 : decode c_K_promote 131 = .ok (.getfield 64, 3) := by decide +kernel
theorem d_K_promote_134 : decode c_K_promote 134 = .ok (.iadd, 1) := by decide +kernel
theorem d_K_promote_135 : decode c_K_promote 135 = .ok (.putfield 117, 3) := by decide +kernel
theorem d_K_promote_138 : decode c_K_promote 138 = .ok (.iload_n 3, 1) := by decide +kernel
theorem d_K_promote_139 : decode c_K_promote 139 = .ok (.ifCond .ne 19, 3) := by decide +kernel
theorem d_K_promote_142 : decode c_K_promote 142 = .ok (.aload_n 0, 1) := by decide +kernel
theorem d_K_promote_143 : decode c_K_promote 143 = .ok (.getfield 48, 3) := by decide +kernel
theorem d_K_promote_146 : decode c_K_promote 146 = .ok (.ifCond .ne 17, 3) := by decide +kernel
theorem d_K_promote_149 : decode c_K_promote 149 = .ok (.aload_n 0, 1) := by decide +kernel
theorem d_K_promote_150 : decode c_K_promote 150 = .ok (.getfield 23, 3) := by decide +kernel
theorem d_K_promote_153 : decode c_K_promote 153 = .ok (.iload_n 1, 1) := by decide +kernel
theorem d_K_promote_154 : decode c_K_promote 154 = .ok (.baload, 1) := by decide +kernel
theorem d_K_promote_155 : decode c_K_promote 155 = .ok (.ifCond .ne 8, 3) := by decide +kernel
theorem d_K_promote_158 : decode c_K_promote 158 = .ok (.aload_n 0, 1) := by decide +kernel
theorem d_K_promote_159 : decode c_K_promote 159 = .ok (.iload_n 1, 1) := by decide +kernel
theorem d_K_promote_160 : decode c_K_promote 160 = .ok (.invokevirtual 97, 3) := by decide +kernel
theorem d_K_promote_163 : decode c_K_promote 163 = .ok (.aload_n 0, 1) := by decide +kernel
theorem d_K_promote_164 : decode c_K_promote 164 = .ok (.invokevirtual 86, 3) := by decide +kernel
theorem d_K_promote_167 : decode c_K_promote 167 = .ok (.aload_n 0, 1) := by decide +kernel
theorem d_K_promote_168 : decode c_K_promote 168 = .ok (.iload_n 1, 1) := by decide +kernel
theorem d_K_promote_169 : decode c_K_promote 169 = .ok (.bipush 24, 2) := by decide +kernel
theorem d_K_promote_171 : decode c_K_promote 171 = .ok (.invokevirtual 78, 3) := by decide +kernel
theorem d_K_promote_174 : decode c_K_promote 174 = .ok (.istore 4, 2) := by decide +kernel
theorem d_K_promote_176 : decode c_K_promote 176 = .ok (.iload 4, 2) := by decide +kernel
theorem d_K_promote_178 : decode c_K_promote 178 = .ok (.iconst 1, 1) := by decide +kernel
theorem d_K_promote_179 : decode c_K_promote 179 = .ok (.if_icmp .lt 9, 3) := by decide +kernel
theorem d_K_promote_182 : decode c_K_promote 182 = .ok (.iload 4, 2) := by decide +kernel
theorem d_K_promote_184 : decode c_K_promote 184 = .ok (.iconst 3, 1) := by decide +kernel
theorem d_K_promote_185 : decode c_K_promote 185 = .ok (.if_icmp .le 5, 3) := by decide +kernel
theorem d_K_promote_188 : decode c_K_promote 188 = .ok (.iconst 0, 1) := by decide +kernel
theorem d_K_promote_189 : decode c_K_promote 189 = .ok (.ireturn, 1) := by decide +kernel
theorem d_K_promote_190 : decode c_K_promote 190 = .ok (.iconst 0, 1) := by decide +kernel
theorem d_K_promote_191 : decode c_K_promote 191 = .ok (.istore 5, 2) := by decide +kernel
theorem d_K_promote_193 : decode c_K_promote 193 = .ok (.iload 5, 2) := by decide +kernel
theorem d_K_promote_195 : decode c_K_promote 195 = .ok (.iload 4, 2) := by decide +kernel
theorem d_K_promote_197 : decode c_K_promote 197 = .ok (.if_icmp .ge 52, 3) := by decide +kernel
theorem d_K_promote_200 : decode c_K_promote 200 = .ok (.aload_n 0, 1) := by decide +kernel
theorem d_K_promote_201 : decode c_K_promote 201 = .ok (.iload_n 1, 1) := by decide +kernel
theorem d_K_promote_202 : decode c_K_promote 202 = .ok (.bipush 25, 2) := by decide +kernel
theorem d_K_promote_204 : decode c_K_promote 204 = .ok (.iconst 2, 1) := by decide +kernel
theorem d_K_promote_205 : decode c_K_promote 205 = .ok (.iload 5, 2) := by decide +kernel
theorem d_K_promote_207 : decode c_K_promote 207 = .ok (.imul, 1) := by decide +kernel
theorem d_K_promote_208 : decode c_K_promote 208 = .ok (.iadd, 1) := by decide +kernel
theorem d_K_promote_209 : decode c_K_promote 209 = .ok (.invokevirtual 78, 3) := by decide +kernel
theorem d_K_promote_212 : decode c_K_promote 212 = .ok (.istore 6, 2) := by decide +kernel
theorem d_K_promote_214 : decode c_K_promote 214 = .ok (.aload_n 0, 1) := by decide +kernel
theorem d_K_promote_215 : decode c_K_promote 215 = .ok (.iload 6, 2) := by decide +kernel
theorem d_K_promote_217 : decode c_K_promote 217 = .ok (.bipush 24, 2) := by decide +kernel
theorem d_K_promote_219 : decode c_K_promote 219 = .ok (.invokevirtual 93, 3) := by decide +kernel
theorem d_K_promote_222 : decode c_K_promote 222 = .ok (.ifCond .ne 21, 3) := by decide +kernel
theorem d_K_promote_225 : decode c_K_promote 225 = .ok (.aload_n 0, 1) := by decide +kernel
theorem d_K_promote_226 : decode c_K_promote 226 = .ok (.iload 6, 2) := by decide +kernel
theorem d_K_promote_228 : decode c_K_promote 228 = .ok (.aload_n 0, 1) := by decide +kernel
theorem d_K_promote_229 : decode c_K_promote 229 = .ok (.iload_n 1, 1) := by decide +kernel
theorem d_K_promote_230 : decode c_K_promote 230 = .ok (.bipush 26, 2) := by decide +kernel
theorem d_K_promote_232 : decode c_K_promote 232 = .ok (.iconst 2, 1) := by decide +kernel
theorem d_K_promote_233 : decode c_K_promote 233 = .ok (.iload 5, 2) := by decide +kernel
theorem d_K_promote_235 : decode c_K_promote 235 = .ok (.imul, 1) := by decide +kernel
theorem d_K_promote_236 : decode c_K_promote 236 = .ok (.iadd, 1) := by decide +kernel
theorem d_K_promote_237 : decode c_K_promote 237 = .ok (.invokevirtual 78, 3) := by decide +kernel
theorem d_K_promote_240 : decode c_K_promote 240 = .ok (.invokevirtual 89, 3) := by decide +kernel
theorem d_K_promote_243 : decode c_K_promote 243 = .ok (.iinc 5 1, 3) := by decide +kernel
theorem d_K_promote_246 : decode c_K_promote 246 = .ok (.goto (-53), 3) := by decide +kernel
theorem d_K_promote_249 : decode c_K_promote 249 = .ok (.iload 4, 2) := by decide +kernel
theorem d_K_promote_251 : decode c_K_promote 251 = .ok (.ireturn, 1) := by decide +kernel
theorem d_K_demote_0 : decode c_K_demote 0 = .ok (.aload_n 0, 1) := by decide +kernel
theorem d_K_demote_1 : decode c_K_demote 1 = .ok (.iload_n 1, 1) := by decide +kernel
theorem d_K_demote_2 : decode c_K_demote 2 = .ok (.iconst 2, 1) := by decide +kernel
theorem d_K_demote_3 : decode c_K_demote 3 = .ok (.invokevirtual 93, 3) := by decide +kernel
theorem d_K_demote_6 : decode c_K_demote 6 = .ok (.ifCond .ne 11, 3) := by decide +kernel
theorem d_K_demote_9 : decode c_K_demote 9 = .ok (.aload_n 0, 1) := by decide +kernel
theorem d_K_demote_10 : decode c_K_demote 10 = .ok (.getfield 38, 3) := by decide +kernel
theorem d_K_demote_13 : decode c_K_demote 13 = .ok (.iload_n 1, 1) := by decide +kernel
theorem d_K_demote_14 : decode c_K_demote 14 = .ok (.if_icmp .eq 5, 3) := by decide +kernel
theorem d_K_demote_17 : decode c_K_demote 17 = .ok (.iconst (-1), 1) := by decide +kernel
theorem d_K_demote_18 : decode c_K_demote 18 = .ok (.ireturn, 1) := by decide +kernel
theorem d_K_demote_19 : decode c_K_demote 19 = .ok (.aload_n 0, 1) := by decide +kernel
theorem d_K_demote_20 : decode c_K_demote 20 = .ok (.invokevirtual 108, 3) := by decide +kernel
theorem d_K_demote_23 : decode c_K_demote 23 = .ok (.aload_n 0, 1) := by decide +kernel
theorem d_K_demote_24 : decode c_K_demote 24 = .ok (.getfield 45, 3) := by decide +kernel
theorem d_K_demote_27 : decode c_K_demote 27 = .ok (.iload_n 1, 1) := by decide +kernel
theorem d_K_demote_28 : decode c_K_demote 28 = .ok (.if_icmp .ne 8, 3) := by decide +kernel
theorem d_K_demote_31 : decode c_K_demote 31 = .ok (.aload_n 0, 1) := by decide +kernel
theorem d_K_demote_32 : decode c_K_demote 32 = .ok (.iconst 2, 1) := by decide +kernel
theorem d_K_demote_33 : decode c_K_demote 33 = .ok (.putfield 45, 3) := by decide +kernel
theorem d_K_demote_36 : decode c_K_demote 36 = .ok (.iconst 0, 1) := by decide +kernel
theorem d_K_demote_37 : decode c_K_demote 37 = .ok (.ireturn, 1) := by decide +kernel
end
section
theorem d_K_renew_0 : decode c_K_renew 0 = .ok (.aload_n 0, 1) := by decide +kernel
theorem d_K_renew_1 : decode c_K_renew 1 = .ok (.getfield 38, 3) := by decide +kernel
theorem d_K_renew_4 : decode c_K_renew 4 = .ok (.iconst 2, 1) := by decide +kernel
theorem d_K_renew_5 : decode c_K_renew 5 = .ok (.if_icmp .eq 15, 3) := by decide +kernel
theorem d_K_renew_8 : decode c_K_renew 8 = .ok (.aload_n 0, 1) := by decide +kernel
theorem d_K_renew_9 : decode c_K_renew 9 = .ok (.getfield 26, 3) := by decide +kernel
theorem d_K_renew_12 : decode c_K_renew 12 = .ok (.aload_n 0, 1) := by decide +kernel
theorem d_K_renew_13 : decode c_K_renew 13 = .ok (.getfield 38, 3) := by decide +kernel
theorem d_K_renew_16 : decode c_K_renew 16 = .ok (.baload, 1) := by decide +kernel
theorem d_K_renew_17 : decode c_K_renew 17 = .ok (.ifCond .eq 5, 3) := by decide +kernel
theorem d_K_renew_20 : decode c_K_renew 20 = .ok (.iconst (-1), 1) := by decide +kernel
theorem d_K_renew_21 : decode c_K_renew 21 = .ok (.ireturn, 1) := by decide +kernel
theorem d_K_renew_22 : decode c_K_renew 22 = .ok (.aload_n 0, 1) := by decide +kernel
theorem d_K_renew_23 : decode c_K_renew 23 = .ok (.aload_n 0, 1) := by decide +kernel
theorem d_K_renew_24 : decode c_K_renew 24 = .ok (.getfield 120, 3) := by decide +kernel
theorem d_K_renew_27 : decode c_K_renew 27 = .ok (.aload_n 0, 1) := by decide +kernel
theorem d_K_renew_28 : decode c_K_renew 28 = .ok (.getfield 64, 3) := by decide +kernel
theorem d_K_renew_31 : decode c_K_renew 31 = .ok (.iadd, 1) := by decide +kernel
theorem d_K_renew_32 : decode c_K_renew 32 = .ok (.putfield 117, 3) := by decide +kernel
theorem d_K_renew_35 : decode c_K_renew 35 = .ok (.aload_n 0, 1) := by decide +kernel
theorem d_K_renew_36 : decode c_K_renew 36 = .ok (.getfield 117, 3) := by decide +kernel
theorem d_K_renew_39 : decode c_K_renew 39 = .ok (.ireturn, 1) := by decide +kernel
theorem d_K_tick_0 : decode c_K_tick 0 = .ok (.iload_n 1, 1) := by decide +kernel
theorem d_K_tick_1 : decode c_K_tick 1 = .ok (.ifCond .lt 9, 3) := by decide +kernel
theorem d_K_tick_4 : decode c_K_tick 4 = .ok (.iload_n 1, 1) := by decide +kernel
theorem d_K_tick_5 : decode c_K_tick 5 = .ok (.bipush 100, 2) := by decide +kernel
theorem d_K_tick_7 : decode c_K_tick 7 = .ok (.if_icmp .le 5, 3) := by decide +kernel
theorem d_K_tick_10 : decode c_K_tick 10 = .ok (.iconst (-1), 1) := by decide +kernel
theorem d_K_tick_11 : decode c_K_tick 11 = .ok (.ireturn, 1) := by decide +kernel
theorem d_K_tick_12 : decode c_K_tick 12 = .ok (.aload_n 0, 1) := by decide +kernel
theorem d_K_tick_13 : decode c_K_tick 13 = .ok (.dup, 1) := by decide +kernel
theorem d_K_tick_14 : decode c_K_tick 14 = .ok (.getfield 120, 3) := by decide +kernel
theorem d_K_tick_17 : decode c_K_tick 17 = .ok (.iload_n 1, 1) := by decide +kernel
theorem d_K_tick_18 : decode c_K_tick 18 = .ok (.iadd, 1) := by decide +kernel
theorem d_K_tick_19 : decode c_K_tick 19 = .ok (.putfield 120, 3) := by decide +kernel
theorem d_K_tick_22 : decode c_K_tick 22 = .ok (.aload_n 0, 1) := by decide +kernel
theorem d_K_tick_23 : decode c_K_tick 23 = .ok (.getfield 45, 3) := by decide +kernel
theorem d_K_tick_26 : decode c_K_tick 26 = .ok (.iconst 2, 1) := by decide +kernel
theorem d_K_tick_27 : decode c_K_tick 27 = .ok (.if_icmp .eq 14, 3) := by decide +kernel
theorem d_K_tick_30 : decode c_K_tick 30 = .ok (.aload_n 0, 1) := by decide +kernel
theorem d_K_tick_31 : decode c_K_tick 31 = .ok (.getfield 117, 3) := by decide +kernel
theorem d_K_tick_34 : decode c_K_tick 34 = .ok (.aload_n 0, 1) := by decide +kernel
theorem d_K_tick_35 : decode c_K_tick 35 = .ok (.getfield 120, 3) := by decide +kernel
theorem d_K_tick_38 : decode c_K_tick 38 = .ok (.if_icmp .gt 20, 3) := by decide +kernel
theorem d_K_tick_41 : decode c_K_tick 41 = .ok (.aload_n 0, 1) := by decide +kernel
theorem d_K_tick_42 : decode c_K_tick 42 = .ok (.iconst 2, 1) := by decide +kernel
theorem d_K_tick_43 : decode c_K_tick 43 = .ok (.putfield 45, 3) := by decide +kernel
theorem d_K_tick_46 : decode c_K_tick 46 = .ok (.aload_n 0, 1) := by decide +kernel
theorem d_K_tick_47 : decode c_K_tick 47 = .ok (.getfield 38, 3) := by decide +kernel
theorem d_K_tick_50 : decode c_K_tick 50 = .ok (.iconst 2, 1) := by decide +kernel
theorem d_K_tick_51 : decode c_K_tick 51 = .ok (.if_icmp .eq 7, 3) := by decide +kernel
theorem d_K_tick_54 : decode c_K_tick 54 = .ok (.aload_n 0, 1) := by decide +kernel
theorem d_K_tick_55 : decode c_K_tick 55 = .ok (.invokevirtual 108, 3) := by decide +kernel
theorem d_K_tick_58 : decode c_K_tick 58 = .ok (.aload_n 0, 1) := by decide +kernel
theorem d_K_tick_59 : decode c_K_tick 59 = .ok (.getfield 120, 3) := by decide +kernel
theorem d_K_tick_62 : decode c_K_tick 62 = .ok (.ireturn, 1) := by decide +kernel
theorem d_K_block_0 : decode c_K_block 0 = .ok (.aload_n 0, 1) := by decide +kernel
theorem d_K_block_1 : decode c_K_block 1 = .ok (.iload_n 1, 1) := by decide +kernel
theorem d_K_block_2 : decode c_K_block 2 = .ok (.iconst 2, 1) := by decide +kernel
theorem d_K_block_3 : decode c_K_block 3 = .ok (.invokevirtual 93, 3) := by decide +kernel
theorem d_K_block_6 : decode c_K_block 6 = .ok (.ifCond .ne 13, 3) := by decide +kernel
theorem d_K_block_9 : decode c_K_block 9 = .ok (.aload_n 0, 1) := by decide +kernel
theorem d_K_block_10 : decode c_K_block 10 = .ok (.iload_n 2, 1) := by decide +kernel
theorem d_K_block_11 : decode c_K_block 11 = .ok (.bipush 32, 2) := by decide +kernel
theorem d_K_block_13 : decode c_K_block 13 = .ok (.invokevirtual 93, 3) := by decide +kernel
theorem d_K_block_16 : decode c_K_block 16 = .ok (.ifCond .eq 7, 3) := by decide +kernel
theorem d_K_block_19 : decode c_K_block 19 = .ok (.ldc2_w 106, 3) := by decide +kernel
theorem d_K_block_22 : decode c_K_block 22 = .ok (.lreturn, 1) := by decide +kernel
theorem d_K_block_23 : decode c_K_block 23 = .ok (.iload_n 3, 1) := by decide +kernel
theorem d_K_block_24 : decode c_K_block 24 = .ok (.ifCond .eq 18, 3) := by decide +kernel
theorem d_K_block_27 : decode c_K_block 27 = .ok (.aload_n 0, 1) := by decide +kernel
theorem d_K_block_28 : decode c_K_block 28 = .ok (.getfield 7, 3) := by decide +kernel
theorem d_K_block_31 : decode c_K_block 31 = .ok (.iload_n 1, 1) := by decide +kernel
theorem d_K_block_32 : decode c_K_block 32 = .ok (.bipush 32, 2) := by decide +kernel
theorem d_K_block_34 : decode c_K_block 34 = .ok (.imul, 1) := by decide +kernel
theorem d_K_block_35 : decode c_K_block 35 = .ok (.iload_n 2, 1) := by decide +kernel
theorem d_K_block_36 : decode c_K_block 36 = .ok (.iadd, 1) := by decide +kernel
theorem d_K_block_37 : decode c_K_block 37 = .ok (.iaload, 1) := by decide +kernel
theorem d_K_block_38 : decode c_K_block 38 = .ok (.i2l, 1) := by decide +kernel
theorem d_K_block_39 : decode c_K_block 39 = .ok (.goto 10, 3) := by decide +kernel
theorem d_K_block_42 : decode c_K_block 42 = .ok (.aload_n 0, 1) := by decide +kernel
theorem d_K_block_43 : decode c_K_block 43 = .ok (.iload_n 1, 1) := by decide +kernel
theorem d_K_block_44 : decode c_K_block 44 = .ok (.iload_n 2, 1) := by decide +kernel
theorem d_K_block_45 : decode c_K_block 45 = .ok (.invokevirtual 78, 3) := by decide +kernel
theorem d_K_block_48 : decode c_K_block 48 = .ok (.i2l, 1) := by decide +kernel
theorem d_K_block_49 : decode c_K_block 49 = .ok (.lreturn, 1) := by decide +kernel
theorem d_K_node_0 : decode c_K_node 0 = .ok (.aload_n 0, 1) := by decide +kernel
theorem d_K_node_1 : decode c_K_node 1 = .ok (.iload_n 1, 1) := by decide +kernel
theorem d_K_node_2 : decode c_K_node 2 = .ok (.iconst 2, 1) := by decide +kernel
theorem d_K_node_3 : decode c_K_node 3 = .ok (.invokevirtual 93, 3) := by decide +kernel
theorem d_K_node_6 : decode c_K_node 6 = .ok (.ifCond .eq 5, 3) := by decide +kernel
theorem d_K_node_9 : decode c_K_node 9 = .ok (.iconst (-1), 1) := by decide +kernel
theorem d_K_node_10 : decode c_K_node 10 = .ok (.ireturn, 1) := by decide +kernel
theorem d_K_node_11 : decode c_K_node 11 = .ok (.iconst 0, 1) := by decide +kernel
theorem d_K_node_12 : decode c_K_node 12 = .ok (.istore_n 3, 1) := by decide +kernel
theorem d_K_node_13 : decode c_K_node 13 = .ok (.iconst 0, 1) := by decide +kernel
theorem d_K_node_14 : decode c_K_node 14 = .ok (.istore 4, 2) := by decide +kernel
theorem d_K_node_16 : decode c_K_node 16 = .ok (.iload 4, 2) := by decide +kernel
theorem d_K_node_18 : decode c_K_node 18 = .ok (.bipush 32, 2) := by decide +kernel
theorem d_K_node_20 : decode c_K_node 20 = .ok (.if_icmp .ge 32, 3) := by decide +kernel
theorem d_K_node_23 : decode c_K_node 23 = .ok (.iload_n 3, 1) := by decide +kernel
theorem d_K_node_24 : decode c_K_node 24 = .ok (.aload_n 0, 1) := by decide +kernel
theorem d_K_node_25 : decode c_K_node 25 = .ok (.getfield 16, 3) := by decide +kernel
theorem d_K_node_28 : decode c_K_node 28 = .ok (.iload_n 1, 1) := by decide +kernel
theorem d_K_node_29 : decode c_K_node 29 = .ok (.bipush 32, 2) := by decide +kernel
theorem d_K_node_31 : decode c_K_node 31 = .ok (.imul, 1) := by decide +kernel
theorem d_K_node_32 : decode c_K_node 32 = .ok (.iload 4, 2) := by decide +kernel
theorem d_K_node_34 : decode c_K_node 34 = .ok (.iadd, 1) := by decide +kernel
theorem d_K_node_35 : decode c_K_node 35 = .ok (.baload, 1) := by decide +kernel
theorem d_K_node_36 : decode c_K_node 36 = .ok (.ifCond .eq 7, 3) := by decide +kernel
theorem d_K_node_39 : decode c_K_node 39 = .ok (.iconst 1, 1) := by decide +kernel
theorem d_K_node_40 : decode c_K_node 40 = .ok (.goto 4, 3) := by decide +kernel
theorem d_K_node_43 : decode c_K_node 43 = .ok (.iconst 0, 1) := by decide +kernel
theorem d_K_node_44 : decode c_K_node 44 = .ok (.iadd, 1) := by decide +kernel
theorem d_K_node_45 : decode c_K_node 45 = .ok (.istore_n 3, 1) := by decide +kernel
theorem d_K_node_46 : decode c_K_node 46 = .ok (.iinc 4 1, 3) := by decide +kernel
theorem d_K_node_49 : decode c_K_node 49 = .ok (.goto (-33), 3) := by decide +kernel
theorem d_K_node_52 : decode c_K_node 52 = .ok (.iload_n 2, 1) := by decide +kernel
theorem d_K_node_53 : decode c_K_node 53 = .ok (.tableswitch 129 0 7 #[47, 62, 76, 83, 90, 105, 112, 114], 47) := by decide +kernel
theorem d_K_node_100 : decode c_K_node 100 = .ok (.aload_n 0, 1) := by decide +kernel
theorem d_K_node_101 : decode c_K_node 101 = .ok (.getfield 20, 3) := by decide +kernel
theorem d_K_node_104 : decode c_K_node 104 = .ok (.iload_n 1, 1) := by decide +kernel
theorem d_K_node_105 : decode c_K_node 105 = .ok (.baload, 1) := by decide +kernel
theorem d_K_node_106 : decode c_K_node 106 = .ok (.ifCond .eq 7, 3) := by decide +kernel
theorem d_K_node_109 : decode c_K_node 109 = .ok (.iconst 0, 1) := by decide +kernel
theorem d_K_node_110 : decode c_K_node 110 = .ok (.goto 4, 3) := by decide +kernel
theorem d_K_node_113 : decode c_K_node 113 = .ok (.iconst 1, 1) := by decide +kernel
theorem d_K_node_114 : decode c_K_node 114 = .ok (.ireturn, 1) := by decide +kernel
theorem d_K_node_115 : decode c_K_node 115 = .ok (.aload_n 0, 1) := by decide +kernel
theorem d_K_node_116 : decode c_K_node 116 = .ok (.getfield 38, 3) := by decide +kernel
theorem d_K_node_119 : decode c_K_node 119 = .ok (.iload_n 1, 1) := by decide +kernel
theorem d_K_node_120 : decode c_K_node 120 = .ok (.if_icmp .ne 7, 3) := by decide +kernel
theorem d_K_node_123 : decode c_K_node 123 = .ok (.iconst 1, 1) := by decide +kernel
theorem d_K_node_124 : decode c_K_node 124 = .ok (.goto 4, 3) := by decide +kernel
theorem d_K_node_127 : decode c_K_node 127 = .ok (.iconst 0, 1) := by decide +kernel
theorem d_K_node_128 : decode c_K_node 128 = .ok (.ireturn, 1) := by decide +kernel
theorem d_K_node_129 : decode c_K_node 129 = .ok (.aload_n 0, 1) := by decide +kernel
theorem d_K_node_130 : decode c_K_node 130 = .ok (.getfield 29, 3) := by decide +kernel
theorem d_K_node_133 : decode c_K_node 133 = .ok (.iload_n 1, 1) := by decide +kernel
theorem d_K_node_134 : decode c_K_node 134 = .ok (.iaload, 1) := by decide +kernel
theorem d_K_node_135 : decode c_K_node 135 = .ok (.ireturn, 1) := by decide +kernel
theorem d_K_node_136 : decode c_K_node 136 = .ok (.aload_n 0, 1) := by decide +kernel
theorem d_K_node_137 : decode c_K_node 137 = .ok (.getfield 32, 3) := by decide +kernel
theorem d_K_node_140 : decode c_K_node 140 = .ok (.iload_n 1, 1) := by decide +kernel
theorem d_K_node_141 : decode c_K_node 141 = .ok (.iaload, 1) := by decide +kernel
theorem d_K_node_142 : decode c_K_node 142 = .ok (.ireturn, 1) := by decide +kernel
theorem d_K_node_143 : decode c_K_node 143 = .ok (.aload_n 0, 1) := by decide +kernel
theorem d_K_node_144 : decode c_K_node 144 = .ok (.getfield 23, 3) := by decide +kernel
theorem d_K_node_147 : decode c_K_node 147 = .ok (.iload_n 1, 1) := by decide +kernel
theorem d_K_node_148 : decode c_K_node 148 = .ok (.baload, 1) := by decide +kernel
theorem d_K_node_149 : decode c_K_node 149 = .ok (.ifCond .eq 7, 3) := by decide +kernel
theorem d_K_node_152 : decode c_K_node 152 = .ok (.iconst 1, 1) := by decide +kernel
theorem d_K_node_153 : decode c_K_node 153 = .ok (.goto 4, 3) := by decide +kernel
theorem d_K_node_156 : decode c_K_node 156 = .ok (.iconst 0, 1) := by decide +kernel
theorem d_K_node_157 : decode c_K_node 157 = .ok (.ireturn, 1) := by decide +kernel
theorem d_K_node_158 : decode c_K_node 158 = .ok (.aload_n 0, 1) := by decide +kernel
theorem d_K_node_159 : decode c_K_node 159 = .ok (.getfield 35, 3) := by decide +kernel
theorem d_K_node_162 : decode c_K_node 162 = .ok (.iload_n 1, 1) := by decide +kernel
theorem d_K_node_163 : decode c_K_node 163 = .ok (.iaload, 1) := by decide +kernel
theorem d_K_node_164 : decode c_K_node 164 = .ok (.ireturn, 1) := by decide +kernel
theorem d_K_node_165 : decode c_K_node 165 = .ok (.iload_n 3, 1) := by decide +kernel
theorem d_K_node_166 : decode c_K_node 166 = .ok (.ireturn, 1) := by decide +kernel
theorem d_K_node_167 : decode c_K_node 167 = .ok (.aload_n 0, 1) := by decide +kernel
theorem d_K_node_168 : decode c_K_node 168 = .ok (.getfield 26, 3) := by decide +kernel
theorem d_K_node_171 : decode c_K_node 171 = .ok (.iload_n 1, 1) := by decide +kernel
theorem d_K_node_172 : decode c_K_node 172 = .ok (.baload, 1) := by decide +kernel
theorem d_K_node_173 : decode c_K_node 173 = .ok (.ifCond .eq 7, 3) := by decide +kernel
theorem d_K_node_176 : decode c_K_node 176 = .ok (.iconst 0, 1) := by decide +kernel
theorem d_K_node_177 : decode c_K_node 177 = .ok (.goto 4, 3) := by decide +kernel
theorem d_K_node_180 : decode c_K_node 180 = .ok (.iconst 1, 1) := by decide +kernel
theorem d_K_node_181 : decode c_K_node 181 = .ok (.ireturn, 1) := by decide +kernel
theorem d_K_node_182 : decode c_K_node 182 = .ok (.iconst (-1), 1) := by decide +kernel
theorem d_K_node_183 : decode c_K_node 183 = .ok (.ireturn, 1) := by decide +kernel
theorem d_K_mirror_0 : decode c_K_mirror 0 = .ok (.iload_n 1, 1) := by decide +kernel
theorem d_K_mirror_1 : decode c_K_mirror 1 = .ok (.tableswitch 106 0 6 #[43, 56, 61, 66, 71, 88, 93], 43) := by decide +kernel
theorem d_K_mirror_44 : decode c_K_mirror 44 = .ok (.aload_n 0, 1) := by decide +kernel
theorem d_K_mirror_45 : decode c_K_mirror 45 = .ok (.getfield 48, 3) := by decide +kernel
theorem d_K_mirror_48 : decode c_K_mirror 48 = .ok (.ifCond .eq 7, 3) := by decide +kernel
theorem d_K_mirror_51 : decode c_K_mirror 51 = .ok (.iconst 1, 1) := by decide +kernel
theorem d_K_mirror_52 : decode c_K_mirror 52 = .ok (.goto 4, 3) := by decide +kernel
theorem d_K_mirror_55 : decode c_K_mirror 55 = .ok (.iconst 0, 1) := by decide +kernel
theorem d_K_mirror_56 : decode c_K_mirror 56 = .ok (.ireturn, 1) := by decide +kernel
theorem d_K_mirror_57 : decode c_K_mirror 57 = .ok (.aload_n 0, 1) := by decide +kernel
theorem d_K_mirror_58 : decode c_K_mirror 58 = .ok (.getfield 42, 3) := by decide +kernel
theorem d_K_mirror_61 : decode c_K_mirror 61 = .ok (.ireturn, 1) := by decide +kernel
theorem d_K_mirror_62 : decode c_K_mirror 62 = .ok (.aload_n 0, 1) := by decide +kernel
theorem d_K_mirror_63 : decode c_K_mirror 63 = .ok (.getfield 55, 3) := by decide +kernel
theorem d_K_mirror_66 : decode c_K_mirror 66 = .ok (.ireturn, 1) := by decide +kernel
theorem d_K_mirror_67 : decode c_K_mirror 67 = .ok (.aload_n 0, 1) := by decide +kernel
theorem d_K_mirror_68 : decode c_K_mirror 68 = .ok (.getfield 45, 3) := by decide +kernel
theorem d_K_mirror_71 : decode c_K_mirror 71 = .ok (.ireturn, 1) := by decide +kernel
theorem d_K_mirror_72 : decode c_K_mirror 72 = .ok (.aload_n 0, 1) := by decide +kernel
theorem d_K_mirror_73 : decode c_K_mirror 73 = .ok (.getfield 45, 3) := by decide +kernel
theorem d_K_mirror_76 : decode c_K_mirror 76 = .ok (.iconst 2, 1) := by decide +kernel
theorem d_K_mirror_77 : decode c_K_mirror 77 = .ok (.if_icmp .ne 7, 3) := by decide +kernel
theorem d_K_mirror_80 : decode c_K_mirror 80 = .ok (.iconst 0, 1) := by decide +kernel
theorem d_K_mirror_81 : decode c_K_mirror 81 = .ok (.goto 7, 3) := by decide +kernel
theorem d_K_mirror_84 : decode c_K_mirror 84 = .ok (.aload_n 0, 1) := by decide +kernel
theorem d_K_mirror_85 : decode c_K_mirror 85 = .ok (.getfield 117, 3) := by decide +kernel
theorem d_K_mirror_88 : decode c_K_mirror 88 = .ok (.ireturn, 1) := by decide +kernel
theorem d_K_mirror_89 : decode c_K_mirror 89 = .ok (.aload_n 0, 1) := by decide +kernel
theorem d_K_mirror_90 : decode c_K_mirror 90 = .ok (.getfield 67, 3) := by decide +kernel
theorem d_K_mirror_93 : decode c_K_mirror 93 = .ok (.ireturn, 1) := by decide +kernel
theorem d_K_mirror_94 : decode c_K_mirror 94 = .ok (.aload_n 0, 1) := by decide +kernel
theorem d_K_mirror_95 : decode c_K_mirror 95 = .ok (.getfield 52, 3) := by decide +kernel
theorem d_K_mirror_98 : decode c_K_mirror 98 = .ok (.ifCond .eq 7, 3) := by decide +kernel
theorem d_K_mirror_101 : decode c_K_mirror 101 = .ok (.iconst 1, 1) := by decide +kernel
theorem d_K_mirror_102 : decode c_K_mirror 102 = .ok (.goto 4, 3) := by decide +kernel
theorem d_K_mirror_105 : decode c_K_mirror 105 = .ok (.iconst 0, 1) := by decide +kernel
theorem d_K_mirror_106 : decode c_K_mirror 106 = .ok (.ireturn, 1) := by decide +kernel
theorem d_K_mirror_107 : decode c_K_mirror 107 = .ok (.iconst (-1), 1) := by decide +kernel
theorem d_K_mirror_108 : decode c_K_mirror 108 = .ok (.ireturn, 1) := by decide +kernel
theorem d_L_law_0 : decode c_L_law 0 = .ok (.new 7, 3) := by decide +kernel
theorem d_L_law_3 : decode c_L_law 3 = .ok (.dup, 1) := by decide +kernel
theorem d_L_law_4 : decode c_L_law 4 = .ok (.aload_n 0, 1) := by decide +kernel
theorem d_L_law_5 : decode c_L_law 5 = .ok (.iconst 0, 1) := by decide +kernel
theorem d_L_law_6 : decode c_L_law 6 = .ok (.invokestatic 9, 3) := by decide +kernel
theorem d_L_law_9 : decode c_L_law 9 = .ok (.invokespecial 15, 3) := by decide +kernel
theorem d_L_law_12 : decode c_L_law 12 = .ok (.astore_n 1, 1) := by decide +kernel
theorem d_L_law_13 : decode c_L_law 13 = .ok (.new 18, 3) := by decide +kernel
theorem d_L_law_16 : decode c_L_law 16 = .ok (.dup, 1) := by decide +kernel
theorem d_L_law_17 : decode c_L_law 17 = .ok (.aload_n 0, 1) := by decide +kernel
theorem d_L_law_18 : decode c_L_law 18 = .ok (.iconst 0, 1) := by decide +kernel
theorem d_L_law_19 : decode c_L_law 19 = .ok (.invokestatic 9, 3) := by decide +kernel
theorem d_L_law_22 : decode c_L_law 22 = .ok (.invokespecial 20, 3) := by decide +kernel
theorem d_L_law_25 : decode c_L_law 25 = .ok (.astore_n 2, 1) := by decide +kernel
theorem d_L_law_26 : decode c_L_law 26 = .ok (.iconst 1, 1) := by decide +kernel
theorem d_L_law_27 : decode c_L_law 27 = .ok (.istore_n 3, 1) := by decide +kernel
theorem d_L_law_28 : decode c_L_law 28 = .ok (.iload_n 3, 1) := by decide +kernel
theorem d_L_law_29 : decode c_L_law 29 = .ok (.aload_n 0, 1) := by decide +kernel
theorem d_L_law_30 : decode c_L_law 30 = .ok (.arraylength, 1) := by decide +kernel
theorem d_L_law_31 : decode c_L_law 31 = .ok (.iconst 4, 1) := by decide +kernel
theorem d_L_law_32 : decode c_L_law 32 = .ok (.isub, 1) := by decide +kernel
theorem d_L_law_33 : decode c_L_law 33 = .ok (.if_icmp .gt 614, 3) := by decide +kernel
theorem d_L_law_36 : decode c_L_law 36 = .ok (.aload_n 0, 1) := by decide +kernel
theorem d_L_law_37 : decode c_L_law 37 = .ok (.iload_n 3, 1) := by decide +kernel
theorem d_L_law_38 : decode c_L_law 38 = .ok (.iaload, 1) := by decide +kernel
theorem d_L_law_39 : decode c_L_law 39 = .ok (.bipush 31, 2) := by decide +kernel
theorem d_L_law_41 : decode c_L_law 41 = .ok (.iand, 1) := by decide +kernel
theorem d_L_law_42 : decode c_L_law 42 = .ok (.tableswitch 599 0 16 #[82, 115, 148, 172, 205, 228, 251, 290, 339, 352, 375, 424, 447, 460, 483, 543, 576], 82) := by decide +kernel
theorem d_L_law_124 : decode c_L_law 124 = .ok (.aload_n 1, 1) := by decide +kernel
theorem d_L_law_125 : decode c_L_law 125 = .ok (.aload_n 0, 1) := by decide +kernel
theorem d_L_law_126 : decode c_L_law 126 = .ok (.iload_n 3, 1) := by decide +kernel
theorem d_L_law_127 : decode c_L_law 127 = .ok (.iconst 1, 1) := by decide +kernel
theorem d_L_law_128 : decode c_L_law 128 = .ok (.iadd, 1) := by decide +kernel
theorem d_L_law_129 : decode c_L_law 129 = .ok (.iaload, 1) := by decide +kernel
theorem d_L_law_130 : decode c_L_law 130 = .ok (.aload_n 0, 1) := by decide +kernel
theorem d_L_law_131 : decode c_L_law 131 = .ok (.iload_n 3, 1) := by decide +kernel
theorem d_L_law_132 : decode c_L_law 132 = .ok (.iconst 2, 1) := by decide +kernel
theorem d_L_law_133 : decode c_L_law 133 = .ok (.iadd, 1) := by decide +kernel
theorem d_L_law_134 : decode c_L_law 134 = .ok (.iaload, 1) := by decide +kernel
theorem d_L_law_135 : decode c_L_law 135 = .ok (.invokevirtual 21, 3) := by decide +kernel
theorem d_L_law_138 : decode c_L_law 138 = .ok (.aload_n 2, 1) := by decide +kernel
theorem d_L_law_139 : decode c_L_law 139 = .ok (.aload_n 0, 1) := by decide +kernel
theorem d_L_law_140 : decode c_L_law 140 = .ok (.iload_n 3, 1) := by decide +kernel
theorem d_L_law_141 : decode c_L_law 141 = .ok (.iconst 1, 1) := by decide +kernel
theorem d_L_law_142 : decode c_L_law 142 = .ok (.iadd, 1) := by decide +kernel
theorem d_L_law_143 : decode c_L_law 143 = .ok (.iaload, 1) := by decide +kernel
theorem d_L_law_144 : decode c_L_law 144 = .ok (.aload_n 0, 1) := by decide +kernel
theorem d_L_law_145 : decode c_L_law 145 = .ok (.iload_n 3, 1) := by decide +kernel
theorem d_L_law_146 : decode c_L_law 146 = .ok (.iconst 2, 1) := by decide +kernel
theorem d_L_law_147 : decode c_L_law 147 = .ok (.iadd, 1) := by decide +kernel
theorem d_L_law_148 : decode c_L_law 148 = .ok (.iaload, 1) := by decide +kernel
theorem d_L_law_149 : decode c_L_law 149 = .ok (.invokevirtual 25, 3) := by decide +kernel
theorem d_L_law_152 : decode c_L_law 152 = .ok (.if_icmp .eq 489, 3) := by decide +kernel
theorem d_L_law_155 : decode c_L_law 155 = .ok (.iconst 0, 1) := by decide +kernel
theorem d_L_law_156 : decode c_L_law 156 = .ok (.ireturn, 1) := by decide +kernel
theorem d_L_law_157 : decode c_L_law 157 = .ok (.aload_n 1, 1) := by decide +kernel
theorem d_L_law_158 : decode c_L_law 158 = .ok (.aload_n 0, 1) := by decide +kernel
theorem d_L_law_159 : decode c_L_law 159 = .ok (.iload_n 3, 1) := by decide +kernel
theorem d_L_law_160 : decode c_L_law 160 = .ok (.iconst 1, 1) := by decide +kernel
theorem d_L_law_161 : decode c_L_law 161 = .ok (.iadd, 1) := by decide +kernel
theorem d_L_law_162 : decode c_L_law 162 = .ok (.iaload, 1) := by decide +kernel
theorem d_L_law_163 : decode c_L_law 163 = .ok (.aload_n 0, 1) := by decide +kernel
theorem d_L_law_164 : decode c_L_law 164 = .ok (.iload_n 3, 1) := by decide +kernel
theorem d_L_law_165 : decode c_L_law 165 = .ok (.iconst 2, 1) := by decide +kernel
theorem d_L_law_166 : decode c_L_law 166 = .ok (.iadd, 1) := by decide +kernel
theorem d_L_law_167 : decode c_L_law 167 = .ok (.iaload, 1) := by decide +kernel
theorem d_L_law_168 : decode c_L_law 168 = .ok (.invokevirtual 26, 3) := by decide +kernel
theorem d_L_law_171 : decode c_L_law 171 = .ok (.aload_n 2, 1) := by decide +kernel
theorem d_L_law_172 : decode c_L_law 172 = .ok (.aload_n 0, 1) := by decide +kernel
theorem d_L_law_173 : decode c_L_law 173 = .ok (.iload_n 3, 1) := by decide +kernel
theorem d_L_law_174 : decode c_L_law 174 = .ok (.iconst 1, 1) := by decide +kernel
theorem d_L_law_175 : decode c_L_law 175 = .ok (.iadd, 1) := by decide +kernel
theorem d_L_law_176 : decode c_L_law 176 = .ok (.iaload, 1) := by decide +kernel
theorem d_L_law_177 : decode c_L_law 177 = .ok (.aload_n 0, 1) := by decide +kernel
theorem d_L_law_178 : decode c_L_law 178 = .ok (.iload_n 3, 1) := by decide +kernel
theorem d_L_law_179 : decode c_L_law 179 = .ok (.iconst 2, 1) := by decide +kernel
theorem d_L_law_180 : decode c_L_law 180 = .ok (.iadd, 1) := by decide +kernel
theorem d_L_law_181 : decode c_L_law 181 = .ok (.iaload, 1) := by decide +kernel
theorem d_L_law_182 : decode c_L_law 182 = .ok (.invokevirtual 29, 3) := by decide +kernel
theorem d_L_law_185 : decode c_L_law 185 = .ok (.if_icmp .eq 456, 3) := by decide +kernel
theorem d_L_law_188 : decode c_L_law 188 = .ok (.iconst 0, 1) := by decide +kernel
theorem d_L_law_189 : decode c_L_law 189 = .ok (.ireturn, 1) := by decide +kernel
theorem d_L_law_190 : decode c_L_law 190 = .ok (.aload_n 1, 1) := by decide +kernel
theorem d_L_law_191 : decode c_L_law 191 = .ok (.aload_n 0, 1) := by decide +kernel
theorem d_L_law_192 : decode c_L_law 192 = .ok (.iload_n 3, 1) := by decide +kernel
theorem d_L_law_193 : decode c_L_law 193 = .ok (.iconst 1, 1) := by decide +kernel
theorem d_L_law_194 : decode c_L_law 194 = .ok (.iadd, 1) := by decide +kernel
theorem d_L_law_195 : decode c_L_law 195 = .ok (.iaload, 1) := by decide +kernel
theorem d_L_law_196 : decode c_L_law 196 = .ok (.invokevirtual 30, 3) := by decide +kernel
theorem d_L_law_199 : decode c_L_law 199 = .ok (.aload_n 2, 1) := by decide +kernel
theorem d_L_law_200 : decode c_L_law 200 = .ok (.aload_n 0, 1) := by decide +kernel
theorem d_L_law_201 : decode c_L_law 201 = .ok (.iload_n 3, 1) := by decide +kernel
theorem d_L_law_202 : decode c_L_law 202 = .ok (.iconst 1, 1) := by decide +kernel
theorem d_L_law_203 : decode c_L_law 203 = .ok (.iadd, 1) := by decide +kernel
theorem d_L_law_204 : decode c_L_law 204 = .ok (.iaload, 1) := by decide +kernel
theorem d_L_law_205 : decode c_L_law 205 = .ok (.invokevirtual 33, 3) := by decide +kernel
theorem d_L_law_208 : decode c_L_law 208 = .ok (.lcmp, 1) := by decide +kernel
theorem d_L_law_209 : decode c_L_law 209 = .ok (.ifCond .eq 432, 3) := by decide +kernel
theorem d_L_law_212 : decode c_L_law 212 = .ok (.iconst 0, 1) := by decide +kernel
theorem d_L_law_213 : decode c_L_law 213 = .ok (.ireturn, 1) := by decide +kernel
theorem d_L_law_214 : decode c_L_law 214 = .ok (.aload_n 1, 1) := by decide +kernel
theorem d_L_law_215 : decode c_L_law 215 = .ok (.aload_n 0, 1) := by decide +kernel
theorem d_L_law_216 : decode c_L_law 216 = .ok (.iload_n 3, 1) := by decide +kernel
theorem d_L_law_217 : decode c_L_law 217 = .ok (.iconst 1, 1) := by decide +kernel
theorem d_L_law_218 : decode c_L_law 218 = .ok (.iadd, 1) := by decide +kernel
theorem d_L_law_219 : decode c_L_law 219 = .ok (.iaload, 1) := by decide +kernel
theorem d_L_law_220 : decode c_L_law 220 = .ok (.aload_n 0, 1) := by decide +kernel
theorem d_L_law_221 : decode c_L_law 221 = .ok (.iload_n 3, 1) := by decide +kernel
theorem d_L_law_222 : decode c_L_law 222 = .ok (.iconst 2, 1) := by decide +kernel
theorem d_L_law_223 : decode c_L_law 223 = .ok (.iadd, 1) := by decide +kernel
theorem d_L_law_224 : decode c_L_law 224 = .ok (.iaload, 1) := by decide +kernel
theorem d_L_law_225 : decode c_L_law 225 = .ok (.invokevirtual 34, 3) := by decide +kernel
theorem d_L_law_228 : decode c_L_law 228 = .ok (.aload_n 2, 1) := by decide +kernel
theorem d_L_law_229 : decode c_L_law 229 = .ok (.aload_n 0, 1) := by decide +kernel
theorem d_L_law_230 : decode c_L_law 230 = .ok (.iload_n 3, 1) := by decide +kernel
theorem d_L_law_231 : decode c_L_law 231 = .ok (.iconst 1, 1) := by decide +kernel
theorem d_L_law_232 : decode c_L_law 232 = .ok (.iadd, 1) := by decide +kernel
theorem d_L_law_233 : decode c_L_law 233 = .ok (.iaload, 1) := by decide +kernel
theorem d_L_law_234 : decode c_L_law 234 = .ok (.aload_n 0, 1) := by decide +kernel
theorem d_L_law_235 : decode c_L_law 235 = .ok (.iload_n 3, 1) := by decide +kernel
theorem d_L_law_236 : decode c_L_law 236 = .ok (.iconst 2, 1) := by decide +kernel
theorem d_L_law_237 : decode c_L_law 237 = .ok (.iadd, 1) := by decide +kernel
theorem d_L_law_238 : decode c_L_law 238 = .ok (.iaload, 1) := by decide +kernel
theorem d_L_law_239 : decode c_L_law 239 = .ok (.invokevirtual 37, 3) := by decide +kernel
theorem d_L_law_242 : decode c_L_law 242 = .ok (.if_icmp .eq 399, 3) := by decide +kernel
theorem d_L_law_245 : decode c_L_law 245 = .ok (.iconst 0, 1) := by decide +kernel
theorem d_L_law_246 : decode c_L_law 246 = .ok (.ireturn, 1) := by decide +kernel
theorem d_L_law_247 : decode c_L_law 247 = .ok (.aload_n 1, 1) := by decide +kernel
theorem d_L_law_248 : decode c_L_law 248 = .ok (.aload_n 0, 1) := by decide +kernel
theorem d_L_law_249 : decode c_L_law 249 = .ok (.iload_n 3, 1) := by decide +kernel
theorem d_L_law_250 : decode c_L_law 250 = .ok (.iconst 1, 1) := by decide +kernel
theorem d_L_law_251 : decode c_L_law 251 = .ok (.iadd, 1) := by decide +kernel
theorem d_L_law_252 : decode c_L_law 252 = .ok (.iaload, 1) := by decide +kernel
theorem d_L_law_253 : decode c_L_law 253 = .ok (.invokevirtual 38, 3) := by decide +kernel
theorem d_L_law_256 : decode c_L_law 256 = .ok (.aload_n 2, 1) := by decide +kernel
theorem d_L_law_257 : decode c_L_law 257 = .ok (.aload_n 0, 1) := by decide +kernel
theorem d_L_law_258 : decode c_L_law 258 = .ok (.iload_n 3, 1) := by decide +kernel
theorem d_L_law_259 : decode c_L_law 259 = .ok (.iconst 1, 1) := by decide +kernel
theorem d_L_law_260 : decode c_L_law 260 = .ok (.iadd, 1) := by decide +kernel
theorem d_L_law_261 : decode c_L_law 261 = .ok (.iaload, 1) := by decide +kernel
theorem d_L_law_262 : decode c_L_law 262 = .ok (.invokevirtual 42, 3) := by decide +kernel
theorem d_L_law_265 : decode c_L_law 265 = .ok (.if_icmp .eq 376, 3) := by decide +kernel
theorem d_L_law_268 : decode c_L_law 268 = .ok (.iconst 0, 1) := by decide +kernel
theorem d_L_law_269 : decode c_L_law 269 = .ok (.ireturn, 1) := by decide +kernel
theorem d_L_law_270 : decode c_L_law 270 = .ok (.aload_n 1, 1) := by decide +kernel
theorem d_L_law_271 : decode c_L_law 271 = .ok (.aload_n 0, 1) := by decide +kernel
theorem d_L_law_272 : decode c_L_law 272 = .ok (.iload_n 3, 1) := by decide +kernel
theorem d_L_law_273 : decode c_L_law 273 = .ok (.iconst 1, 1) := by decide +kernel
theorem d_L_law_274 : decode c_L_law 274 = .ok (.iadd, 1) := by decide +kernel
theorem d_L_law_275 : decode c_L_law 275 = .ok (.iaload, 1) := by decide +kernel
theorem d_L_law_276 : decode c_L_law 276 = .ok (.invokevirtual 43, 3) := by decide +kernel
theorem d_L_law_279 : decode c_L_law 279 = .ok (.aload_n 2, 1) := by decide +kernel
theorem d_L_law_280 : decode c_L_law 280 = .ok (.aload_n 0, 1) := by decide +kernel
theorem d_L_law_281 : decode c_L_law 281 = .ok (.iload_n 3, 1) := by decide +kernel
theorem d_L_law_282 : decode c_L_law 282 = .ok (.iconst 1, 1) := by decide +kernel
theorem d_L_law_283 : decode c_L_law 283 = .ok (.iadd, 1) := by decide +kernel
theorem d_L_law_284 : decode c_L_law 284 = .ok (.iaload, 1) := by decide +kernel
theorem d_L_law_285 : decode c_L_law 285 = .ok (.invokevirtual 46, 3) := by decide +kernel
theorem d_L_law_288 : decode c_L_law 288 = .ok (.if_icmp .eq 353, 3) := by decide +kernel
theorem d_L_law_291 : decode c_L_law 291 = .ok (.iconst 0, 1) := by decide +kernel
theorem d_L_law_292 : decode c_L_law 292 = .ok (.ireturn, 1) := by decide +kernel
theorem d_L_law_293 : decode c_L_law 293 = .ok (.aload_n 1, 1) := by decide +kernel
theorem d_L_law_294 : decode c_L_law 294 = .ok (.aload_n 0, 1) := by decide +kernel
theorem d_L_law_295 : decode c_L_law 295 = .ok (.iload_n 3, 1) := by decide +kernel
theorem d_L_law_296 : decode c_L_law 296 = .ok (.iconst 1, 1) := by decide +kernel
theorem d_L_law_297 : decode c_L_law 297 = .ok (.iadd, 1) := by decide +kernel
theorem d_L_law_298 : decode c_L_law 298 = .ok (.iaload, 1) := by decide +kernel
theorem d_L_law_299 : decode c_L_law 299 = .ok (.ifCond .eq 7, 3) := by decide +kernel
theorem d_L_law_302 : decode c_L_law 302 = .ok (.iconst 1, 1) := by decide +kernel
theorem d_L_law_303 : decode c_L_law 303 = .ok (.goto 4, 3) := by decide +kernel
theorem d_L_law_306 : decode c_L_law 306 = .ok (.iconst 0, 1) := by decide +kernel
theorem d_L_law_307 : decode c_L_law 307 = .ok (.invokevirtual 47, 3) := by decide +kernel
theorem d_L_law_310 : decode c_L_law 310 = .ok (.aload_n 2, 1) := by decide +kernel
theorem d_L_law_311 : decode c_L_law 311 = .ok (.aload_n 0, 1) := by decide +kernel
theorem d_L_law_312 : decode c_L_law 312 = .ok (.iload_n 3, 1) := by decide +kernel
theorem d_L_law_313 : decode c_L_law 313 = .ok (.iconst 1, 1) := by decide +kernel
theorem d_L_law_314 : decode c_L_law 314 = .ok (.iadd, 1) := by decide +kernel
theorem d_L_law_315 : decode c_L_law 315 = .ok (.iaload, 1) := by decide +kernel
theorem d_L_law_316 : decode c_L_law 316 = .ok (.ifCond .eq 7, 3) := by decide +kernel
theorem d_L_law_319 : decode c_L_law 319 = .ok (.iconst 1, 1) := by decide +kernel
theorem d_L_law_320 : decode c_L_law 320 = .ok (.goto 4, 3) := by decide +kernel
theorem d_L_law_323 : decode c_L_law 323 = .ok (.iconst 0, 1) := by decide +kernel
theorem d_L_law_324 : decode c_L_law 324 = .ok (.invokevirtual 51, 3) := by decide +kernel
theorem d_L_law_327 : decode c_L_law 327 = .ok (.if_icmp .eq 314, 3) := by decide +kernel
theorem d_L_law_330 : decode c_L_law 330 = .ok (.iconst 0, 1) := by decide +kernel
theorem d_L_law_331 : decode c_L_law 331 = .ok (.ireturn, 1) := by decide +kernel
theorem d_L_law_332 : decode c_L_law 332 = .ok (.aload_n 1, 1) := by decide +kernel
theorem d_L_law_333 : decode c_L_law 333 = .ok (.aload_n 0, 1) := by decide +kernel
theorem d_L_law_334 : decode c_L_law 334 = .ok (.iload_n 3, 1) := by decide +kernel
theorem d_L_law_335 : decode c_L_law 335 = .ok (.iconst 1, 1) := by decide +kernel
theorem d_L_law_336 : decode c_L_law 336 = .ok (.iadd, 1) := by decide +kernel
theorem d_L_law_337 : decode c_L_law 337 = .ok (.iaload, 1) := by decide +kernel
theorem d_L_law_338 : decode c_L_law 338 = .ok (.aload_n 0, 1) := by decide +kernel
theorem d_L_law_339 : decode c_L_law 339 = .ok (.iload_n 3, 1) := by decide +kernel
theorem d_L_law_340 : decode c_L_law 340 = .ok (.iconst 2, 1) := by decide +kernel
theorem d_L_law_341 : decode c_L_law 341 = .ok (.iadd, 1) := by decide +kernel
theorem d_L_law_342 : decode c_L_law 342 = .ok (.iaload, 1) := by decide +kernel
theorem d_L_law_343 : decode c_L_law 343 = .ok (.ifCond .eq 7, 3) := by decide +kernel
theorem d_L_law_346 : decode c_L_law 346 = .ok (.iconst 1, 1) := by decide +kernel
theorem d_L_law_347 : decode c_L_law 347 = .ok (.goto 4, 3) := by decide +kernel
theorem d_L_law_350 : decode c_L_law 350 = .ok (.iconst 0, 1) := by decide +kernel
theorem d_L_law_351 : decode c_L_law 351 = .ok (.invokevirtual 52, 3) := by decide +kernel
theorem d_L_law_354 : decode c_L_law 354 = .ok (.aload_n 2, 1) := by decide +kernel
theorem d_L_law_355 : decode c_L_law 355 = .ok (.aload_n 0, 1) := by decide +kernel
theorem d_L_law_356 : decode c_L_law 356 = .ok (.iload_n 3, 1) := by decide +kernel
theorem d_L_law_357 : decode c_L_law 357 = .ok (.iconst 1, 1) := by decide +kernel
theorem d_L_law_358 : decode c_L_law 358 = .ok (.iadd, 1) := by decide +kernel
theorem d_L_law_359 : decode c_L_law 359 = .ok (.iaload, 1) := by decide +kernel
theorem d_L_law_360 : decode c_L_law 360 = .ok (.aload_n 0, 1) := by decide +kernel
theorem d_L_law_361 : decode c_L_law 361 = .ok (.iload_n 3, 1) := by decide +kernel
theorem d_L_law_362 : decode c_L_law 362 = .ok (.iconst 2, 1) := by decide +kernel
theorem d_L_law_363 : decode c_L_law 363 = .ok (.iadd, 1) := by decide +kernel
theorem d_L_law_364 : decode c_L_law 364 = .ok (.iaload, 1) := by decide +kernel
theorem d_L_law_365 : decode c_L_law 365 = .ok (.ifCond .eq 7, 3) := by decide +kernel
theorem d_L_law_368 : decode c_L_law 368 = .ok (.iconst 1, 1) := by decide +kernel
theorem d_L_law_369 : decode c_L_law 369 = .ok (.goto 4, 3) := by decide +kernel
theorem d_L_law_372 : decode c_L_law 372 = .ok (.iconst 0, 1) := by decide +kernel
theorem d_L_law_373 : decode c_L_law 373 = .ok (.invokevirtual 56, 3) := by decide +kernel
theorem d_L_law_376 : decode c_L_law 376 = .ok (.if_icmp .eq 265, 3) := by decide +kernel
theorem d_L_law_379 : decode c_L_law 379 = .ok (.iconst 0, 1) := by decide +kernel
theorem d_L_law_380 : decode c_L_law 380 = .ok (.ireturn, 1) := by decide +kernel
theorem d_L_law_381 : decode c_L_law 381 = .ok (.aload_n 1, 1) := by decide +kernel
theorem d_L_law_382 : decode c_L_law 382 = .ok (.invokevirtual 57, 3) := by decide +kernel
theorem d_L_law_385 : decode c_L_law 385 = .ok (.aload_n 2, 1) := by decide +kernel
theorem d_L_law_386 : decode c_L_law 386 = .ok (.invokevirtual 61, 3) := by decide +kernel
theorem d_L_law_389 : decode c_L_law 389 = .ok (.if_icmp .eq 252, 3) := by decide +kernel
theorem d_L_law_392 : decode c_L_law 392 = .ok (.iconst 0, 1) := by decide +kernel
theorem d_L_law_393 : decode c_L_law 393 = .ok (.ireturn, 1) := by decide +kernel
theorem d_L_law_394 : decode c_L_law 394 = .ok (.aload_n 1, 1) := by decide +kernel
theorem d_L_law_395 : decode c_L_law 395 = .ok (.aload_n 0, 1) := by decide +kernel
theorem d_L_law_396 : decode c_L_law 396 = .ok (.iload_n 3, 1) := by decide +kernel
theorem d_L_law_397 : decode c_L_law 397 = .ok (.iconst 1, 1) := by decide +kernel
theorem d_L_law_398 : decode c_L_law 398 = .ok (.iadd, 1) := by decide +kernel
theorem d_L_law_399 : decode c_L_law 399 = .ok (.iaload, 1) := by decide +kernel
theorem d_L_law_400 : decode c_L_law 400 = .ok (.invokevirtual 62, 3) := by decide +kernel
theorem d_L_law_403 : decode c_L_law 403 = .ok (.aload_n 2, 1) := by decide +kernel
theorem d_L_law_404 : decode c_L_law 404 = .ok (.aload_n 0, 1) := by decide +kernel
theorem d_L_law_405 : decode c_L_law 405 = .ok (.iload_n 3, 1) := by decide +kernel
theorem d_L_law_406 : decode c_L_law 406 = .ok (.iconst 1, 1) := by decide +kernel
theorem d_L_law_407 : decode c_L_law 407 = .ok (.iadd, 1) := by decide +kernel
theorem d_L_law_408 : decode c_L_law 408 = .ok (.iaload, 1) := by decide +kernel
theorem d_L_law_409 : decode c_L_law 409 = .ok (.invokevirtual 65, 3) := by decide +kernel
theorem d_L_law_412 : decode c_L_law 412 = .ok (.if_icmp .eq 229, 3) := by decide +kernel
theorem d_L_law_415 : decode c_L_law 415 = .ok (.iconst 0, 1) := by decide +kernel
theorem d_L_law_416 : decode c_L_law 416 = .ok (.ireturn, 1) := by decide +kernel
theorem d_L_law_417 : decode c_L_law 417 = .ok (.aload_n 1, 1) := by decide +kernel
theorem d_L_law_418 : decode c_L_law 418 = .ok (.aload_n 0, 1) := by decide +kernel
theorem d_L_law_419 : decode c_L_law 419 = .ok (.iload_n 3, 1) := by decide +kernel
theorem d_L_law_420 : decode c_L_law 420 = .ok (.iconst 1, 1) := by decide +kernel
theorem d_L_law_421 : decode c_L_law 421 = .ok (.iadd, 1) := by decide +kernel
theorem d_L_law_422 : decode c_L_law 422 = .ok (.iaload, 1) := by decide +kernel
theorem d_L_law_423 : decode c_L_law 423 = .ok (.aload_n 0, 1) := by decide +kernel
theorem d_L_law_424 : decode c_L_law 424 = .ok (.iload_n 3, 1) := by decide +kernel
theorem d_L_law_425 : decode c_L_law 425 = .ok (.iconst 2, 1) := by decide +kernel
theorem d_L_law_426 : decode c_L_law 426 = .ok (.iadd, 1) := by decide +kernel
theorem d_L_law_427 : decode c_L_law 427 = .ok (.iaload, 1) := by decide +kernel
theorem d_L_law_428 : decode c_L_law 428 = .ok (.ifCond .eq 7, 3) := by decide +kernel
theorem d_L_law_431 : decode c_L_law 431 = .ok (.iconst 1, 1) := by decide +kernel
theorem d_L_law_432 : decode c_L_law 432 = .ok (.goto 4, 3) := by decide +kernel
theorem d_L_law_435 : decode c_L_law 435 = .ok (.iconst 0, 1) := by decide +kernel
theorem d_L_law_436 : decode c_L_law 436 = .ok (.invokevirtual 66, 3) := by decide +kernel
theorem d_L_law_439 : decode c_L_law 439 = .ok (.aload_n 2, 1) := by decide +kernel
theorem d_L_law_440 : decode c_L_law 440 = .ok (.aload_n 0, 1) := by decide +kernel
theorem d_L_law_441 : decode c_L_law 441 = .ok (.iload_n 3, 1) := by decide +kernel
theorem d_L_law_442 : decode c_L_law 442 = .ok (.iconst 1, 1) := by decide +kernel
theorem d_L_law_443 : decode c_L_law 443 = .ok (.iadd, 1) := by decide +kernel
theorem d_L_law_444 : decode c_L_law 444 = .ok (.iaload, 1) := by decide +kernel
theorem d_L_law_445 : decode c_L_law 445 = .ok (.aload_n 0, 1) := by decide +kernel
theorem d_L_law_446 : decode c_L_law 446 = .ok (.iload_n 3, 1) := by decide +kernel
theorem d_L_law_447 : decode c_L_law 447 = .ok (.iconst 2, 1) := by decide +kernel
theorem d_L_law_448 : decode c_L_law 448 = .ok (.iadd, 1) := by decide +kernel
theorem d_L_law_449 : decode c_L_law 449 = .ok (.iaload, 1) := by decide +kernel
theorem d_L_law_450 : decode c_L_law 450 = .ok (.ifCond .eq 7, 3) := by decide +kernel
theorem d_L_law_453 : decode c_L_law 453 = .ok (.iconst 1, 1) := by decide +kernel
theorem d_L_law_454 : decode c_L_law 454 = .ok (.goto 4, 3) := by decide +kernel
theorem d_L_law_457 : decode c_L_law 457 = .ok (.iconst 0, 1) := by decide +kernel
theorem d_L_law_458 : decode c_L_law 458 = .ok (.invokevirtual 69, 3) := by decide +kernel
theorem d_L_law_461 : decode c_L_law 461 = .ok (.if_icmp .eq 180, 3) := by decide +kernel
theorem d_L_law_464 : decode c_L_law 464 = .ok (.iconst 0, 1) := by decide +kernel
theorem d_L_law_465 : decode c_L_law 465 = .ok (.ireturn, 1) := by decide +kernel
theorem d_L_law_466 : decode c_L_law 466 = .ok (.aload_n 1, 1) := by decide +kernel
theorem d_L_law_467 : decode c_L_law 467 = .ok (.aload_n 0, 1) := by decide +kernel
theorem d_L_law_468 : decode c_L_law 468 = .ok (.iload_n 3, 1) := by decide +kernel
theorem d_L_law_469 : decode c_L_law 469 = .ok (.iconst 1, 1) := by decide +kernel
theorem d_L_law_470 : decode c_L_law 470 = .ok (.iadd, 1) := by decide +kernel
theorem d_L_law_471 : decode c_L_law 471 = .ok (.iaload, 1) := by decide +kernel
theorem d_L_law_472 : decode c_L_law 472 = .ok (.invokevirtual 70, 3) := by decide +kernel
theorem d_L_law_475 : decode c_L_law 475 = .ok (.aload_n 2, 1) := by decide +kernel
theorem d_L_law_476 : decode c_L_law 476 = .ok (.aload_n 0, 1) := by decide +kernel
theorem d_L_law_477 : decode c_L_law 477 = .ok (.iload_n 3, 1) := by decide +kernel
theorem d_L_law_478 : decode c_L_law 478 = .ok (.iconst 1, 1) := by decide +kernel
theorem d_L_law_479 : decode c_L_law 479 = .ok (.iadd, 1) := by decide +kernel
theorem d_L_law_480 : decode c_L_law 480 = .ok (.iaload, 1) := by decide +kernel
theorem d_L_law_481 : decode c_L_law 481 = .ok (.invokevirtual 73, 3) := by decide +kernel
theorem d_L_law_484 : decode c_L_law 484 = .ok (.if_icmp .eq 157, 3) := by decide +kernel
theorem d_L_law_487 : decode c_L_law 487 = .ok (.iconst 0, 1) := by decide +kernel
theorem d_L_law_488 : decode c_L_law 488 = .ok (.ireturn, 1) := by decide +kernel
theorem d_L_law_489 : decode c_L_law 489 = .ok (.aload_n 1, 1) := by decide +kernel
theorem d_L_law_490 : decode c_L_law 490 = .ok (.invokevirtual 74, 3) := by decide +kernel
theorem d_L_law_493 : decode c_L_law 493 = .ok (.aload_n 2, 1) := by decide +kernel
theorem d_L_law_494 : decode c_L_law 494 = .ok (.invokevirtual 77, 3) := by decide +kernel
theorem d_L_law_497 : decode c_L_law 497 = .ok (.if_icmp .eq 144, 3) := by decide +kernel
theorem d_L_law_500 : decode c_L_law 500 = .ok (.iconst 0, 1) := by decide +kernel
theorem d_L_law_501 : decode c_L_law 501 = .ok (.ireturn, 1) := by decide +kernel
theorem d_L_law_502 : decode c_L_law 502 = .ok (.aload_n 1, 1) := by decide +kernel
theorem d_L_law_503 : decode c_L_law 503 = .ok (.aload_n 0, 1) := by decide +kernel
theorem d_L_law_504 : decode c_L_law 504 = .ok (.iload_n 3, 1) := by decide +kernel
theorem d_L_law_505 : decode c_L_law 505 = .ok (.iconst 1, 1) := by decide +kernel
theorem d_L_law_506 : decode c_L_law 506 = .ok (.iadd, 1) := by decide +kernel
theorem d_L_law_507 : decode c_L_law 507 = .ok (.iaload, 1) := by decide +kernel
theorem d_L_law_508 : decode c_L_law 508 = .ok (.invokevirtual 78, 3) := by decide +kernel
theorem d_L_law_511 : decode c_L_law 511 = .ok (.aload_n 2, 1) := by decide +kernel
theorem d_L_law_512 : decode c_L_law 512 = .ok (.aload_n 0, 1) := by decide +kernel
theorem d_L_law_513 : decode c_L_law 513 = .ok (.iload_n 3, 1) := by decide +kernel
theorem d_L_law_514 : decode c_L_law 514 = .ok (.iconst 1, 1) := by decide +kernel
theorem d_L_law_515 : decode c_L_law 515 = .ok (.iadd, 1) := by decide +kernel
theorem d_L_law_516 : decode c_L_law 516 = .ok (.iaload, 1) := by decide +kernel
theorem d_L_law_517 : decode c_L_law 517 = .ok (.invokevirtual 81, 3) := by decide +kernel
theorem d_L_law_520 : decode c_L_law 520 = .ok (.if_icmp .eq 121, 3) := by decide +kernel
theorem d_L_law_523 : decode c_L_law 523 = .ok (.iconst 0, 1) := by decide +kernel
theorem d_L_law_524 : decode c_L_law 524 = .ok (.ireturn, 1) := by decide +kernel
theorem d_L_law_525 : decode c_L_law 525 = .ok (.aload_n 1, 1) := by decide +kernel
theorem d_L_law_526 : decode c_L_law 526 = .ok (.aload_n 0, 1) := by decide +kernel
theorem d_L_law_527 : decode c_L_law 527 = .ok (.iload_n 3, 1) := by decide +kernel
theorem d_L_law_528 : decode c_L_law 528 = .ok (.iconst 1, 1) := by decide +kernel
theorem d_L_law_529 : decode c_L_law 529 = .ok (.iadd, 1) := by decide +kernel
theorem d_L_law_530 : decode c_L_law 530 = .ok (.iaload, 1) := by decide +kernel
theorem d_L_law_531 : decode c_L_law 531 = .ok (.aload_n 0, 1) := by decide +kernel
theorem d_L_law_532 : decode c_L_law 532 = .ok (.iload_n 3, 1) := by decide +kernel
theorem d_L_law_533 : decode c_L_law 533 = .ok (.iconst 2, 1) := by decide +kernel
theorem d_L_law_534 : decode c_L_law 534 = .ok (.iadd, 1) := by decide +kernel
theorem d_L_law_535 : decode c_L_law 535 = .ok (.iaload, 1) := by decide +kernel
theorem d_L_law_536 : decode c_L_law 536 = .ok (.aload_n 0, 1) := by decide +kernel
theorem d_L_law_537 : decode c_L_law 537 = .ok (.iload_n 3, 1) := by decide +kernel
theorem d_L_law_538 : decode c_L_law 538 = .ok (.iconst 3, 1) := by decide +kernel
theorem d_L_law_539 : decode c_L_law 539 = .ok (.iadd, 1) := by decide +kernel
theorem d_L_law_540 : decode c_L_law 540 = .ok (.iaload, 1) := by decide +kernel
theorem d_L_law_541 : decode c_L_law 541 = .ok (.ifCond .eq 7, 3) := by decide +kernel
theorem d_L_law_544 : decode c_L_law 544 = .ok (.iconst 1, 1) := by decide +kernel
theorem d_L_law_545 : decode c_L_law 545 = .ok (.goto 4, 3) := by decide +kernel
theorem d_L_law_548 : decode c_L_law 548 = .ok (.iconst 0, 1) := by decide +kernel
theorem d_L_law_549 : decode c_L_law 549 = .ok (.invokevirtual 82, 3) := by decide +kernel
theorem d_L_law_552 : decode c_L_law 552 = .ok (.aload_n 2, 1) := by decide +kernel
theorem d_L_law_553 : decode c_L_law 553 = .ok (.aload_n 0, 1) := by decide +kernel
theorem d_L_law_554 : decode c_L_law 554 = .ok (.iload_n 3, 1) := by decide +kernel
theorem d_L_law_555 : decode c_L_law 555 = .ok (.iconst 1, 1) := by decide +kernel
theorem d_L_law_556 : decode c_L_law 556 = .ok (.iadd, 1) := by decide +kernel
theorem d_L_law_557 : decode c_L_law 557 = .ok (.iaload, 1) := by decide +kernel
theorem d_L_law_558 : decode c_L_law 558 = .ok (.aload_n 0, 1) := by decide +kernel
theorem d_L_law_559 : decode c_L_law 559 = .ok (.iload_n 3, 1) := by decide +kernel
theorem d_L_law_560 : decode c_L_law 560 = .ok (.iconst 2, 1) := by decide +kernel
theorem d_L_law_561 : decode c_L_law 561 = .ok (.iadd, 1) := by decide +kernel
theorem d_L_law_562 : decode c_L_law 562 = .ok (.iaload, 1) := by decide +kernel
theorem d_L_law_563 : decode c_L_law 563 = .ok (.aload_n 0, 1) := by decide +kernel
theorem d_L_law_564 : decode c_L_law 564 = .ok (.iload_n 3, 1) := by decide +kernel
theorem d_L_law_565 : decode c_L_law 565 = .ok (.iconst 3, 1) := by decide +kernel
theorem d_L_law_566 : decode c_L_law 566 = .ok (.iadd, 1) := by decide +kernel
theorem d_L_law_567 : decode c_L_law 567 = .ok (.iaload, 1) := by decide +kernel
theorem d_L_law_568 : decode c_L_law 568 = .ok (.ifCond .eq 7, 3) := by decide +kernel
theorem d_L_law_571 : decode c_L_law 571 = .ok (.iconst 1, 1) := by decide +kernel
theorem d_L_law_572 : decode c_L_law 572 = .ok (.goto 4, 3) := by decide +kernel
theorem d_L_law_575 : decode c_L_law 575 = .ok (.iconst 0, 1) := by decide +kernel
theorem d_L_law_576 : decode c_L_law 576 = .ok (.invokevirtual 86, 3) := by decide +kernel
theorem d_L_law_579 : decode c_L_law 579 = .ok (.lcmp, 1) := by decide +kernel
theorem d_L_law_580 : decode c_L_law 580 = .ok (.ifCond .eq 61, 3) := by decide +kernel
theorem d_L_law_583 : decode c_L_law 583 = .ok (.iconst 0, 1) := by decide +kernel
theorem d_L_law_584 : decode c_L_law 584 = .ok (.ireturn, 1) := by decide +kernel
theorem d_L_law_585 : decode c_L_law 585 = .ok (.aload_n 1, 1) := by decide +kernel
theorem d_L_law_586 : decode c_L_law 586 = .ok (.aload_n 0, 1) := by decide +kernel
theorem d_L_law_587 : decode c_L_law 587 = .ok (.iload_n 3, 1) := by decide +kernel
theorem d_L_law_588 : decode c_L_law 588 = .ok (.iconst 1, 1) := by decide +kernel
theorem d_L_law_589 : decode c_L_law 589 = .ok (.iadd, 1) := by decide +kernel
theorem d_L_law_590 : decode c_L_law 590 = .ok (.iaload, 1) := by decide +kernel
theorem d_L_law_591 : decode c_L_law 591 = .ok (.aload_n 0, 1) := by decide +kernel
theorem d_L_law_592 : decode c_L_law 592 = .ok (.iload_n 3, 1) := by decide +kernel
theorem d_L_law_593 : decode c_L_law 593 = .ok (.iconst 2, 1) := by decide +kernel
theorem d_L_law_594 : decode c_L_law 594 = .ok (.iadd, 1) := by decide +kernel
theorem d_L_law_595 : decode c_L_law 595 = .ok (.iaload, 1) := by decide +kernel
theorem d_L_law_596 : decode c_L_law 596 = .ok (.invokevirtual 87, 3) := by decide +kernel
theorem d_L_law_599 : decode c_L_law 599 = .ok (.aload_n 2, 1) := by decide +kernel
theorem d_L_law_600 : decode c_L_law 600 = .ok (.aload_n 0, 1) := by decide +kernel
theorem d_L_law_601 : decode c_L_law 601 = .ok (.iload_n 3, 1) := by decide +kernel
theorem d_L_law_602 : decode c_L_law 602 = .ok (.iconst 1, 1) := by decide +kernel
theorem d_L_law_603 : decode c_L_law 603 = .ok (.iadd, 1) := by decide +kernel
theorem d_L_law_604 : decode c_L_law 604 = .ok (.iaload, 1) := by decide +kernel
theorem d_L_law_605 : decode c_L_law 605 = .ok (.aload_n 0, 1) := by decide +kernel
theorem d_L_law_606 : decode c_L_law 606 = .ok (.iload_n 3, 1) := by decide +kernel
theorem d_L_law_607 : decode c_L_law 607 = .ok (.iconst 2, 1) := by decide +kernel
theorem d_L_law_608 : decode c_L_law 608 = .ok (.iadd, 1) := by decide +kernel
theorem d_L_law_609 : decode c_L_law 609 = .ok (.iaload, 1) := by decide +kernel
theorem d_L_law_610 : decode c_L_law 610 = .ok (.invokevirtual 90, 3) := by decide +kernel
theorem d_L_law_613 : decode c_L_law 613 = .ok (.if_icmp .eq 28, 3) := by decide +kernel
theorem d_L_law_616 : decode c_L_law 616 = .ok (.iconst 0, 1) := by decide +kernel
theorem d_L_law_617 : decode c_L_law 617 = .ok (.ireturn, 1) := by decide +kernel
theorem d_L_law_618 : decode c_L_law 618 = .ok (.aload_n 1, 1) := by decide +kernel
theorem d_L_law_619 : decode c_L_law 619 = .ok (.aload_n 0, 1) := by decide +kernel
theorem d_L_law_620 : decode c_L_law 620 = .ok (.iload_n 3, 1) := by decide +kernel
theorem d_L_law_621 : decode c_L_law 621 = .ok (.iconst 1, 1) := by decide +kernel
theorem d_L_law_622 : decode c_L_law 622 = .ok (.iadd, 1) := by decide +kernel
theorem d_L_law_623 : decode c_L_law 623 = .ok (.iaload, 1) := by decide +kernel
theorem d_L_law_624 : decode c_L_law 624 = .ok (.invokevirtual 91, 3) := by decide +kernel
theorem d_L_law_627 : decode c_L_law 627 = .ok (.aload_n 2, 1) := by decide +kernel
theorem d_L_law_628 : decode c_L_law 628 = .ok (.aload_n 0, 1) := by decide +kernel
theorem d_L_law_629 : decode c_L_law 629 = .ok (.iload_n 3, 1) := by decide +kernel
theorem d_L_law_630 : decode c_L_law 630 = .ok (.iconst 1, 1) := by decide +kernel
theorem d_L_law_631 : decode c_L_law 631 = .ok (.iadd, 1) := by decide +kernel
theorem d_L_law_632 : decode c_L_law 632 = .ok (.iaload, 1) := by decide +kernel
theorem d_L_law_633 : decode c_L_law 633 = .ok (.invokevirtual 94, 3) := by decide +kernel
theorem d_L_law_636 : decode c_L_law 636 = .ok (.if_icmp .eq 5, 3) := by decide +kernel
theorem d_L_law_639 : decode c_L_law 639 = .ok (.iconst 0, 1) := by decide +kernel
theorem d_L_law_640 : decode c_L_law 640 = .ok (.ireturn, 1) := by decide +kernel
theorem d_L_law_641 : decode c_L_law 641 = .ok (.iinc 3 4, 3) := by decide +kernel
theorem d_L_law_644 : decode c_L_law 644 = .ok (.goto (-616), 3) := by decide +kernel
theorem d_L_law_647 : decode c_L_law 647 = .ok (.iconst 1, 1) := by decide +kernel
theorem d_L_law_648 : decode c_L_law 648 = .ok (.ireturn, 1) := by decide +kernel
end
section
theorem hd_H_min : y_H_min.cls ≠ "java/lang/invoke/MethodHandle" ∧ y_H_min.cls ≠ "java/lang/invoke/VarHandle" ∧ (parseMethodDescriptor y_H_min.desc).map (fun d => d.parameters.length) = some 2 := by decide +kernel
theorem hd_H_max : y_H_max.cls ≠ "java/lang/invoke/MethodHandle" ∧ y_H_max.cls ≠ "java/lang/invoke/VarHandle" ∧ (parseMethodDescriptor y_H_max.desc).map (fun d => d.parameters.length) = some 2 := by decide +kernel
theorem hd_M_stage : y_M_stage.cls = R_M ∧ y_M_stage.cls ≠ "java/lang/invoke/MethodHandle" ∧ y_M_stage.cls ≠ "java/lang/invoke/VarHandle" ∧ (parseMethodDescriptor y_M_stage.desc).map (fun d => d.parameters.length) = some 2 := by decide +kernel
theorem hd_M_isCell : y_M_isCell.cls ≠ "java/lang/invoke/MethodHandle" ∧ y_M_isCell.cls ≠ "java/lang/invoke/VarHandle" ∧ (parseMethodDescriptor y_M_isCell.desc).map (fun d => d.parameters.length) = some 1 := by decide +kernel
theorem hd_M_findPrimary : y_M_findPrimary.cls = R_M ∧ y_M_findPrimary.cls ≠ "java/lang/invoke/MethodHandle" ∧ y_M_findPrimary.cls ≠ "java/lang/invoke/VarHandle" ∧ (parseMethodDescriptor y_M_findPrimary.desc).map (fun d => d.parameters.length) = some 0 := by decide +kernel
theorem hd_B_append : y_B_append.cls = R_B ∧ y_B_append.cls ≠ "java/lang/invoke/MethodHandle" ∧ y_B_append.cls ≠ "java/lang/invoke/VarHandle" ∧ (parseMethodDescriptor y_B_append.desc).map (fun d => d.parameters.length) = some 2 := by decide +kernel
theorem hd_M_commit : y_M_commit.cls = R_M ∧ y_M_commit.cls ≠ "java/lang/invoke/MethodHandle" ∧ y_M_commit.cls ≠ "java/lang/invoke/VarHandle" ∧ (parseMethodDescriptor y_M_commit.desc).map (fun d => d.parameters.length) = some 2 := by decide +kernel
theorem hd_M_isUnpaired : y_M_isUnpaired.cls = R_M ∧ y_M_isUnpaired.cls ≠ "java/lang/invoke/MethodHandle" ∧ y_M_isUnpaired.cls ≠ "java/lang/invoke/VarHandle" ∧ (parseMethodDescriptor y_M_isUnpaired.desc).map (fun d => d.parameters.length) = some 1 := by decide +kernel
theorem hd_M_goAlone : y_M_goAlone.cls = R_M ∧ y_M_goAlone.cls ≠ "java/lang/invoke/MethodHandle" ∧ y_M_goAlone.cls ≠ "java/lang/invoke/VarHandle" ∧ (parseMethodDescriptor y_M_goAlone.desc).map (fun d => d.parameters.length) = some 1 := by decide +kernel
theorem hd_M_doCommitStep : y_M_doCommitStep.cls = R_M ∧ y_M_doCommitStep.cls ≠ "java/lang/invoke/MethodHandle" ∧ y_M_doCommitStep.cls ≠ "java/lang/invoke/VarHandle" ∧ (parseMethodDescriptor y_M_doCommitStep.desc).map (fun d => d.parameters.length) = some 2 := by decide +kernel
theorem hd_M_flushBy : y_M_flushBy.cls = R_M ∧ y_M_flushBy.cls ≠ "java/lang/invoke/MethodHandle" ∧ y_M_flushBy.cls ≠ "java/lang/invoke/VarHandle" ∧ (parseMethodDescriptor y_M_flushBy.desc).map (fun d => d.parameters.length) = some 1 := by decide +kernel
theorem hd_D_flush : y_D_flush.cls = R_D ∧ y_D_flush.cls ≠ "java/lang/invoke/MethodHandle" ∧ y_D_flush.cls ≠ "java/lang/invoke/VarHandle" ∧ (parseMethodDescriptor y_D_flush.desc).map (fun d => d.parameters.length) = some 0 := by decide +kernel
theorem hd_D_settle : y_D_settle.cls = R_D ∧ y_D_settle.cls ≠ "java/lang/invoke/MethodHandle" ∧ y_D_settle.cls ≠ "java/lang/invoke/VarHandle" ∧ (parseMethodDescriptor y_D_settle.desc).map (fun d => d.parameters.length) = some 1 := by decide +kernel
theorem hd_D_isCached : y_D_isCached.cls = R_D ∧ y_D_isCached.cls ≠ "java/lang/invoke/MethodHandle" ∧ y_D_isCached.cls ≠ "java/lang/invoke/VarHandle" ∧ (parseMethodDescriptor y_D_isCached.desc).map (fun d => d.parameters.length) = some 1 := by decide +kernel
theorem hd_M_writeBy : y_M_writeBy.cls = R_M ∧ y_M_writeBy.cls ≠ "java/lang/invoke/MethodHandle" ∧ y_M_writeBy.cls ≠ "java/lang/invoke/VarHandle" ∧ (parseMethodDescriptor y_M_writeBy.desc).map (fun d => d.parameters.length) = some 3 := by decide +kernel
theorem hd_D_put : y_D_put.cls = R_D ∧ y_D_put.cls ≠ "java/lang/invoke/MethodHandle" ∧ y_D_put.cls ≠ "java/lang/invoke/VarHandle" ∧ (parseMethodDescriptor y_D_put.desc).map (fun d => d.parameters.length) = some 2 := by decide +kernel
theorem hd_M_bringDown : y_M_bringDown.cls = R_M ∧ y_M_bringDown.cls ≠ "java/lang/invoke/MethodHandle" ∧ y_M_bringDown.cls ≠ "java/lang/invoke/VarHandle" ∧ (parseMethodDescriptor y_M_bringDown.desc).map (fun d => d.parameters.length) = some 2 := by decide +kernel
theorem hd_D_cachedExtents : y_D_cachedExtents.cls = R_D ∧ y_D_cachedExtents.cls ≠ "java/lang/invoke/MethodHandle" ∧ y_D_cachedExtents.cls ≠ "java/lang/invoke/VarHandle" ∧ (parseMethodDescriptor y_D_cachedExtents.desc).map (fun d => d.parameters.length) = some 0 := by decide +kernel
theorem hd_M_makeSecondary : y_M_makeSecondary.cls = R_M ∧ y_M_makeSecondary.cls ≠ "java/lang/invoke/MethodHandle" ∧ y_M_makeSecondary.cls ≠ "java/lang/invoke/VarHandle" ∧ (parseMethodDescriptor y_M_makeSecondary.desc).map (fun d => d.parameters.length) = some 1 := by decide +kernel
theorem hd_M_disconnect : y_M_disconnect.cls = R_M ∧ y_M_disconnect.cls ≠ "java/lang/invoke/MethodHandle" ∧ y_M_disconnect.cls ≠ "java/lang/invoke/VarHandle" ∧ (parseMethodDescriptor y_M_disconnect.desc).map (fun d => d.parameters.length) = some 0 := by decide +kernel
theorem hd_M_cell : y_M_cell.cls = R_M ∧ y_M_cell.cls ≠ "java/lang/invoke/MethodHandle" ∧ y_M_cell.cls ≠ "java/lang/invoke/VarHandle" ∧ (parseMethodDescriptor y_M_cell.desc).map (fun d => d.parameters.length) = some 1 := by decide +kernel
theorem hd_D_held : y_D_held.cls = R_D ∧ y_D_held.cls ≠ "java/lang/invoke/MethodHandle" ∧ y_D_held.cls ≠ "java/lang/invoke/VarHandle" ∧ (parseMethodDescriptor y_D_held.desc).map (fun d => d.parameters.length) = some 1 := by decide +kernel
theorem hd_M_crash : y_M_crash.cls = R_M ∧ y_M_crash.cls ≠ "java/lang/invoke/MethodHandle" ∧ y_M_crash.cls ≠ "java/lang/invoke/VarHandle" ∧ (parseMethodDescriptor y_M_crash.desc).map (fun d => d.parameters.length) = some 2 := by decide +kernel
theorem hd_M_isNode : y_M_isNode.cls ≠ "java/lang/invoke/MethodHandle" ∧ y_M_isNode.cls ≠ "java/lang/invoke/VarHandle" ∧ (parseMethodDescriptor y_M_isNode.desc).map (fun d => d.parameters.length) = some 1 := by decide +kernel
theorem hd_M_restart : y_M_restart.cls = R_M ∧ y_M_restart.cls ≠ "java/lang/invoke/MethodHandle" ∧ y_M_restart.cls ≠ "java/lang/invoke/VarHandle" ∧ (parseMethodDescriptor y_M_restart.desc).map (fun d => d.parameters.length) = some 1 := by decide +kernel
theorem hd_M_swap : y_M_swap.cls = R_M ∧ y_M_swap.cls ≠ "java/lang/invoke/MethodHandle" ∧ y_M_swap.cls ≠ "java/lang/invoke/VarHandle" ∧ (parseMethodDescriptor y_M_swap.desc).map (fun d => d.parameters.length) = some 1 := by decide +kernel
theorem hd_N_renewDisk : y_N_renewDisk.cls = R_N ∧ y_N_renewDisk.cls ≠ "java/lang/invoke/MethodHandle" ∧ y_N_renewDisk.cls ≠ "java/lang/invoke/VarHandle" ∧ (parseMethodDescriptor y_N_renewDisk.desc).map (fun d => d.parameters.length) = some 0 := by decide +kernel
theorem hd_D_erase : y_D_erase.cls = R_D ∧ y_D_erase.cls ≠ "java/lang/invoke/MethodHandle" ∧ y_D_erase.cls ≠ "java/lang/invoke/VarHandle" ∧ (parseMethodDescriptor y_D_erase.desc).map (fun d => d.parameters.length) = some 0 := by decide +kernel
theorem hd_Y_fill : y_Y_fill.cls ≠ "java/lang/invoke/MethodHandle" ∧ y_Y_fill.cls ≠ "java/lang/invoke/VarHandle" ∧ (parseMethodDescriptor y_Y_fill.desc).map (fun d => d.parameters.length) = some 2 := by decide +kernel
theorem hd_M_line : y_M_line.cls = R_M ∧ y_M_line.cls ≠ "java/lang/invoke/MethodHandle" ∧ y_M_line.cls ≠ "java/lang/invoke/VarHandle" ∧ (parseMethodDescriptor y_M_line.desc).map (fun d => d.parameters.length) = some 1 := by decide +kernel
theorem hd_M_witnessLine : y_M_witnessLine.cls = R_M ∧ y_M_witnessLine.cls ≠ "java/lang/invoke/MethodHandle" ∧ y_M_witnessLine.cls ≠ "java/lang/invoke/VarHandle" ∧ (parseMethodDescriptor y_M_witnessLine.desc).map (fun d => d.parameters.length) = some 2 := by decide +kernel
theorem hd_M_connect : y_M_connect.cls = R_M ∧ y_M_connect.cls ≠ "java/lang/invoke/MethodHandle" ∧ y_M_connect.cls ≠ "java/lang/invoke/VarHandle" ∧ (parseMethodDescriptor y_M_connect.desc).map (fun d => d.parameters.length) = some 0 := by decide +kernel
theorem hd_M_chooseSource : y_M_chooseSource.cls = R_M ∧ y_M_chooseSource.cls ≠ "java/lang/invoke/MethodHandle" ∧ y_M_chooseSource.cls ≠ "java/lang/invoke/VarHandle" ∧ (parseMethodDescriptor y_M_chooseSource.desc).map (fun d => d.parameters.length) = some 0 := by decide +kernel
theorem hd_M_extentsThatMayDiffer : y_M_extentsThatMayDiffer.cls = R_M ∧ y_M_extentsThatMayDiffer.cls ≠ "java/lang/invoke/MethodHandle" ∧ y_M_extentsThatMayDiffer.cls ≠ "java/lang/invoke/VarHandle" ∧ (parseMethodDescriptor y_M_extentsThatMayDiffer.desc).map (fun d => d.parameters.length) = some 0 := by decide +kernel
theorem hd_M_finishSync : y_M_finishSync.cls = R_M ∧ y_M_finishSync.cls ≠ "java/lang/invoke/MethodHandle" ∧ y_M_finishSync.cls ≠ "java/lang/invoke/VarHandle" ∧ (parseMethodDescriptor y_M_finishSync.desc).map (fun d => d.parameters.length) = some 0 := by decide +kernel
theorem hd_M_startSync : y_M_startSync.cls = R_M ∧ y_M_startSync.cls ≠ "java/lang/invoke/MethodHandle" ∧ y_M_startSync.cls ≠ "java/lang/invoke/VarHandle" ∧ (parseMethodDescriptor y_M_startSync.desc).map (fun d => d.parameters.length) = some 1 := by decide +kernel
theorem hd_J_bitCount : y_J_bitCount.cls ≠ "java/lang/invoke/MethodHandle" ∧ y_J_bitCount.cls ≠ "java/lang/invoke/VarHandle" ∧ (parseMethodDescriptor y_J_bitCount.desc).map (fun d => d.parameters.length) = some 1 := by decide +kernel
theorem hd_M_resync : y_M_resync.cls = R_M ∧ y_M_resync.cls ≠ "java/lang/invoke/MethodHandle" ∧ y_M_resync.cls ≠ "java/lang/invoke/VarHandle" ∧ (parseMethodDescriptor y_M_resync.desc).map (fun d => d.parameters.length) = some 1 := by decide +kernel
theorem hd_J_numberOfTrailingZeros : y_J_numberOfTrailingZeros.cls ≠ "java/lang/invoke/MethodHandle" ∧ y_J_numberOfTrailingZeros.cls ≠ "java/lang/invoke/VarHandle" ∧ (parseMethodDescriptor y_J_numberOfTrailingZeros.desc).map (fun d => d.parameters.length) = some 1 := by decide +kernel
theorem hd_M_copyExtent : y_M_copyExtent.cls = R_M ∧ y_M_copyExtent.cls ≠ "java/lang/invoke/MethodHandle" ∧ y_M_copyExtent.cls ≠ "java/lang/invoke/VarHandle" ∧ (parseMethodDescriptor y_M_copyExtent.desc).map (fun d => d.parameters.length) = some 1 := by decide +kernel
theorem hd_M_promote : y_M_promote.cls = R_M ∧ y_M_promote.cls ≠ "java/lang/invoke/MethodHandle" ∧ y_M_promote.cls ≠ "java/lang/invoke/VarHandle" ∧ (parseMethodDescriptor y_M_promote.desc).map (fun d => d.parameters.length) = some 2 := by decide +kernel
theorem hd_N_mayAskForLease : y_N_mayAskForLease.cls = R_N ∧ y_N_mayAskForLease.cls ≠ "java/lang/invoke/MethodHandle" ∧ y_N_mayAskForLease.cls ≠ "java/lang/invoke/VarHandle" ∧ (parseMethodDescriptor y_N_mayAskForLease.desc).map (fun d => d.parameters.length) = some 0 := by decide +kernel
theorem hd_T_isLentTo : y_T_isLentTo.cls = R_T ∧ y_T_isLentTo.cls ≠ "java/lang/invoke/MethodHandle" ∧ y_T_isLentTo.cls ≠ "java/lang/invoke/VarHandle" ∧ (parseMethodDescriptor y_T_isLentTo.desc).map (fun d => d.parameters.length) = some 1 := by decide +kernel
theorem hd_T_isRunning : y_T_isRunning.cls = R_T ∧ y_T_isRunning.cls ≠ "java/lang/invoke/MethodHandle" ∧ y_T_isRunning.cls ≠ "java/lang/invoke/VarHandle" ∧ (parseMethodDescriptor y_T_isRunning.desc).map (fun d => d.parameters.length) = some 0 := by decide +kernel
theorem hd_T_lendTo : y_T_lendTo.cls = R_T ∧ y_T_lendTo.cls ≠ "java/lang/invoke/MethodHandle" ∧ y_T_lendTo.cls ≠ "java/lang/invoke/VarHandle" ∧ (parseMethodDescriptor y_T_lendTo.desc).map (fun d => d.parameters.length) = some 1 := by decide +kernel
theorem hd_T_extendLease : y_T_extendLease.cls = R_T ∧ y_T_extendLease.cls ≠ "java/lang/invoke/MethodHandle" ∧ y_T_extendLease.cls ≠ "java/lang/invoke/VarHandle" ∧ (parseMethodDescriptor y_T_extendLease.desc).map (fun d => d.parameters.length) = some 0 := by decide +kernel
theorem hd_M_redoJournal : y_M_redoJournal.cls = R_M ∧ y_M_redoJournal.cls ≠ "java/lang/invoke/MethodHandle" ∧ y_M_redoJournal.cls ≠ "java/lang/invoke/VarHandle" ∧ (parseMethodDescriptor y_M_redoJournal.desc).map (fun d => d.parameters.length) = some 1 := by decide +kernel
theorem hd_M_demote : y_M_demote.cls = R_M ∧ y_M_demote.cls ≠ "java/lang/invoke/MethodHandle" ∧ y_M_demote.cls ≠ "java/lang/invoke/VarHandle" ∧ (parseMethodDescriptor y_M_demote.desc).map (fun d => d.parameters.length) = some 1 := by decide +kernel
theorem hd_M_renew : y_M_renew.cls = R_M ∧ y_M_renew.cls ≠ "java/lang/invoke/MethodHandle" ∧ y_M_renew.cls ≠ "java/lang/invoke/VarHandle" ∧ (parseMethodDescriptor y_M_renew.desc).map (fun d => d.parameters.length) = some 0 := by decide +kernel
theorem hd_M_tick : y_M_tick.cls = R_M ∧ y_M_tick.cls ≠ "java/lang/invoke/MethodHandle" ∧ y_M_tick.cls ≠ "java/lang/invoke/VarHandle" ∧ (parseMethodDescriptor y_M_tick.desc).map (fun d => d.parameters.length) = some 1 := by decide +kernel
theorem hd_M_block : y_M_block.cls = R_M ∧ y_M_block.cls ≠ "java/lang/invoke/MethodHandle" ∧ y_M_block.cls ≠ "java/lang/invoke/VarHandle" ∧ (parseMethodDescriptor y_M_block.desc).map (fun d => d.parameters.length) = some 3 := by decide +kernel
theorem hd_M_node : y_M_node.cls = R_M ∧ y_M_node.cls ≠ "java/lang/invoke/MethodHandle" ∧ y_M_node.cls ≠ "java/lang/invoke/VarHandle" ∧ (parseMethodDescriptor y_M_node.desc).map (fun d => d.parameters.length) = some 2 := by decide +kernel
theorem hd_M_asNumber : y_M_asNumber.cls ≠ "java/lang/invoke/MethodHandle" ∧ y_M_asNumber.cls ≠ "java/lang/invoke/VarHandle" ∧ (parseMethodDescriptor y_M_asNumber.desc).map (fun d => d.parameters.length) = some 1 := by decide +kernel
theorem hd_D_countCached : y_D_countCached.cls = R_D ∧ y_D_countCached.cls ≠ "java/lang/invoke/MethodHandle" ∧ y_D_countCached.cls ≠ "java/lang/invoke/VarHandle" ∧ (parseMethodDescriptor y_D_countCached.desc).map (fun d => d.parameters.length) = some 0 := by decide +kernel
theorem hd_M_mirror : y_M_mirror.cls = R_M ∧ y_M_mirror.cls ≠ "java/lang/invoke/MethodHandle" ∧ y_M_mirror.cls ≠ "java/lang/invoke/VarHandle" ∧ (parseMethodDescriptor y_M_mirror.desc).map (fun d => d.parameters.length) = some 1 := by decide +kernel
theorem hd_L_cell : y_L_cell.cls ≠ "java/lang/invoke/MethodHandle" ∧ y_L_cell.cls ≠ "java/lang/invoke/VarHandle" ∧ (parseMethodDescriptor y_L_cell.desc).map (fun d => d.parameters.length) = some 2 := by decide +kernel
theorem hd_K_stage : y_K_stage.cls = R_K ∧ y_K_stage.cls ≠ "java/lang/invoke/MethodHandle" ∧ y_K_stage.cls ≠ "java/lang/invoke/VarHandle" ∧ (parseMethodDescriptor y_K_stage.desc).map (fun d => d.parameters.length) = some 2 := by decide +kernel
theorem hd_K_out : y_K_out.cls = R_K ∧ y_K_out.cls ≠ "java/lang/invoke/MethodHandle" ∧ y_K_out.cls ≠ "java/lang/invoke/VarHandle" ∧ (parseMethodDescriptor y_K_out.desc).map (fun d => d.parameters.length) = some 2 := by decide +kernel
theorem hd_K_commit : y_K_commit.cls = R_K ∧ y_K_commit.cls ≠ "java/lang/invoke/MethodHandle" ∧ y_K_commit.cls ≠ "java/lang/invoke/VarHandle" ∧ (parseMethodDescriptor y_K_commit.desc).map (fun d => d.parameters.length) = some 2 := by decide +kernel
theorem hd_K_goAlone : y_K_goAlone.cls = R_K ∧ y_K_goAlone.cls ≠ "java/lang/invoke/MethodHandle" ∧ y_K_goAlone.cls ≠ "java/lang/invoke/VarHandle" ∧ (parseMethodDescriptor y_K_goAlone.desc).map (fun d => d.parameters.length) = some 1 := by decide +kernel
theorem hd_K_step : y_K_step.cls = R_K ∧ y_K_step.cls ≠ "java/lang/invoke/MethodHandle" ∧ y_K_step.cls ≠ "java/lang/invoke/VarHandle" ∧ (parseMethodDescriptor y_K_step.desc).map (fun d => d.parameters.length) = some 2 := by decide +kernel
theorem hd_K_flushStep : y_K_flushStep.cls = R_K ∧ y_K_flushStep.cls ≠ "java/lang/invoke/MethodHandle" ∧ y_K_flushStep.cls ≠ "java/lang/invoke/VarHandle" ∧ (parseMethodDescriptor y_K_flushStep.desc).map (fun d => d.parameters.length) = some 0 := by decide +kernel
theorem hd_K_settle : y_K_settle.cls = R_K ∧ y_K_settle.cls ≠ "java/lang/invoke/MethodHandle" ∧ y_K_settle.cls ≠ "java/lang/invoke/VarHandle" ∧ (parseMethodDescriptor y_K_settle.desc).map (fun d => d.parameters.length) = some 1 := by decide +kernel
theorem hd_K_holds : y_K_holds.cls = R_K ∧ y_K_holds.cls ≠ "java/lang/invoke/MethodHandle" ∧ y_K_holds.cls ≠ "java/lang/invoke/VarHandle" ∧ (parseMethodDescriptor y_K_holds.desc).map (fun d => d.parameters.length) = some 2 := by decide +kernel
theorem hd_K_writeStep : y_K_writeStep.cls = R_K ∧ y_K_writeStep.cls ≠ "java/lang/invoke/MethodHandle" ∧ y_K_writeStep.cls ≠ "java/lang/invoke/VarHandle" ∧ (parseMethodDescriptor y_K_writeStep.desc).map (fun d => d.parameters.length) = some 2 := by decide +kernel
theorem hd_K_keepIn : y_K_keepIn.cls = R_K ∧ y_K_keepIn.cls ≠ "java/lang/invoke/MethodHandle" ∧ y_K_keepIn.cls ≠ "java/lang/invoke/VarHandle" ∧ (parseMethodDescriptor y_K_keepIn.desc).map (fun d => d.parameters.length) = some 3 := by decide +kernel
theorem hd_K_extentBit : y_K_extentBit.cls = R_K ∧ y_K_extentBit.cls ≠ "java/lang/invoke/MethodHandle" ∧ y_K_extentBit.cls ≠ "java/lang/invoke/VarHandle" ∧ (parseMethodDescriptor y_K_extentBit.desc).map (fun d => d.parameters.length) = some 1 := by decide +kernel
theorem hd_K_crash : y_K_crash.cls = R_K ∧ y_K_crash.cls ≠ "java/lang/invoke/MethodHandle" ∧ y_K_crash.cls ≠ "java/lang/invoke/VarHandle" ∧ (parseMethodDescriptor y_K_crash.desc).map (fun d => d.parameters.length) = some 2 := by decide +kernel
theorem hd_K_noPrimary : y_K_noPrimary.cls = R_K ∧ y_K_noPrimary.cls ≠ "java/lang/invoke/MethodHandle" ∧ y_K_noPrimary.cls ≠ "java/lang/invoke/VarHandle" ∧ (parseMethodDescriptor y_K_noPrimary.desc).map (fun d => d.parameters.length) = some 0 := by decide +kernel
theorem hd_K_disconnect : y_K_disconnect.cls = R_K ∧ y_K_disconnect.cls ≠ "java/lang/invoke/MethodHandle" ∧ y_K_disconnect.cls ≠ "java/lang/invoke/VarHandle" ∧ (parseMethodDescriptor y_K_disconnect.desc).map (fun d => d.parameters.length) = some 0 := by decide +kernel
theorem hd_K_cell : y_K_cell.cls = R_K ∧ y_K_cell.cls ≠ "java/lang/invoke/MethodHandle" ∧ y_K_cell.cls ≠ "java/lang/invoke/VarHandle" ∧ (parseMethodDescriptor y_K_cell.desc).map (fun d => d.parameters.length) = some 1 := by decide +kernel
theorem hd_K_restart : y_K_restart.cls = R_K ∧ y_K_restart.cls ≠ "java/lang/invoke/MethodHandle" ∧ y_K_restart.cls ≠ "java/lang/invoke/VarHandle" ∧ (parseMethodDescriptor y_K_restart.desc).map (fun d => d.parameters.length) = some 1 := by decide +kernel
theorem hd_K_swap : y_K_swap.cls = R_K ∧ y_K_swap.cls ≠ "java/lang/invoke/MethodHandle" ∧ y_K_swap.cls ≠ "java/lang/invoke/VarHandle" ∧ (parseMethodDescriptor y_K_swap.desc).map (fun d => d.parameters.length) = some 1 := by decide +kernel
theorem hd_K_line : y_K_line.cls = R_K ∧ y_K_line.cls ≠ "java/lang/invoke/MethodHandle" ∧ y_K_line.cls ≠ "java/lang/invoke/VarHandle" ∧ (parseMethodDescriptor y_K_line.desc).map (fun d => d.parameters.length) = some 1 := by decide +kernel
theorem hd_K_witnessLine : y_K_witnessLine.cls = R_K ∧ y_K_witnessLine.cls ≠ "java/lang/invoke/MethodHandle" ∧ y_K_witnessLine.cls ≠ "java/lang/invoke/VarHandle" ∧ (parseMethodDescriptor y_K_witnessLine.desc).map (fun d => d.parameters.length) = some 2 := by decide +kernel
theorem hd_K_connect : y_K_connect.cls = R_K ∧ y_K_connect.cls ≠ "java/lang/invoke/MethodHandle" ∧ y_K_connect.cls ≠ "java/lang/invoke/VarHandle" ∧ (parseMethodDescriptor y_K_connect.desc).map (fun d => d.parameters.length) = some 0 := by decide +kernel
theorem hd_K_finished : y_K_finished.cls = R_K ∧ y_K_finished.cls ≠ "java/lang/invoke/MethodHandle" ∧ y_K_finished.cls ≠ "java/lang/invoke/VarHandle" ∧ (parseMethodDescriptor y_K_finished.desc).map (fun d => d.parameters.length) = some 1 := by decide +kernel
theorem hd_K_resync : y_K_resync.cls = R_K ∧ y_K_resync.cls ≠ "java/lang/invoke/MethodHandle" ∧ y_K_resync.cls ≠ "java/lang/invoke/VarHandle" ∧ (parseMethodDescriptor y_K_resync.desc).map (fun d => d.parameters.length) = some 1 := by decide +kernel
theorem hd_K_promote : y_K_promote.cls = R_K ∧ y_K_promote.cls ≠ "java/lang/invoke/MethodHandle" ∧ y_K_promote.cls ≠ "java/lang/invoke/VarHandle" ∧ (parseMethodDescriptor y_K_promote.desc).map (fun d => d.parameters.length) = some 2 := by decide +kernel
theorem hd_K_demote : y_K_demote.cls = R_K ∧ y_K_demote.cls ≠ "java/lang/invoke/MethodHandle" ∧ y_K_demote.cls ≠ "java/lang/invoke/VarHandle" ∧ (parseMethodDescriptor y_K_demote.desc).map (fun d => d.parameters.length) = some 1 := by decide +kernel
theorem hd_K_renew : y_K_renew.cls = R_K ∧ y_K_renew.cls ≠ "java/lang/invoke/MethodHandle" ∧ y_K_renew.cls ≠ "java/lang/invoke/VarHandle" ∧ (parseMethodDescriptor y_K_renew.desc).map (fun d => d.parameters.length) = some 0 := by decide +kernel
theorem hd_K_tick : y_K_tick.cls = R_K ∧ y_K_tick.cls ≠ "java/lang/invoke/MethodHandle" ∧ y_K_tick.cls ≠ "java/lang/invoke/VarHandle" ∧ (parseMethodDescriptor y_K_tick.desc).map (fun d => d.parameters.length) = some 1 := by decide +kernel
theorem hd_K_block : y_K_block.cls = R_K ∧ y_K_block.cls ≠ "java/lang/invoke/MethodHandle" ∧ y_K_block.cls ≠ "java/lang/invoke/VarHandle" ∧ (parseMethodDescriptor y_K_block.desc).map (fun d => d.parameters.length) = some 3 := by decide +kernel
theorem hd_K_node : y_K_node.cls = R_K ∧ y_K_node.cls ≠ "java/lang/invoke/MethodHandle" ∧ y_K_node.cls ≠ "java/lang/invoke/VarHandle" ∧ (parseMethodDescriptor y_K_node.desc).map (fun d => d.parameters.length) = some 2 := by decide +kernel
theorem hd_K_mirror : y_K_mirror.cls = R_K ∧ y_K_mirror.cls ≠ "java/lang/invoke/MethodHandle" ∧ y_K_mirror.cls ≠ "java/lang/invoke/VarHandle" ∧ (parseMethodDescriptor y_K_mirror.desc).map (fun d => d.parameters.length) = some 1 := by decide +kernel
end
section
-- ===== 04.base: one state, one shape of contract, one call row, for class and reference alike
abbrev x_S : Type := Nat → Nat → Int32
def x_up (z : x_S) (r j : Nat) (v : Int32) : x_S := fun a => if a = r then upd (z a) j v else z a
theorem x_up_eq (z : x_S) (r j : Nat) (v : Int32) : x_up z r j v r j = v := by simp [x_up, upd]
theorem x_up_row {z : x_S} {r j a : Nat} {v : Int32} (h : a ≠ r) : x_up z r j v a = z a := by simp [x_up, h]
theorem x_up_col {z : x_S} {r j a b : Nat} {v : Int32} (h : b ≠ j) : x_up z r j v a b = z a b := by
  by_cases ha : a = r
  · subst ha; simp [x_up, upd, h]
  · simp [x_up, ha]
theorem x_up_own (z : x_S) (r j : Nat) (v : Int32) : x_up z r j v r = upd (z r) j v := by simp [x_up]
theorem x_up_at (z : x_S) (r j a b : Nat) (v : Int32) : x_up z r j v a b = if a = r ∧ b = j then v else z a b := by
  by_cases ha : a = r
  · subst ha; by_cases hb : b = j
    · subst hb; simp [x_up, upd]
    · simp [x_up, upd, hb]
  · simp [x_up, ha]
theorem x_good {ws : List Cond} (h : ∀ w ∈ ws, w ∈ gT) : GoodIn gT ws := fun w hw => ⟨h w hw, good_of_word (gT_good w (h w hw))⟩
/-- a contract's start: the world w0, nothing else -/
def x_Pre (D : va_G) (tys : List (ClassId × FieldType)) (w0 : va_W) (sz : Nat) (U : State) : Prop := U.heap.size = sz ∧ va_P D vwCl w0 U.heap ∧ va_K D vwCl tys U ∧ va_D (fun _ => True) w0
/-- its end: the answer o, the world w1 -/
def x_Q (o : Option Value) (D : va_G) (w1 : va_W) (A : Nat → Prop) : Array Value → State → Outcome → State → Prop := fun _ st oc t => (oc = .returned o ∧ va_P D vwCl w1 t.heap ∧ va_D A w1) ∧ va_F A st t
def x_C (l : Launch) (y : MethodName) (cc : ByteArray) (maxL : Nat) (ret : Option FieldType) (rm : Room) (D : va_G) (tys : List (ClassId × FieldType)) (w0 : va_W) (av : List Value) (o : Option Value) (w1 : va_W) : Prop := ∀ sz : Nat, Met l y (Cond.code y cc maxL ret :: gT) rm (va_Pc av (x_Pre D tys w0 sz)) (x_Q o D w1 (va_A w0 sz)) 0 0 (va_A w0 sz)
theorem x_blind {av : List Value} {D : va_G} {tys : List (ClassId × FieldType)} {w0 : va_W} {sz : Nat} : FrameBlind (va_Pc av (x_Pre D tys w0 sz)) := by
  intro a U g mk q
  obtain ⟨q0, q1, qP, qK, qD⟩ := q
  exact ⟨q0, q1, qP, va_K.moved (u := U) (U := U.calling g mk a) (Vm.Alike.refl U.vm) qK, qD⟩
theorem x_C.of {l : Launch} {y : MethodName} {rm : Room} {D : va_G} {tys : List (ClassId × FieldType)} {w0 : va_W} {av : List Value} {o : Option Value} {w1 : va_W} {cc : ByteArray} {maxL : Nat} {ret : Option FieldType} (hy : plainName y.cls = true) (hlen : (lg_sl av).length ≤ maxL)
    (body : ∀ (p : Program) (e : Env) (s : State) (m : MethodId) (below : List Frame) (meth : Method) (c : Code), p.tables.exec = Jvm.exec → c.code = cc → meth.sig.returnType = ret → c.maxLocals = maxL → (∀ x ∈ gT, x.before av.toArray s = true) → s.vm.findClass y.cls = some m.cls → meth.locks = false → ∀ A : Nat → Prop, (∀ q : Nat, s.heap.size ≤ q → A q) → va_K D vwCl tys s → va_S A s.heap s.heap [] → va_P D vwCl w0 s.heap → va_D A w0 → ∀ ls : Array Slot, lv_has ls maxL (lv_args 0 av) →
      W p l e rm s m av.toArray below meth c s.heap [] 0 0 (MQ below (x_Q o D w1 A) av.toArray s 0 0 A) (F0 m 0 ls [])) : x_C l y cc maxL ret rm D tys w0 av o w1 := by
  intro sz
  refine Met.ofW (cc := cc) (maxL := maxL) (ret := ret) hy rfl ?_
  intro p e s m args below meth c s₁ B hml hv
  obtain ⟨rfl, hsz, hP, hK, hD0⟩ := hv
  subst hsz
  rw [lg_entry_eq]
  have hts := atoms_spec (ws := Cond.code y cc maxL ret :: gT) B.pre
  exact body p e s m below meth c B.exec B.bytes B.returns hml (fun x hx => hts x (List.mem_cons_of_mem _ hx)) (findClass_of_methodNamed B.named) B.notSynchronized (va_A w0 s.heap.size) (fun q h => Or.inr h) hK va_S.rf hP hD0.self _ (lv_entry av hlen)
section XB
variable {p : Program} {l : Launch} {e : Env} {R : Room} {s : State} {m : MethodId} {args : Array Value} {below : List Frame} {meth : Method} {c : Code} {H : Heap} {locs : List Loc} {cells slots : Nat} {Q : State → Prop}
variable {pc : Nat} {ls : Array Slot} {rest st0 : List Value} {A : Nat → Prop} {H0 : Heap} {D : va_G} {tys : List (ClassId × FieldType)} {cc : ByteArray}
/-- returns: an int and a state; an int, the state as it was; a boolean; a long; nothing and a state -/
theorem x_ri {w : x_S → va_W} {v : Int32} {z : x_S} {f : Int32 × x_S} (h : f = (v, z)) (hx : p.tables.exec = Jvm.exec) (hb : c.code = cc) (hr : meth.sig.returnType = some .int) (hk : meth.locks = false) (hP : va_P D vwCl (w z) H) (hD : va_D A (w z)) (hS : va_S A s.heap H locs) (hdg : decode cc pc = .ok (.ireturn, 1)) : W p l e R s m args below meth c H locs 0 0 (MQ below (x_Q (some (.int f.1)) D (w f.2) A) args s 0 0 A) (F0 m pc ls [.int v]) := by
  subst h
  exact W.iret hx hb hr (fun t ht hW => ⟨⟨rfl, by rw [ht]; exact hP, hD⟩, hS.F ht⟩) hS.2.2 hdg hk
theorem x_rp {w1 : va_W} {v f : Int32} (h : f = v) (hx : p.tables.exec = Jvm.exec) (hb : c.code = cc) (hr : meth.sig.returnType = some .int) (hk : meth.locks = false) (hP : va_P D vwCl w1 H) (hD : va_D A w1) (hS : va_S A s.heap H locs) (hdg : decode cc pc = .ok (.ireturn, 1)) : W p l e R s m args below meth c H locs 0 0 (MQ below (x_Q (some (.int f)) D w1 A) args s 0 0 A) (F0 m pc ls [.int v]) := by
  subst h
  exact W.iret hx hb hr (fun t ht hW => ⟨⟨rfl, by rw [ht]; exact hP, hD⟩, hS.F ht⟩) hS.2.2 hdg hk
theorem x_rz {w1 : va_W} {v f : Int32} (h : f = v) (hz : narrow .boolean (.int v) = .int v) (hx : p.tables.exec = Jvm.exec) (hb : c.code = cc) (hr : meth.sig.returnType = some .boolean) (hk : meth.locks = false) (hP : va_P D vwCl w1 H) (hD : va_D A w1) (hS : va_S A s.heap H locs) (hdg : decode cc pc = .ok (.ireturn, 1)) : W p l e R s m args below meth c H locs 0 0 (MQ below (x_Q (some (.int f)) D w1 A) args s 0 0 A) (F0 m pc ls [.int v]) := by
  subst h
  exact W.zret hx hb hr hz (fun t ht hW => ⟨⟨rfl, by rw [ht]; exact hP, hD⟩, hS.F ht⟩) hS.2.2 hdg hk
theorem x_rl {w1 : va_W} {v f : Int64} (h : f = v) (hx : p.tables.exec = Jvm.exec) (hb : c.code = cc) (hr : meth.sig.returnType = some .long) (hk : meth.locks = false) (hP : va_P D vwCl w1 H) (hD : va_D A w1) (hS : va_S A s.heap H locs) (hdg : decode cc pc = .ok (.lreturn, 1)) : W p l e R s m args below meth c H locs 0 0 (MQ below (x_Q (some (.long f)) D w1 A) args s 0 0 A) (F0 m pc ls [.long v]) := by
  subst h
  exact W.lret hx hb hr (fun t ht hW => ⟨⟨rfl, by rw [ht]; exact hP, hD⟩, hS.F ht⟩) hS.2.2 hdg hk
theorem x_rv {w : x_S → va_W} {z f : x_S} (h : f = z) (hx : p.tables.exec = Jvm.exec) (hb : c.code = cc) (hr : meth.sig.returnType = none) (hk : meth.locks = false) (hP : va_P D vwCl (w z) H) (hD : va_D A (w z)) (hS : va_S A s.heap H locs) (hdg : decode cc pc = .ok (.return_, 1)) : W p l e R s m args below meth c H locs 0 0 (MQ below (x_Q none D (w f) A) args s 0 0 A) (F0 m pc ls []) := by
  subst h
  exact W.vret hx hb hr (fun t ht hW => ⟨⟨rfl, by rw [ht]; exact hP, hD⟩, hS.F ht⟩) hS.2.2 hdg hk
/-- behind a call of a method with such a contract -/
theorem x_call {o : Option Value} {w0 w1 : va_W} {a : Array Value} (hr : va_Run p l e R s m args below meth c H locs cells slots 0 0 (F0 m pc ls st0) rest (x_Q o D w1 (va_A w0 H.size) a) (va_A w0 H.size)) (hD : va_D A w0) (hS : va_S A H0 H locs) (hA : ∀ q : Nat, H0.size ≤ q → A q)
    (kk : ∀ (H1 : Heap) (locs1 : List Loc), va_P D vwCl w1 H1 → va_D A w1 → va_S A H0 H1 locs1 → W p l e R s m args below meth c H1 locs1 cells slots Q (F0 m (pc + 3) ls (o.toList ++ rest))) : W p l e R s m args below meth c H locs cells slots Q (F0 m pc ls st0) := by
  have hf : ∀ q, va_A w0 H.size q → A q := by
    intro q h
    rcases h with ⟨k, e, h⟩ | h
    · exact hD.2 k _ h
    · exact hA q (Nat.le_trans hS.1 h)
  intro T hT X
  obtain ⟨v, st₀, t, T', L, h0, X', hL, e1, e2, ⟨⟨hv, hp, hd⟩, hz, hk⟩, st⟩ := hr T hT X
  cases hv
  rw [h0] at hz hk
  obtain ⟨t2, a1, b1⟩ := kk T'.heap (locs ++ L) (by rw [e1]; exact hp) (hd.weaken (fun _ _ _ h2 => hf _ h2))
    ⟨Nat.le_trans hS.1 (by rw [e1]; exact hz), fun q h1 h2 => by rw [e1, hk q (Nat.lt_of_lt_of_le h1 hS.1) (fun z => h2 (hf q z))]; exact hS.2.1 q h1 h2, fun q hq => by
      rcases List.mem_append.mp hq with h | h
      · exact hS.2.2 q h
      · exact hf _ (hL q h)⟩ T' rfl X'
  exact ⟨t2, st t2 a1, b1⟩
variable {y : MethodName} {bytes : ByteArray} {maxL nL n index : Nat} {ret : Option FieldType} {rm : Room} {own C : String} {b : Addr} {As : List Value} {o : Option Value} {w0 w1 : va_W}
theorem x_pre (hK : va_K D vwCl tys s) (hP : va_P D vwCl w0 H) (hD : va_D A w0) (av : List Value) : ∀ U : State, U.heap = H → s.WarmedH U.vm → va_Pc av (x_Pre D tys w0 H.size) av.toArray U := fun U hU hW => ⟨rfl, by rw [hU], by rw [hU]; exact hP, va_K.moved hW.alike hK, hD.weaken (fun _ _ _ _ => trivial)⟩
theorem x_cwV (hts : ∀ w ∈ gT, w.before args s = true) (h1 : Cond.methodLink own index y ∈ gT) (h2 : Cond.instanceMethod y ∈ gT) (h3 : Cond.selects C y y ∈ gT) (h4 : Cond.initialized C ∈ gT) (h5 : Cond.code y bytes maxL ret ∈ gT) (hrc : rm.cells = 0 ∧ rm.slots = 0) (hd : y.cls = C ∧ y.cls ≠ "java/lang/invoke/MethodHandle" ∧ y.cls ≠ "java/lang/invoke/VarHandle" ∧ (parseMethodDescriptor y.desc).map (fun d => d.parameters.length) = some n) (hR : rm.frames + 1 ≤ R.frames ∧ 8 + (maxL + 11) + rm.locals ≤ R.locals) : CallW R s args own C index y bytes maxL ret (Cond.code y bytes maxL ret :: gT) rm 0 0 n := by
  refine cwV n hts (x_good ?_) rfl hrc.1 hrc.2 hd hR
  intro w hw
  simp only [wsV, List.cons_append, List.nil_append, List.mem_cons] at hw
  rcases hw with rfl | rfl | rfl | rfl | rfl | hw <;> assumption
theorem x_cwS (hts : ∀ w ∈ gT, w.before args s = true) (h1 : Cond.methodLink own index y ∈ gT) (h2 : Cond.static y ∈ gT) (h3 : Cond.initialized y.cls ∈ gT) (h5 : Cond.code y bytes maxL ret ∈ gT) (hrc : rm.cells = 0 ∧ rm.slots = 0) (hd : y.cls ≠ "java/lang/invoke/MethodHandle" ∧ y.cls ≠ "java/lang/invoke/VarHandle" ∧ (parseMethodDescriptor y.desc).map (fun d => d.parameters.length) = some n) (hR : rm.frames + 1 ≤ R.frames ∧ 8 + (maxL + 11) + rm.locals ≤ R.locals) : CallB R s args own index y bytes maxL ret (Cond.code y bytes maxL ret :: gT) rm 0 0 n ∧ (Cond.static y).before args s = true := by
  refine va_cwS n hts (x_good ?_) rfl hrc.1 hrc.2 hd hR
  intro w hw
  simp only [va_wsS, List.cons_append, List.nil_append, List.mem_cons] at hw
  rcases hw with rfl | rfl | rfl | rfl | hw <;> assumption
/-- an instance method -/
theorem x_V (S : CallFix p m c cc nL s args gT own) (hM : x_C l y bytes maxL ret rm D tys w0 (.ref b :: As) o w1) (h1 : Cond.methodLink own index y ∈ gT) (h2 : Cond.instanceMethod y ∈ gT) (h3 : Cond.selects C y y ∈ gT) (h4 : Cond.initialized C ∈ gT) (h5 : Cond.code y bytes maxL ret ∈ gT) (hrc : rm.cells = 0 ∧ rm.slots = 0) (hd : y.cls = C ∧ y.cls ≠ "java/lang/invoke/MethodHandle" ∧ y.cls ≠ "java/lang/invoke/VarHandle" ∧ (parseMethodDescriptor y.desc).map (fun d => d.parameters.length) = some n) (hR : rm.frames + 1 ≤ R.frames ∧ 8 + (maxL + 11) + rm.locals ≤ R.locals)
    (hK : va_K D vwCl tys s) (hP : va_P D vwCl w0 H) (hD : va_D A w0) (hS : va_S A H0 H locs) (hA : ∀ q : Nat, H0.size ≤ q → A q) (hb : ∃ cell : Cell, H[b]? = some cell ∧ cell.vm.isStatics = false ∧ s.vm.findClass C = some cell.cls)
    (hn : As.length = n) (hsize : ls.size = nL) (hstack : st0 = As.reverse ++ .ref b :: rest) (hW : (rest.map fun v => v.category).sum ≤ 8) (hdg : decode cc pc = .ok (.invokevirtual index, 3)) (hf : cells ≤ R.cells ∧ slots ≤ R.slots)
    (kk : ∀ (H1 : Heap) (locs1 : List Loc), va_P D vwCl w1 H1 → va_D A w1 → va_S A H0 H1 locs1 → W p l e R s m args below meth c H1 locs1 cells slots Q (F0 m (pc + 3) ls (o.toList ++ rest))) : W p l e R s m args below meth c H locs cells slots Q (F0 m pc ls st0) :=
  x_call (va_runV S (hM H.size) (x_cwV S.2.2.2.2 h1 h2 h3 h4 h5 hrc hd hR) ⟨x_blind, hb, x_pre hK hP hD _⟩ rfl hn hsize hstack (lv_room hW) hdg hf) hD hS hA kk
/-- a static method -/
theorem x_T (S : CallFix p m c cc nL s args gT own) (hM : x_C l y bytes maxL ret rm D tys w0 As o w1) (h1 : Cond.methodLink own index y ∈ gT) (h2 : Cond.static y ∈ gT) (h3 : Cond.initialized y.cls ∈ gT) (h5 : Cond.code y bytes maxL ret ∈ gT) (hrc : rm.cells = 0 ∧ rm.slots = 0) (hd : y.cls ≠ "java/lang/invoke/MethodHandle" ∧ y.cls ≠ "java/lang/invoke/VarHandle" ∧ (parseMethodDescriptor y.desc).map (fun d => d.parameters.length) = some n) (hR : rm.frames + 1 ≤ R.frames ∧ 8 + (maxL + 11) + rm.locals ≤ R.locals)
    (hK : va_K D vwCl tys s) (hP : va_P D vwCl w0 H) (hD : va_D A w0) (hS : va_S A H0 H locs) (hA : ∀ q : Nat, H0.size ≤ q → A q)
    (hn : As.length = n) (hsize : ls.size = nL) (hstack : st0 = As.reverse ++ rest) (hW : (rest.map fun v => v.category).sum ≤ 8) (hdg : decode cc pc = .ok (.invokestatic index, 3)) (hf : cells ≤ R.cells ∧ slots ≤ R.slots)
    (kk : ∀ (H1 : Heap) (locs1 : List Loc), va_P D vwCl w1 H1 → va_D A w1 → va_S A H0 H1 locs1 → W p l e R s m args below meth c H1 locs1 cells slots Q (F0 m (pc + 3) ls (o.toList ++ rest))) : W p l e R s m args below meth c H locs cells slots Q (F0 m pc ls st0) :=
  x_call (va_runS S (hM H.size) (x_cwS S.2.2.2.2 h1 h2 h3 h5 hrc hd hR) ⟨x_blind, x_pre hK hP hD _⟩ rfl hn hsize hstack (lv_room hW) hdg hf) hD hS hA kk
/-- the top number, by another name -/
theorem x_top {x y : Int32} (h : x = y) (k : W p l e R s m args below meth c H locs cells slots Q (F0 m pc ls (.int y :: rest))) : W p l e R s m args below meth c H locs cells slots Q (F0 m pc ls (.int x :: rest)) := h ▸ k
theorem x_topv {x y : Value} (h : x = y) (k : W p l e R s m args below meth c H locs cells slots Q (F0 m pc ls (y :: rest))) : W p l e R s m args below meth c H locs cells slots Q (F0 m pc ls (x :: rest)) := h ▸ k
end XB
theorem x_1k {k : Nat} (h : k < 2) : (1 : Int32) - nI k = nI (1 - k) := by
  match k, h with
  | 0, _ => rfl
  | 1, _ => rfl
theorem x_1lt {k : Nat} (_ : k < 2) : 1 - k < 2 := by omega
theorem x_cl {k : Nat} (h : k < 2) : (nI k).toNatClampNeg = k := nI_clamp (by omega)
theorem x_in2 {k : Nat} (h : k < 2) : vp_in (nI k) 2 := vp_in_nI h (by decide)
theorem x_in32 {k : Nat} (h : k < 32) : vp_in (nI k) 32 := vp_in_nI h (by decide)
theorem x_cl32 {k : Nat} (h : k < 32) : (nI k).toNatClampNeg = k := nI_clamp (by omega)
theorem x_in3 {k : Nat} (h : k < 3) : vp_in (nI k) 3 := vp_in_nI h (by decide)
theorem x_cl3 {k : Nat} (h : k < 3) : (nI k).toNatClampNeg = k := nI_clamp (by omega)
end
section
-- ===== 05.xworld: the class's cells at the addresses ad, as a function of the state z
-- row 0: lineUp connected syncing source; 1: length generation time holder end; 2: size; 3: batch cells; 4: batch values; 5+k: node k up primary generation base alone marks witnessLineUp cachedBits; 7+k: stable; 9+k: cached
def x_fM (ad : Nat → Nat) (z : x_S) : List Value := [.ref (ad 1), .ref (ad 2), .ref (ad 3), .int (z 0 0), .int (z 0 1), .int (z 0 2), .int (z 0 3)]
def x_fT (z : x_S) : List Value := [.int (z 1 0), .int (z 1 1), .int (z 1 2), .int (z 1 3), .int (z 1 4)]
def x_fB (ad : Nat → Nat) (z : x_S) : List Value := [.ref (ad 4), .ref (ad 5), .int (z 2 0)]
def x_fN (ad : Nat → Nat) (z : x_S) (k : Nat) : List Value := [.ref (ad (8 + k)), .int (z (5 + k) 0), .int (z (5 + k) 1), .int (z (5 + k) 2), .int (z (5 + k) 3), .int (z (5 + k) 4), .int (z (5 + k) 5), .int (z (5 + k) 6)]
def x_fD (ad : Nat → Nat) (z : x_S) (k : Nat) : List Value := [.ref (ad (10 + k)), .ref (ad (12 + k)), .int (z (5 + k) 7)]
def x_nf (ad : Nat → Nat) : Nat → Option Nat := va_up (va_up (fun _ => none) 0 (some (ad 6))) 1 (some (ad 7))
def x_w (cI cN : ClassId) (ad : Nat → Nat) (z : x_S) : va_W := [(ad 0, .inr (4, x_fM ad z)), (ad 1, .inl (cN, 2, .inr (.inr (.inr (.inr (x_nf ad)))))), (ad 2, .inr (3, x_fT z)), (ad 3, .inr (0, x_fB ad z)), (ad 4, .inl (cI, 3, .inl (z 3))), (ad 5, .inl (cI, 3, .inl (z 4))), (ad 6, .inr (2, x_fN ad z 0)), (ad 7, .inr (2, x_fN ad z 1)), (ad 8, .inr (1, x_fD ad z 0)), (ad 9, .inr (1, x_fD ad z 1)), (ad 10, .inl (cI, 32, .inl (z 7))), (ad 11, .inl (cI, 32, .inl (z 8))), (ad 12, .inl (cI, 32, .inl (z 9))), (ad 13, .inl (cI, 32, .inl (z 10)))]
abbrev x_ty (cI cN : ClassId) : List (ClassId × FieldType) := [(cI, .int), (cN, .object R_N)]
section XW
variable {cI cN : ClassId} {ad : Nat → Nat} {z : x_S}
theorem x_hM : (x_w cI cN ad z)[0]? = some (ad 0, .inr (4, x_fM ad z)) := rfl
theorem x_hA : (x_w cI cN ad z)[1]? = some (ad 1, .inl (cN, 2, .inr (.inr (.inr (.inr (x_nf ad)))))) := rfl
theorem x_hT : (x_w cI cN ad z)[2]? = some (ad 2, .inr (3, x_fT z)) := rfl
theorem x_hB : (x_w cI cN ad z)[3]? = some (ad 3, .inr (0, x_fB ad z)) := rfl
theorem x_hBc : (x_w cI cN ad z)[4]? = some (ad 4, .inl (cI, 3, .inl (z 3))) := rfl
theorem x_hBv : (x_w cI cN ad z)[5]? = some (ad 5, .inl (cI, 3, .inl (z 4))) := rfl
theorem x_hN {k : Nat} (h : k < 2) : (x_w cI cN ad z)[6 + k]? = some (ad (6 + k), .inr (2, x_fN ad z k)) := by
  match k, h with
  | 0, _ => rfl
  | 1, _ => rfl
theorem x_hD {k : Nat} (h : k < 2) : (x_w cI cN ad z)[8 + k]? = some (ad (8 + k), .inr (1, x_fD ad z k)) := by
  match k, h with
  | 0, _ => rfl
  | 1, _ => rfl
theorem x_hS {k : Nat} (h : k < 2) : (x_w cI cN ad z)[10 + k]? = some (ad (10 + k), .inl (cI, 32, .inl (z (7 + k)))) := by
  match k, h with
  | 0, _ => rfl
  | 1, _ => rfl
theorem x_hC {k : Nat} (h : k < 2) : (x_w cI cN ad z)[12 + k]? = some (ad (12 + k), .inl (cI, 32, .inl (z (9 + k)))) := by
  match k, h with
  | 0, _ => rfl
  | 1, _ => rfl
theorem x_nf_at {k : Nat} (h : k < 2) : va_rf (x_nf ad (nI k).toNatClampNeg) = .ref (ad (6 + k)) := by
  rw [nI_clamp (by omega)]
  match k, h with
  | 0, _ => rfl
  | 1, _ => rfl
-- what a put makes of the world
theorem x_sM {i : Nat} (h : i < 4) (v : Int32) : (x_w cI cN ad z).set 0 (ad 0, .inr (4, (x_fM ad z).set (3 + i) (.int v))) = x_w cI cN ad (x_up z 0 i v) := by
  match i, h with
  | 0, _ => rfl
  | 1, _ => rfl
  | 2, _ => rfl
  | 3, _ => rfl
theorem x_sT {i : Nat} (h : i < 5) (v : Int32) : (x_w cI cN ad z).set 2 (ad 2, .inr (3, (x_fT z).set i (.int v))) = x_w cI cN ad (x_up z 1 i v) := by
  match i, h with
  | 0, _ => rfl
  | 1, _ => rfl
  | 2, _ => rfl
  | 3, _ => rfl
  | 4, _ => rfl
theorem x_sB (v : Int32) : (x_w cI cN ad z).set 3 (ad 3, .inr (0, (x_fB ad z).set 2 (.int v))) = x_w cI cN ad (x_up z 2 0 v) := rfl
theorem x_sBc (j : Nat) (v : Int32) : (x_w cI cN ad z).set 4 (ad 4, .inl (cI, 3, .inl (upd (z 3) j v))) = x_w cI cN ad (x_up z 3 j v) := rfl
theorem x_sBv (j : Nat) (v : Int32) : (x_w cI cN ad z).set 5 (ad 5, .inl (cI, 3, .inl (upd (z 4) j v))) = x_w cI cN ad (x_up z 4 j v) := rfl
theorem x_sN {k i : Nat} (hk : k < 2) (h : i < 7) (v : Int32) : (x_w cI cN ad z).set (6 + k) (ad (6 + k), .inr (2, (x_fN ad z k).set (1 + i) (.int v))) = x_w cI cN ad (x_up z (5 + k) i v) := by
  match k, hk, i, h with
  | 0, _, 0, _ => rfl
  | 0, _, 1, _ => rfl
  | 0, _, 2, _ => rfl
  | 0, _, 3, _ => rfl
  | 0, _, 4, _ => rfl
  | 0, _, 5, _ => rfl
  | 0, _, 6, _ => rfl
  | 1, _, 0, _ => rfl
  | 1, _, 1, _ => rfl
  | 1, _, 2, _ => rfl
  | 1, _, 3, _ => rfl
  | 1, _, 4, _ => rfl
  | 1, _, 5, _ => rfl
  | 1, _, 6, _ => rfl
theorem x_sD {k : Nat} (hk : k < 2) (v : Int32) : (x_w cI cN ad z).set (8 + k) (ad (8 + k), .inr (1, (x_fD ad z k).set 2 (.int v))) = x_w cI cN ad (x_up z (5 + k) 7 v) := by
  match k, hk with
  | 0, _ => rfl
  | 1, _ => rfl
theorem x_sS {k : Nat} (hk : k < 2) (j : Nat) (v : Int32) : (x_w cI cN ad z).set (10 + k) (ad (10 + k), .inl (cI, 32, .inl (upd (z (7 + k)) j v))) = x_w cI cN ad (x_up z (7 + k) j v) := by
  match k, hk with
  | 0, _ => rfl
  | 1, _ => rfl
theorem x_sC {k : Nat} (hk : k < 2) (j : Nat) (v : Int32) : (x_w cI cN ad z).set (12 + k) (ad (12 + k), .inl (cI, 32, .inl (upd (z (9 + k)) j v))) = x_w cI cN ad (x_up z (9 + k) j v) := by
  match k, hk with
  | 0, _ => rfl
  | 1, _ => rfl
end XW
end
section
-- ===== 06.xspec: what each method of the class does to the state z, in the order of its code; node numbers, blocks and steps as Nat where the code has tested them
def x_sh (x b : Int32) : Int32 := (x.toUInt32 >>> (b.toUInt32 &&& Int32.toUInt32 31)).toInt32
def x_isNode (a : Int32) : Int32 := if a < 0 then 0 else if 2 ≤ a then 0 else 1
def x_isCell (a : Int32) : Int32 := if a < 0 then 0 else if 24 ≤ a then 0 else 1
def x_num (a : Int32) : Int32 := if a = 0 then 0 else 1
-- Disk
def x_isC (z : x_S) (k b : Nat) : Int32 := if x_sh (z (5 + k) 7) (nI b) &&& 1 = 1 then 1 else 0
def x_held (z : x_S) (k b : Nat) : Int32 := if x_isC z k b = 0 then z (7 + k) b else z (9 + k) b
def x_put (z : x_S) (k b : Nat) (v : Int32) : x_S := x_up (x_up z (9 + k) b v) (5 + k) 7 (x_up z (9 + k) b v (5 + k) 7 ||| (1 <<< (nI b &&& 31)))
def x_setB (z : x_S) (k : Nat) (keep : Int32) (i : Nat) : x_S := if x_isC z k i = 0 then z else if x_sh keep (nI i) &&& 1 = 1 then x_up z (7 + k) i (z (9 + k) i) else z
def x_setL (k : Nat) (keep : Int32) : Nat → Nat → x_S → x_S
  | 0, _, z => z
  | n + 1, i, z => x_setL k keep n (i + 1) (x_setB z k keep i)
def x_settle (z : x_S) (k : Nat) (keep : Int32) : x_S := x_up (x_setL k keep 32 0 z) (5 + k) 7 0
def x_flush (z : x_S) (k : Nat) : x_S := x_settle z k (-1)
def x_cexL (b : Int32) : Nat → Nat → Int32 → Int32
  | 0, _, a => a
  | n + 1, i, a => x_cexL b n (i + 1) (if x_sh b (nI i * 4) &&& 15 = 0 then a else a ||| (1 <<< (nI i &&& 31)))
def x_cext (z : x_S) (k : Nat) : Int32 := x_cexL (z (5 + k) 7) 8 0 0
-- Node
def x_may (z : x_S) (k : Nat) : Int32 := if z (5 + k) 0 = 0 then 0 else if z (5 + k) 1 = 0 then (if z (5 + k) 6 = 0 then 0 else 1) else 0
-- Witness
def x_run (z : x_S) : Int32 := if z 1 3 = 2 then 0 else if z 1 4 ≤ z 1 2 then 0 else 1
def x_lent (z : x_S) (n : Int32) : Int32 := if z 1 3 = n then (if x_run z = 0 then 0 else 1) else 0
def x_ext (z : x_S) : x_S := x_up z 1 4 (z 1 2 + z 1 0)
def x_lend (z : x_S) (n : Int32) : x_S := x_ext (x_up z 1 3 n)
-- the mirror's own
def x_findP (z : x_S) : Int32 := if z 5 1 = 0 then (if z 6 1 = 0 then 2 else 1) else 0
def x_sec (z : x_S) (k : Nat) : x_S := if z (5 + k) 1 = 0 then z else x_up (x_up z (5 + k) 1 0) 2 0 0
def x_disc (z : x_S) : x_S := x_up (x_up z 0 1 0) 0 2 0
def x_unp (z : x_S) (k : Nat) : Int32 := if z 0 1 = 0 then (if z (5 + k) 4 = 0 then 1 else 0) else 0
def x_goAl (z : x_S) (k : Nat) : x_S :=
  let z1 := x_up z 1 1 (z 1 1 + 1)
  let z2 := x_up z1 (5 + k) 3 (z1 (5 + k) 2)
  let z3 := x_up z2 (5 + k) 2 (z2 1 1)
  x_up z3 (5 + k) 4 1
def x_bring (z : x_S) (k : Nat) (keep : Int32) : x_S :=
  let z1 := x_up z (5 + k) 5 (z (5 + k) 5 ||| x_cext z k)
  let z2 := if z1 0 1 = 0 then z1 else x_up z1 (5 + (1 - k)) 5 (z1 (5 + (1 - k)) 5 ||| x_cext z k)
  x_disc (x_sec (x_up (x_settle z2 k keep) (5 + k) 0 0) k)
def x_wr (z : x_S) (k b : Nat) (v : Int32) : x_S :=
  let z1 := x_put z k b v
  if z1 0 1 = 0 then x_up z1 (5 + k) 5 (z1 (5 + k) 5 ||| (1 <<< ((nI b / 4) &&& 31))) else x_put z1 (1 - k) b v
def x_fl (z : x_S) (k : Nat) : x_S :=
  let z1 := x_flush z k
  if z1 0 1 = 0 then z1 else x_flush z1 (1 - k)
end
section
-- ===== 06.xw2: the two nodes by number; booleans
def x_fN0 (ad : Nat → Nat) (z : x_S) : List Value := [.ref (ad 8), .int (z 5 0), .int (z 5 1), .int (z 5 2), .int (z 5 3), .int (z 5 4), .int (z 5 5), .int (z 5 6)]
def x_fN1 (ad : Nat → Nat) (z : x_S) : List Value := [.ref (ad 9), .int (z 6 0), .int (z 6 1), .int (z 6 2), .int (z 6 3), .int (z 6 4), .int (z 6 5), .int (z 6 6)]
theorem x_hN0 {cI cN : ClassId} {ad : Nat → Nat} {z : x_S} : (x_w cI cN ad z)[6]? = some (ad 6, .inr (2, x_fN0 ad z)) := rfl
theorem x_hN1 {cI cN : ClassId} {ad : Nat → Nat} {z : x_S} : (x_w cI cN ad z)[7]? = some (ad 7, .inr (2, x_fN1 ad z)) := rfl
theorem x_nf_0 {ad : Nat → Nat} : va_rf (x_nf ad (nI 0).toNatClampNeg) = .ref (ad 6) := x_nf_at (k := 0) (by decide)
theorem x_nf_1 {ad : Nat → Nat} : va_rf (x_nf ad (nI 1).toNatClampNeg) = .ref (ad 7) := x_nf_at (k := 1) (by decide)
theorem x_nb {v : Int32} (h : v = 0 ∨ v = 1) : narrow .boolean (.int v) = .int v := by rcases h with rfl | rfl <;> rfl
theorem x_fb {v : Int32} (h : v = 0 ∨ v = 1) : fits .boolean (.int v) = true := by rcases h with rfl | rfl <;> rfl
end
section
-- ===== 07.x1: leaves of the class
set_option maxHeartbeats 4000000 in
set_option maxRecDepth 100000 in
theorem c_M_isNode_ok (l : Launch) (D : va_G) (cI cN : ClassId) (ad : Nat → Nat) (z : x_S) (a : Int32) : x_C l y_M_isNode c_M_isNode 1 (some .boolean) { frames := 0, cells := 0, slots := 0, locals := 0 } D (x_ty cI cN) (x_w cI cN ad z) [.int a] (some (.int (x_isNode a))) (x_w cI cN ad z) := by
  refine x_C.of (by decide) (Nat.le_of_ble_eq_true rfl) ?_
  intro p e s m below meth c hx hb hr hml hts hown hlk A hA hK hS hP hD ls hl
  have hown : s.vm.findClass R_M = some m.cls := hown
  have hl : lv_has ls 1 [(0, .int a)] := hl
  refine lv_iload_n hx hb d_M_isNode_0 rfl (lv_at hl 0 rfl) ?_
  refine lv_if_lt (tgt := 13) hx hb d_M_isNode_1 (by decide) (fun c1 => ?_) (fun c1 => ?_)
  · refine lv_iconst (v := 0) hx hb d_M_isNode_13 (by decide) ?_
    exact x_rz (by first | (simp only [x_isNode, if_pos c1]; done) | rfl | (simp only [x_isNode, if_pos c1]; rfl)) rfl hx hb hr hlk hP hD hS d_M_isNode_14
  · refine lv_iload_n hx hb d_M_isNode_4 rfl (lv_at hl 0 rfl) ?_
    refine lv_iconst (v := 2) hx hb d_M_isNode_5 (by decide) ?_
    refine lv_icmp_ge (tgt := 13) hx hb d_M_isNode_6 (by decide) (fun c2 => ?_) (fun c2 => ?_)
    · refine lv_iconst (v := 0) hx hb d_M_isNode_13 (by decide) ?_
      exact x_rz (by first | (simp only [x_isNode, if_neg c1, if_pos c2]; done) | rfl | (simp only [x_isNode, if_neg c1, if_pos c2]; rfl)) rfl hx hb hr hlk hP hD hS d_M_isNode_14
    · refine lv_iconst (v := 1) hx hb d_M_isNode_9 (by decide) ?_
      refine lv_goto (tgt := 14) hx hb d_M_isNode_10 (by decide) ?_
      exact x_rz (by first | (simp only [x_isNode, if_neg c1, if_neg c2]; done) | rfl | (simp only [x_isNode, if_neg c1, if_neg c2]; rfl)) rfl hx hb hr hlk hP hD hS d_M_isNode_14
set_option maxHeartbeats 4000000 in
set_option maxRecDepth 100000 in
theorem c_M_isCell_ok (l : Launch) (D : va_G) (cI cN : ClassId) (ad : Nat → Nat) (z : x_S) (a : Int32) : x_C l y_M_isCell c_M_isCell 1 (some .boolean) { frames := 0, cells := 0, slots := 0, locals := 0 } D (x_ty cI cN) (x_w cI cN ad z) [.int a] (some (.int (x_isCell a))) (x_w cI cN ad z) := by
  refine x_C.of (by decide) (Nat.le_of_ble_eq_true rfl) ?_
  intro p e s m below meth c hx hb hr hml hts hown hlk A hA hK hS hP hD ls hl
  have hown : s.vm.findClass R_M = some m.cls := hown
  have hl : lv_has ls 1 [(0, .int a)] := hl
  refine lv_iload_n hx hb d_M_isCell_0 rfl (lv_at hl 0 rfl) ?_
  refine lv_if_lt (tgt := 14) hx hb d_M_isCell_1 (by decide) (fun c1 => ?_) (fun c1 => ?_)
  · refine lv_iconst (v := 0) hx hb d_M_isCell_14 (by decide) ?_
    exact x_rz (by first | (simp only [x_isCell, if_pos c1]; done) | rfl | (simp only [x_isCell, if_pos c1]; rfl)) rfl hx hb hr hlk hP hD hS d_M_isCell_15
  · refine lv_iload_n hx hb d_M_isCell_4 rfl (lv_at hl 0 rfl) ?_
    refine lv_bipush (v := 24) hx hb d_M_isCell_5 (by decide) ?_
    refine lv_icmp_ge (tgt := 14) hx hb d_M_isCell_7 (by decide) (fun c2 => ?_) (fun c2 => ?_)
    · refine lv_iconst (v := 0) hx hb d_M_isCell_14 (by decide) ?_
      exact x_rz (by first | (simp only [x_isCell, if_neg c1, if_pos c2]; done) | rfl | (simp only [x_isCell, if_neg c1, if_pos c2]; rfl)) rfl hx hb hr hlk hP hD hS d_M_isCell_15
    · refine lv_iconst (v := 1) hx hb d_M_isCell_10 (by decide) ?_
      refine lv_goto (tgt := 15) hx hb d_M_isCell_11 (by decide) ?_
      exact x_rz (by first | (simp only [x_isCell, if_neg c1, if_neg c2]; done) | rfl | (simp only [x_isCell, if_neg c1, if_neg c2]; rfl)) rfl hx hb hr hlk hP hD hS d_M_isCell_15
set_option maxHeartbeats 4000000 in
set_option maxRecDepth 100000 in
theorem c_M_asNumber_ok (l : Launch) (D : va_G) (cI cN : ClassId) (ad : Nat → Nat) (z : x_S) (a : Int32) : x_C l y_M_asNumber c_M_asNumber 1 (some .int) { frames := 0, cells := 0, slots := 0, locals := 0 } D (x_ty cI cN) (x_w cI cN ad z) [.int a] (some (.int (x_num a))) (x_w cI cN ad z) := by
  refine x_C.of (by decide) (Nat.le_of_ble_eq_true rfl) ?_
  intro p e s m below meth c hx hb hr hml hts hown hlk A hA hK hS hP hD ls hl
  have hown : s.vm.findClass R_M = some m.cls := hown
  have hl : lv_has ls 1 [(0, .int a)] := hl
  refine lv_iload_n hx hb d_M_asNumber_0 rfl (lv_at hl 0 rfl) ?_
  refine lv_if_eq (tgt := 8) hx hb d_M_asNumber_1 (by decide) (fun c1 => ?_) (fun c1 => ?_)
  · refine lv_iconst (v := 0) hx hb d_M_asNumber_8 (by decide) ?_
    exact x_rp (by first | (simp only [x_num, if_pos c1]; done) | rfl | (simp only [x_num, if_pos c1]; rfl)) hx hb hr hlk hP hD hS d_M_asNumber_9
  · refine lv_iconst (v := 1) hx hb d_M_asNumber_4 (by decide) ?_
    refine lv_goto (tgt := 9) hx hb d_M_asNumber_5 (by decide) ?_
    exact x_rp (by first | (simp only [x_num, if_neg c1]; done) | rfl | (simp only [x_num, if_neg c1]; rfl)) hx hb hr hlk hP hD hS d_M_asNumber_9
set_option maxHeartbeats 4000000 in
set_option maxRecDepth 100000 in
theorem c_D_isCached_ok (l : Launch) (D : va_G) (cI cN : ClassId) (ad : Nat → Nat) (z : x_S) (k : Nat) (hk : k < 2) (b : Nat) : x_C l y_D_isCached c_D_isCached 2 (some .boolean) { frames := 0, cells := 0, slots := 0, locals := 0 } D (x_ty cI cN) (x_w cI cN ad z) [.ref (ad (8 + k)), .int (nI b)] (some (.int (x_isC z k b))) (x_w cI cN ad z) := by
  refine x_C.of (by decide) (Nat.le_of_ble_eq_true rfl) ?_
  intro p e s m below meth c hx hb hr hml hts hown hlk A hA hK hS hP hD ls hl
  have hown : s.vm.findClass R_D = some m.cls := hown
  have hl : lv_has ls 2 [(0, .ref (ad (8 + k))), (1, .int (nI b))] := hl
  refine lv_aload_n hx hb d_D_isCached_0 rfl (lv_at hl 0 rfl) ?_
  refine va_get (D := D) (ci := 1) (C := R_D) (T := T_D) (N := 3) hx hb hts in_D hown hK hP (8 + k) (x_hD hk) rfl 2 (by decide) (hts _ gm_81) (fun _ h9 => h9) rfl d_D_isCached_1 ?_
  refine lv_iload_n hx hb d_D_isCached_4 rfl (lv_at hl 1 rfl) ?_
  refine lv_iushr (v := x_sh (z (5 + k) 7) (nI b)) hx hb d_D_isCached_5 rfl ?_
  refine lv_iconst (v := 1) hx hb d_D_isCached_6 (by decide) ?_
  refine lv_iand hx hb d_D_isCached_7 ?_
  refine lv_iconst (v := 1) hx hb d_D_isCached_8 (by decide) ?_
  refine lv_icmp_ne (tgt := 16) hx hb d_D_isCached_9 (by decide) (fun c1 => ?_) (fun c1 => ?_)
  · refine lv_iconst (v := 0) hx hb d_D_isCached_16 (by decide) ?_
    exact x_rz (by first | (simp only [x_isC, if_neg c1]; done) | rfl | (simp only [x_isC, if_neg c1]; rfl)) rfl hx hb hr hlk hP hD hS d_D_isCached_17
  · refine lv_iconst (v := 1) hx hb d_D_isCached_12 (by decide) ?_
    refine lv_goto (tgt := 17) hx hb d_D_isCached_13 (by decide) ?_
    exact x_rz (by first | (simp only [x_isC, if_pos c1]; done) | rfl | (simp only [x_isC, if_pos c1]; rfl)) rfl hx hb hr hlk hP hD hS d_D_isCached_17
set_option maxHeartbeats 4000000 in
set_option maxRecDepth 100000 in
theorem c_D_held_ok (l : Launch) (D : va_G) (cI cN : ClassId) (ad : Nat → Nat) (z : x_S) (k : Nat) (hk : k < 2) (b : Nat) (hb32 : b < 32) : x_C l y_D_held c_D_held 2 (some .int) { frames := 1, cells := 0, slots := 0, locals := 21 } D (x_ty cI cN) (x_w cI cN ad z) [.ref (ad (8 + k)), .int (nI b)] (some (.int (x_held z k b))) (x_w cI cN ad z) := by
  refine x_C.of (by decide) (Nat.le_of_ble_eq_true rfl) ?_
  intro p e s m below meth c hx hb hr hml hts hown hlk A hA hK hS hP hD ls hl
  have hown : s.vm.findClass R_D = some m.cls := hown
  have hl : lv_has ls 2 [(0, .ref (ad (8 + k))), (1, .int (nI b))] := hl
  refine lv_aload_n hx hb d_D_held_0 rfl (lv_at hl 0 rfl) ?_
  refine lv_iload_n hx hb d_D_held_1 rfl (lv_at hl 1 rfl) ?_
  refine x_V (rest := []) ⟨hx, hb, hml, hown, hts⟩ (c_D_isCached_ok l D cI cN ad z k hk b) gm_219 gm_220 gm_221 gm_31 gm_222 ⟨rfl, rfl⟩ hd_D_isCached ⟨Nat.le_of_ble_eq_true rfl, Nat.le_of_ble_eq_true rfl⟩ hK hP hD hS hA (va_recv hK hP (ci := 1) (q0 := (8 + k)) rfl (x_hD hk)) rfl hl.1 rfl (Nat.le_of_ble_eq_true rfl) d_D_held_2 ⟨Nat.le_of_ble_eq_true rfl, Nat.le_of_ble_eq_true rfl⟩ (fun H locs hP hD hS => ?_)
  refine lv_topi (fun r1 er1 => ?_)
  refine lv_if_eq (tgt := 17) hx hb d_D_held_5 (by decide) (fun c2 => ?_) (fun c2 => ?_)
  · refine lv_aload_n hx hb d_D_held_17 rfl (lv_at hl 0 rfl) ?_
    refine va_get (D := D) (ci := 1) (C := R_D) (T := T_D) (N := 3) hx hb hts in_D hown hK hP (8 + k) (x_hD hk) rfl 0 (by decide) (hts _ gm_78) (fun _ h9 => h9) rfl d_D_held_18 ?_
    refine lv_iload_n hx hb d_D_held_21 rfl (lv_at hl 1 rfl) ?_
    refine va_iald (D := D) hx hb hK hP (10 + k) 0 (x_hS hk) rfl (x_in32 hb32) d_D_held_22 ?_
    refine x_top (show z (7 + k) (nI b).toNatClampNeg = z (7 + k) b by rw [x_cl32 hb32]) ?_
    exact x_rp (by subst er1; first | (simp only [x_held, if_pos c2]; done) | rfl | (simp only [x_held, if_pos c2]; rfl)) hx hb hr hlk hP hD hS d_D_held_23
  · refine lv_aload_n hx hb d_D_held_8 rfl (lv_at hl 0 rfl) ?_
    refine va_get (D := D) (ci := 1) (C := R_D) (T := T_D) (N := 3) hx hb hts in_D hown hK hP (8 + k) (x_hD hk) rfl 1 (by decide) (hts _ gm_80) (fun _ h9 => h9) rfl d_D_held_9 ?_
    refine lv_iload_n hx hb d_D_held_12 rfl (lv_at hl 1 rfl) ?_
    refine va_iald (D := D) hx hb hK hP (12 + k) 0 (x_hC hk) rfl (x_in32 hb32) d_D_held_13 ?_
    refine x_top (show z (9 + k) (nI b).toNatClampNeg = z (9 + k) b by rw [x_cl32 hb32]) ?_
    refine lv_goto (tgt := 23) hx hb d_D_held_14 (by decide) ?_
    exact x_rp (by subst er1; first | (simp only [x_held, if_neg c2]; done) | rfl | (simp only [x_held, if_neg c2]; rfl)) hx hb hr hlk hP hD hS d_D_held_23
set_option maxHeartbeats 4000000 in
set_option maxRecDepth 100000 in
theorem c_D_put_ok (l : Launch) (D : va_G) (cI cN : ClassId) (ad : Nat → Nat) (z : x_S) (k : Nat) (hk : k < 2) (b : Nat) (hb32 : b < 32) (v : Int32) : x_C l y_D_put c_D_put 3 none { frames := 0, cells := 0, slots := 0, locals := 0 } D (x_ty cI cN) (x_w cI cN ad z) [.ref (ad (8 + k)), .int (nI b), .int v] (none) (x_w cI cN ad (x_put z k b v)) := by
  refine x_C.of (by decide) (Nat.le_of_ble_eq_true rfl) ?_
  intro p e s m below meth c hx hb hr hml hts hown hlk A hA hK hS hP hD ls hl
  have hown : s.vm.findClass R_D = some m.cls := hown
  have hl : lv_has ls 3 [(0, .ref (ad (8 + k))), (1, .int (nI b)), (2, .int v)] := hl
  refine lv_aload_n hx hb d_D_put_0 rfl (lv_at hl 0 rfl) ?_
  refine va_get (D := D) (ci := 1) (C := R_D) (T := T_D) (N := 3) hx hb hts in_D hown hK hP (8 + k) (x_hD hk) rfl 1 (by decide) (hts _ gm_80) (fun _ h9 => h9) rfl d_D_put_1 ?_
  refine lv_iload_n hx hb d_D_put_4 rfl (lv_at hl 1 rfl) ?_
  refine lv_iload_n hx hb d_D_put_5 rfl (lv_at hl 2 rfl) ?_
  refine va_iast (D := D) hx hb hK hP hD hS (12 + k) 0 (x_hC hk) rfl (x_in32 hb32) d_D_put_6 (fun H locs hP hD hS => ?_)
  obtain ⟨z1, ez1⟩ : ∃ zt_ : x_S, zt_ = x_up z (9 + k) b v := ⟨_, rfl⟩
  rw [x_cl32 hb32] at hP hD
  have hP : va_P D vwCl (x_w cI cN ad z1) H := by rw [ez1, ← x_sC hk b v]; exact hP
  have hD : va_D A (x_w cI cN ad z1) := by rw [ez1, ← x_sC hk b v]; exact hD
  refine lv_aload_n hx hb d_D_put_7 rfl (lv_at hl 0 rfl) ?_
  refine lv_dup hx hb d_D_put_8 rfl ?_
  refine va_get (D := D) (ci := 1) (C := R_D) (T := T_D) (N := 3) hx hb hts in_D hown hK hP (8 + k) (x_hD hk) rfl 2 (by decide) (hts _ gm_81) (fun _ h9 => h9) rfl d_D_put_9 ?_
  refine lv_iconst (v := 1) hx hb d_D_put_12 (by decide) ?_
  refine lv_iload_n hx hb d_D_put_13 rfl (lv_at hl 1 rfl) ?_
  refine lv_ishl hx hb d_D_put_14 ?_
  refine lv_ior hx hb d_D_put_15 ?_
  refine va_put (D := D) (ci := 1) (v := .int ((z1 (5 + k) 7) ||| (1 <<< (nI b &&& 31)))) (ty := .int) (C := R_D) (T := T_D) (N := 3) hx hb hts in_D fy_D fy_D_ok n_D hown hK hP hD hS (8 + k) (x_hD hk) rfl 2 (by decide) (hts _ gm_81) (fun _ h9 => h9) rfl (by decide +kernel) rfl rfl (Nat.le_of_ble_eq_true rfl) d_D_put_16 (fun H locs hP hD hS => ?_)
  obtain ⟨z2, ez2⟩ : ∃ zt_ : x_S, zt_ = x_up z1 (5 + k) 7 ((z1 (5 + k) 7) ||| (1 <<< (nI b &&& 31))) := ⟨_, rfl⟩
  have hP : va_P D vwCl (x_w cI cN ad z2) H := by rw [ez2, ← x_sD hk ((z1 (5 + k) 7) ||| (1 <<< (nI b &&& 31)))]; exact hP
  have hD : va_D A (x_w cI cN ad z2) := by rw [ez2, ← x_sD hk ((z1 (5 + k) 7) ||| (1 <<< (nI b &&& 31)))]; exact hD
  exact x_rv (w := x_w cI cN ad) (by subst ez1 ez2; first | (simp only [x_put]; done) | rfl | (simp only [x_put]; rfl)) hx hb hr hlk hP hD hS d_D_put_19
set_option maxHeartbeats 4000000 in
set_option maxRecDepth 100000 in
theorem c_N_mayAskForLease_ok (l : Launch) (D : va_G) (cI cN : ClassId) (ad : Nat → Nat) (z : x_S) (k : Nat) (hk : k < 2) : x_C l y_N_mayAskForLease c_N_mayAskForLease 1 (some .boolean) { frames := 0, cells := 0, slots := 0, locals := 0 } D (x_ty cI cN) (x_w cI cN ad z) [.ref (ad (6 + k))] (some (.int (x_may z k))) (x_w cI cN ad z) := by
  refine x_C.of (by decide) (Nat.le_of_ble_eq_true rfl) ?_
  intro p e s m below meth c hx hb hr hml hts hown hlk A hA hK hS hP hD ls hl
  have hown : s.vm.findClass R_N = some m.cls := hown
  have hl : lv_has ls 1 [(0, .ref (ad (6 + k)))] := hl
  refine lv_aload_n hx hb d_N_mayAskForLease_0 rfl (lv_at hl 0 rfl) ?_
  refine va_get (D := D) (ci := 2) (C := R_N) (T := T_N) (N := 8) hx hb hts in_N hown hK hP (6 + k) (x_hN hk) rfl 1 (by decide) (hts _ gm_91) (fun _ h9 => h9) rfl d_N_mayAskForLease_1 ?_
  refine lv_if_eq (tgt := 25) hx hb d_N_mayAskForLease_4 (by decide) (fun c1 => ?_) (fun c1 => ?_)
  · refine lv_iconst (v := 0) hx hb d_N_mayAskForLease_25 (by decide) ?_
    exact x_rz (by first | (simp only [x_may, if_pos c1]; done) | rfl | (simp only [x_may, if_pos c1]; rfl)) rfl hx hb hr hlk hP hD hS d_N_mayAskForLease_26
  · refine lv_aload_n hx hb d_N_mayAskForLease_7 rfl (lv_at hl 0 rfl) ?_
    refine va_get (D := D) (ci := 2) (C := R_N) (T := T_N) (N := 8) hx hb hts in_N hown hK hP (6 + k) (x_hN hk) rfl 2 (by decide) (hts _ gm_93) (fun _ h9 => h9) rfl d_N_mayAskForLease_8 ?_
    refine lv_if_ne (tgt := 25) hx hb d_N_mayAskForLease_11 (by decide) (fun c2 => ?_) (fun c2 => ?_)
    · refine lv_iconst (v := 0) hx hb d_N_mayAskForLease_25 (by decide) ?_
      exact x_rz (by first | (simp only [x_may, if_neg c1, if_neg c2]; done) | rfl | (simp only [x_may, if_neg c1, if_neg c2]; rfl)) rfl hx hb hr hlk hP hD hS d_N_mayAskForLease_26
    · refine lv_aload_n hx hb d_N_mayAskForLease_14 rfl (lv_at hl 0 rfl) ?_
      refine va_get (D := D) (ci := 2) (C := R_N) (T := T_N) (N := 8) hx hb hts in_N hown hK hP (6 + k) (x_hN hk) rfl 7 (by decide) (hts _ gm_103) (fun _ h9 => h9) rfl d_N_mayAskForLease_15 ?_
      refine lv_if_eq (tgt := 25) hx hb d_N_mayAskForLease_18 (by decide) (fun c3 => ?_) (fun c3 => ?_)
      · refine lv_iconst (v := 0) hx hb d_N_mayAskForLease_25 (by decide) ?_
        exact x_rz (by first | (simp only [x_may, if_neg c1, if_pos c2, if_pos c3]; done) | rfl | (simp only [x_may, if_neg c1, if_pos c2, if_pos c3]; rfl)) rfl hx hb hr hlk hP hD hS d_N_mayAskForLease_26
      · refine lv_iconst (v := 1) hx hb d_N_mayAskForLease_21 (by decide) ?_
        refine lv_goto (tgt := 26) hx hb d_N_mayAskForLease_22 (by decide) ?_
        exact x_rz (by first | (simp only [x_may, if_neg c1, if_pos c2, if_neg c3]; done) | rfl | (simp only [x_may, if_neg c1, if_pos c2, if_neg c3]; rfl)) rfl hx hb hr hlk hP hD hS d_N_mayAskForLease_26
set_option maxHeartbeats 4000000 in
set_option maxRecDepth 100000 in
theorem c_T_isRunning_ok (l : Launch) (D : va_G) (cI cN : ClassId) (ad : Nat → Nat) (z : x_S)  : x_C l y_T_isRunning c_T_isRunning 1 (some .boolean) { frames := 0, cells := 0, slots := 0, locals := 0 } D (x_ty cI cN) (x_w cI cN ad z) [.ref (ad 2)] (some (.int (x_run z))) (x_w cI cN ad z) := by
  refine x_C.of (by decide) (Nat.le_of_ble_eq_true rfl) ?_
  intro p e s m below meth c hx hb hr hml hts hown hlk A hA hK hS hP hD ls hl
  have hown : s.vm.findClass R_T = some m.cls := hown
  have hl : lv_has ls 1 [(0, .ref (ad 2))] := hl
  refine lv_aload_n hx hb d_T_isRunning_0 rfl (lv_at hl 0 rfl) ?_
  refine va_get (D := D) (ci := 3) (C := R_T) (T := T_T) (N := 5) hx hb hts in_T hown hK hP 2 x_hT rfl 3 (by decide) (hts _ gm_139) (fun _ h9 => h9) rfl d_T_isRunning_1 ?_
  refine lv_iconst (v := 2) hx hb d_T_isRunning_4 (by decide) ?_
  refine lv_icmp_eq (tgt := 23) hx hb d_T_isRunning_5 (by decide) (fun c1 => ?_) (fun c1 => ?_)
  · refine lv_iconst (v := 0) hx hb d_T_isRunning_23 (by decide) ?_
    exact x_rz (by first | (simp only [x_run, if_pos c1]; done) | rfl | (simp only [x_run, if_pos c1]; rfl)) rfl hx hb hr hlk hP hD hS d_T_isRunning_24
  · refine lv_aload_n hx hb d_T_isRunning_8 rfl (lv_at hl 0 rfl) ?_
    refine va_get (D := D) (ci := 3) (C := R_T) (T := T_T) (N := 5) hx hb hts in_T hown hK hP 2 x_hT rfl 4 (by decide) (hts _ gm_141) (fun _ h9 => h9) rfl d_T_isRunning_9 ?_
    refine lv_aload_n hx hb d_T_isRunning_12 rfl (lv_at hl 0 rfl) ?_
    refine va_get (D := D) (ci := 3) (C := R_T) (T := T_T) (N := 5) hx hb hts in_T hown hK hP 2 x_hT rfl 2 (by decide) (hts _ gm_137) (fun _ h9 => h9) rfl d_T_isRunning_13 ?_
    refine lv_icmp_le (tgt := 23) hx hb d_T_isRunning_16 (by decide) (fun c2 => ?_) (fun c2 => ?_)
    · refine lv_iconst (v := 0) hx hb d_T_isRunning_23 (by decide) ?_
      exact x_rz (by first | (simp only [x_run, if_neg c1, if_pos c2]; done) | rfl | (simp only [x_run, if_neg c1, if_pos c2]; rfl)) rfl hx hb hr hlk hP hD hS d_T_isRunning_24
    · refine lv_iconst (v := 1) hx hb d_T_isRunning_19 (by decide) ?_
      refine lv_goto (tgt := 24) hx hb d_T_isRunning_20 (by decide) ?_
      exact x_rz (by first | (simp only [x_run, if_neg c1, if_neg c2]; done) | rfl | (simp only [x_run, if_neg c1, if_neg c2]; rfl)) rfl hx hb hr hlk hP hD hS d_T_isRunning_24
set_option maxHeartbeats 4000000 in
set_option maxRecDepth 100000 in
theorem c_T_isLentTo_ok (l : Launch) (D : va_G) (cI cN : ClassId) (ad : Nat → Nat) (z : x_S) (n : Int32) : x_C l y_T_isLentTo c_T_isLentTo 2 (some .boolean) { frames := 1, cells := 0, slots := 0, locals := 20 } D (x_ty cI cN) (x_w cI cN ad z) [.ref (ad 2), .int n] (some (.int (x_lent z n))) (x_w cI cN ad z) := by
  refine x_C.of (by decide) (Nat.le_of_ble_eq_true rfl) ?_
  intro p e s m below meth c hx hb hr hml hts hown hlk A hA hK hS hP hD ls hl
  have hown : s.vm.findClass R_T = some m.cls := hown
  have hl : lv_has ls 2 [(0, .ref (ad 2)), (1, .int n)] := hl
  refine lv_aload_n hx hb d_T_isLentTo_0 rfl (lv_at hl 0 rfl) ?_
  refine va_get (D := D) (ci := 3) (C := R_T) (T := T_T) (N := 5) hx hb hts in_T hown hK hP 2 x_hT rfl 3 (by decide) (hts _ gm_139) (fun _ h9 => h9) rfl d_T_isLentTo_1 ?_
  refine lv_iload_n hx hb d_T_isLentTo_4 rfl (lv_at hl 1 rfl) ?_
  refine lv_icmp_ne (tgt := 19) hx hb d_T_isLentTo_5 (by decide) (fun c1 => ?_) (fun c1 => ?_)
  · refine lv_iconst (v := 0) hx hb d_T_isLentTo_19 (by decide) ?_
    exact x_rz (by first | (simp only [x_lent, if_neg c1]; done) | rfl | (simp only [x_lent, if_neg c1]; rfl)) rfl hx hb hr hlk hP hD hS d_T_isLentTo_20
  · refine lv_aload_n hx hb d_T_isLentTo_8 rfl (lv_at hl 0 rfl) ?_
    refine x_V (rest := []) ⟨hx, hb, hml, hown, hts⟩ (c_T_isRunning_ok l D cI cN ad z) gm_341 gm_342 gm_343 gm_32 gm_344 ⟨rfl, rfl⟩ hd_T_isRunning ⟨Nat.le_of_ble_eq_true rfl, Nat.le_of_ble_eq_true rfl⟩ hK hP hD hS hA (va_recv hK hP (ci := 3) (q0 := 2) rfl x_hT) rfl hl.1 rfl (Nat.le_of_ble_eq_true rfl) d_T_isLentTo_9 ⟨Nat.le_of_ble_eq_true rfl, Nat.le_of_ble_eq_true rfl⟩ (fun H locs hP hD hS => ?_)
    refine lv_topi (fun r2 er2 => ?_)
    refine lv_if_eq (tgt := 19) hx hb d_T_isLentTo_12 (by decide) (fun c3 => ?_) (fun c3 => ?_)
    · refine lv_iconst (v := 0) hx hb d_T_isLentTo_19 (by decide) ?_
      exact x_rz (by subst er2; first | (simp only [x_lent, if_pos c1, if_pos c3]; done) | rfl | (simp only [x_lent, if_pos c1, if_pos c3]; rfl)) rfl hx hb hr hlk hP hD hS d_T_isLentTo_20
    · refine lv_iconst (v := 1) hx hb d_T_isLentTo_15 (by decide) ?_
      refine lv_goto (tgt := 20) hx hb d_T_isLentTo_16 (by decide) ?_
      exact x_rz (by subst er2; first | (simp only [x_lent, if_pos c1, if_neg c3]; done) | rfl | (simp only [x_lent, if_pos c1, if_neg c3]; rfl)) rfl hx hb hr hlk hP hD hS d_T_isLentTo_20
set_option maxHeartbeats 4000000 in
set_option maxRecDepth 100000 in
theorem c_T_extendLease_ok (l : Launch) (D : va_G) (cI cN : ClassId) (ad : Nat → Nat) (z : x_S)  : x_C l y_T_extendLease c_T_extendLease 1 none { frames := 0, cells := 0, slots := 0, locals := 0 } D (x_ty cI cN) (x_w cI cN ad z) [.ref (ad 2)] (none) (x_w cI cN ad (x_ext z)) := by
  refine x_C.of (by decide) (Nat.le_of_ble_eq_true rfl) ?_
  intro p e s m below meth c hx hb hr hml hts hown hlk A hA hK hS hP hD ls hl
  have hown : s.vm.findClass R_T = some m.cls := hown
  have hl : lv_has ls 1 [(0, .ref (ad 2))] := hl
  refine lv_aload_n hx hb d_T_extendLease_0 rfl (lv_at hl 0 rfl) ?_
  refine lv_aload_n hx hb d_T_extendLease_1 rfl (lv_at hl 0 rfl) ?_
  refine va_get (D := D) (ci := 3) (C := R_T) (T := T_T) (N := 5) hx hb hts in_T hown hK hP 2 x_hT rfl 2 (by decide) (hts _ gm_137) (fun _ h9 => h9) rfl d_T_extendLease_2 ?_
  refine lv_aload_n hx hb d_T_extendLease_5 rfl (lv_at hl 0 rfl) ?_
  refine va_get (D := D) (ci := 3) (C := R_T) (T := T_T) (N := 5) hx hb hts in_T hown hK hP 2 x_hT rfl 0 (by decide) (hts _ gm_134) (fun _ h9 => h9) rfl d_T_extendLease_6 ?_
  refine lv_iadd hx hb d_T_extendLease_9 ?_
  refine va_put (D := D) (ci := 3) (v := .int ((z 1 2) + (z 1 0))) (ty := .int) (C := R_T) (T := T_T) (N := 5) hx hb hts in_T fy_T fy_T_ok n_T hown hK hP hD hS 2 x_hT rfl 4 (by decide) (hts _ gm_141) (fun _ h9 => h9) rfl (by decide +kernel) rfl rfl (Nat.le_of_ble_eq_true rfl) d_T_extendLease_10 (fun H locs hP hD hS => ?_)
  obtain ⟨z1, ez1⟩ : ∃ zt_ : x_S, zt_ = x_up z 1 4 ((z 1 2) + (z 1 0)) := ⟨_, rfl⟩
  have hP : va_P D vwCl (x_w cI cN ad z1) H := by rw [ez1, ← x_sT (i := 4) (by decide) ((z 1 2) + (z 1 0))]; exact hP
  have hD : va_D A (x_w cI cN ad z1) := by rw [ez1, ← x_sT (i := 4) (by decide) ((z 1 2) + (z 1 0))]; exact hD
  exact x_rv (w := x_w cI cN ad) (by subst ez1; first | (simp only [x_ext]; done) | rfl | (simp only [x_ext]; rfl)) hx hb hr hlk hP hD hS d_T_extendLease_13
set_option maxHeartbeats 4000000 in
set_option maxRecDepth 100000 in
theorem c_T_lendTo_ok (l : Launch) (D : va_G) (cI cN : ClassId) (ad : Nat → Nat) (z : x_S) (n : Int32) : x_C l y_T_lendTo c_T_lendTo 2 none { frames := 1, cells := 0, slots := 0, locals := 20 } D (x_ty cI cN) (x_w cI cN ad z) [.ref (ad 2), .int n] (none) (x_w cI cN ad (x_lend z n)) := by
  refine x_C.of (by decide) (Nat.le_of_ble_eq_true rfl) ?_
  intro p e s m below meth c hx hb hr hml hts hown hlk A hA hK hS hP hD ls hl
  have hown : s.vm.findClass R_T = some m.cls := hown
  have hl : lv_has ls 2 [(0, .ref (ad 2)), (1, .int n)] := hl
  refine lv_aload_n hx hb d_T_lendTo_0 rfl (lv_at hl 0 rfl) ?_
  refine lv_iload_n hx hb d_T_lendTo_1 rfl (lv_at hl 1 rfl) ?_
  refine va_put (D := D) (ci := 3) (v := .int n) (ty := .int) (C := R_T) (T := T_T) (N := 5) hx hb hts in_T fy_T fy_T_ok n_T hown hK hP hD hS 2 x_hT rfl 3 (by decide) (hts _ gm_139) (fun _ h9 => h9) rfl (by decide +kernel) rfl rfl (Nat.le_of_ble_eq_true rfl) d_T_lendTo_2 (fun H locs hP hD hS => ?_)
  obtain ⟨z1, ez1⟩ : ∃ zt_ : x_S, zt_ = x_up z 1 3 n := ⟨_, rfl⟩
  have hP : va_P D vwCl (x_w cI cN ad z1) H := by rw [ez1, ← x_sT (i := 3) (by decide) n]; exact hP
  have hD : va_D A (x_w cI cN ad z1) := by rw [ez1, ← x_sT (i := 3) (by decide) n]; exact hD
  refine lv_aload_n hx hb d_T_lendTo_5 rfl (lv_at hl 0 rfl) ?_
  refine x_V (rest := []) ⟨hx, hb, hml, hown, hts⟩ (c_T_extendLease_ok l D cI cN ad z1) gm_349 gm_350 gm_351 gm_32 gm_352 ⟨rfl, rfl⟩ hd_T_extendLease ⟨Nat.le_of_ble_eq_true rfl, Nat.le_of_ble_eq_true rfl⟩ hK hP hD hS hA (va_recv hK hP (ci := 3) (q0 := 2) rfl x_hT) rfl hl.1 rfl (Nat.le_of_ble_eq_true rfl) d_T_lendTo_6 ⟨Nat.le_of_ble_eq_true rfl, Nat.le_of_ble_eq_true rfl⟩ (fun H locs hP hD hS => ?_)
  obtain ⟨z2, ez2⟩ : ∃ zt_ : x_S, zt_ = x_ext z1 := ⟨_, rfl⟩
  rw [← ez2] at hP hD
  exact x_rv (w := x_w cI cN ad) (by subst ez1 ez2; first | (simp only [x_lend]; done) | rfl | (simp only [x_lend]; rfl)) hx hb hr hlk hP hD hS d_T_lendTo_9
set_option maxHeartbeats 4000000 in
set_option maxRecDepth 100000 in
theorem c_M_findPrimary_ok (l : Launch) (D : va_G) (cI cN : ClassId) (ad : Nat → Nat) (z : x_S)  : x_C l y_M_findPrimary c_M_findPrimary 1 (some .int) { frames := 0, cells := 0, slots := 0, locals := 0 } D (x_ty cI cN) (x_w cI cN ad z) [.ref (ad 0)] (some (.int (x_findP z))) (x_w cI cN ad z) := by
  refine x_C.of (by decide) (Nat.le_of_ble_eq_true rfl) ?_
  intro p e s m below meth c hx hb hr hml hts hown hlk A hA hK hS hP hD ls hl
  have hown : s.vm.findClass R_M = some m.cls := hown
  have hl : lv_has ls 1 [(0, .ref (ad 0))] := hl
  refine lv_aload_n hx hb d_M_findPrimary_0 rfl (lv_at hl 0 rfl) ?_
  refine va_get (D := D) (ci := 4) (C := R_M) (T := T_M) (N := 7) hx hb hts in_M hown hK hP 0 x_hM rfl 0 (by decide) (hts _ gm_154) (fun _ h9 => h9) rfl d_M_findPrimary_1 ?_
  refine lv_iconst (v := 0) hx hb d_M_findPrimary_4 (by decide) ?_
  refine x_top (show (0 : Int32) = nI 0 from rfl) ?_
  refine va_aldq (D := D) hx hb hK hP 1 1 x_hA rfl (x_in2 (by decide)) d_M_findPrimary_5 ?_
  refine x_topv x_nf_0 ?_
  refine va_get (D := D) (ci := 2) (C := R_N) (T := T_N) (N := 8) hx hb hts in_N hown hK hP 6 x_hN0 rfl 2 (by decide) (hts _ gm_94) (fun _ h9 => h9) rfl d_M_findPrimary_6 ?_
  refine lv_if_eq (tgt := 14) hx hb d_M_findPrimary_9 (by decide) (fun c1 => ?_) (fun c1 => ?_)
  · refine lv_aload_n hx hb d_M_findPrimary_14 rfl (lv_at hl 0 rfl) ?_
    refine va_get (D := D) (ci := 4) (C := R_M) (T := T_M) (N := 7) hx hb hts in_M hown hK hP 0 x_hM rfl 0 (by decide) (hts _ gm_154) (fun _ h9 => h9) rfl d_M_findPrimary_15 ?_
    refine lv_iconst (v := 1) hx hb d_M_findPrimary_18 (by decide) ?_
    refine x_top (show (1 : Int32) = nI 1 from rfl) ?_
    refine va_aldq (D := D) hx hb hK hP 1 1 x_hA rfl (x_in2 (by decide)) d_M_findPrimary_19 ?_
    refine x_topv x_nf_1 ?_
    refine va_get (D := D) (ci := 2) (C := R_N) (T := T_N) (N := 8) hx hb hts in_N hown hK hP 7 x_hN1 rfl 2 (by decide) (hts _ gm_94) (fun _ h9 => h9) rfl d_M_findPrimary_20 ?_
    refine lv_if_eq (tgt := 30) hx hb d_M_findPrimary_23 (by decide) (fun c2 => ?_) (fun c2 => ?_)
    · refine lv_iconst (v := 2) hx hb d_M_findPrimary_30 (by decide) ?_
      exact x_rp (by first | (simp only [x_findP, if_pos c1, if_pos c2]; done) | rfl | (simp only [x_findP, if_pos c1, if_pos c2]; rfl)) hx hb hr hlk hP hD hS d_M_findPrimary_31
    · refine lv_iconst (v := 1) hx hb d_M_findPrimary_26 (by decide) ?_
      refine lv_goto (tgt := 31) hx hb d_M_findPrimary_27 (by decide) ?_
      exact x_rp (by first | (simp only [x_findP, if_pos c1, if_neg c2]; done) | rfl | (simp only [x_findP, if_pos c1, if_neg c2]; rfl)) hx hb hr hlk hP hD hS d_M_findPrimary_31
  · refine lv_iconst (v := 0) hx hb d_M_findPrimary_12 (by decide) ?_
    exact x_rp (by first | (simp only [x_findP, if_neg c1]; done) | rfl | (simp only [x_findP, if_neg c1]; rfl)) hx hb hr hlk hP hD hS d_M_findPrimary_13
set_option maxHeartbeats 4000000 in
set_option maxRecDepth 100000 in
theorem c_M_makeSecondary_ok (l : Launch) (D : va_G) (cI cN : ClassId) (ad : Nat → Nat) (z : x_S) (k : Nat) (hk : k < 2) : x_C l y_M_makeSecondary c_M_makeSecondary 2 none { frames := 0, cells := 0, slots := 0, locals := 0 } D (x_ty cI cN) (x_w cI cN ad z) [.ref (ad 0), .int (nI k)] (none) (x_w cI cN ad (x_sec z k)) := by
  refine x_C.of (by decide) (Nat.le_of_ble_eq_true rfl) ?_
  intro p e s m below meth c hx hb hr hml hts hown hlk A hA hK hS hP hD ls hl
  have hown : s.vm.findClass R_M = some m.cls := hown
  have hl : lv_has ls 2 [(0, .ref (ad 0)), (1, .int (nI k))] := hl
  refine lv_aload_n hx hb d_M_makeSecondary_0 rfl (lv_at hl 0 rfl) ?_
  refine va_get (D := D) (ci := 4) (C := R_M) (T := T_M) (N := 7) hx hb hts in_M hown hK hP 0 x_hM rfl 0 (by decide) (hts _ gm_154) (fun _ h9 => h9) rfl d_M_makeSecondary_1 ?_
  refine lv_iload_n hx hb d_M_makeSecondary_4 rfl (lv_at hl 1 rfl) ?_
  refine va_aldq (D := D) hx hb hK hP 1 1 x_hA rfl (x_in2 hk) d_M_makeSecondary_5 ?_
  refine x_topv (x_nf_at hk) ?_
  refine va_get (D := D) (ci := 2) (C := R_N) (T := T_N) (N := 8) hx hb hts in_N hown hK hP (6 + k) (x_hN hk) rfl 2 (by decide) (hts _ gm_94) (fun _ h9 => h9) rfl d_M_makeSecondary_6 ?_
  refine lv_if_eq (tgt := 30) hx hb d_M_makeSecondary_9 (by decide) (fun c1 => ?_) (fun c1 => ?_)
  · exact x_rv (w := x_w cI cN ad) (by first | (simp only [x_sec, if_pos c1]; done) | rfl | (simp only [x_sec, if_pos c1]; rfl)) hx hb hr hlk hP hD hS d_M_makeSecondary_30
  · refine lv_aload_n hx hb d_M_makeSecondary_12 rfl (lv_at hl 0 rfl) ?_
    refine va_get (D := D) (ci := 4) (C := R_M) (T := T_M) (N := 7) hx hb hts in_M hown hK hP 0 x_hM rfl 0 (by decide) (hts _ gm_154) (fun _ h9 => h9) rfl d_M_makeSecondary_13 ?_
    refine lv_iload_n hx hb d_M_makeSecondary_16 rfl (lv_at hl 1 rfl) ?_
    refine va_aldq (D := D) hx hb hK hP 1 1 x_hA rfl (x_in2 hk) d_M_makeSecondary_17 ?_
    refine x_topv (x_nf_at hk) ?_
    refine lv_iconst (v := 0) hx hb d_M_makeSecondary_18 (by decide) ?_
    refine va_put (D := D) (ci := 2) (v := .int 0) (ty := .boolean) (C := R_N) (T := T_N) (N := 8) hx hb hts in_N fy_N fy_N_ok n_N hown hK hP hD hS (6 + k) (x_hN hk) rfl 2 (by decide) (hts _ gm_94) (fun _ h9 => h9) rfl (by decide +kernel) rfl rfl (Nat.le_of_ble_eq_true rfl) d_M_makeSecondary_19 (fun H locs hP hD hS => ?_)
    obtain ⟨z2, ez2⟩ : ∃ zt_ : x_S, zt_ = x_up z (5 + k) 1 0 := ⟨_, rfl⟩
    have hP : va_P D vwCl (x_w cI cN ad z2) H := by rw [ez2, ← x_sN (i := 1) hk (by decide) 0]; exact hP
    have hD : va_D A (x_w cI cN ad z2) := by rw [ez2, ← x_sN (i := 1) hk (by decide) 0]; exact hD
    refine lv_aload_n hx hb d_M_makeSecondary_22 rfl (lv_at hl 0 rfl) ?_
    refine va_get (D := D) (ci := 4) (C := R_M) (T := T_M) (N := 7) hx hb hts in_M hown hK hP 0 x_hM rfl 2 (by decide) (hts _ gm_156) (fun _ h9 => h9) rfl d_M_makeSecondary_23 ?_
    refine lv_iconst (v := 0) hx hb d_M_makeSecondary_26 (by decide) ?_
    refine va_put (D := D) (ci := 0) (v := .int 0) (ty := .int) (C := R_B) (T := T_B) (N := 3) hx hb hts in_B fy_B fy_B_ok n_B hown hK hP hD hS 3 x_hB rfl 2 (by decide) (hts _ gm_58) (fun _ h9 => h9) rfl (by decide +kernel) rfl rfl (Nat.le_of_ble_eq_true rfl) d_M_makeSecondary_27 (fun H locs hP hD hS => ?_)
    obtain ⟨z3, ez3⟩ : ∃ zt_ : x_S, zt_ = x_up z2 2 0 0 := ⟨_, rfl⟩
    have hP : va_P D vwCl (x_w cI cN ad z3) H := by rw [ez3, ← x_sB 0]; exact hP
    have hD : va_D A (x_w cI cN ad z3) := by rw [ez3, ← x_sB 0]; exact hD
    exact x_rv (w := x_w cI cN ad) (by subst ez2 ez3; first | (simp only [x_sec, if_neg c1]; done) | rfl | (simp only [x_sec, if_neg c1]; rfl)) hx hb hr hlk hP hD hS d_M_makeSecondary_30
set_option maxHeartbeats 4000000 in
set_option maxRecDepth 100000 in
theorem c_M_disconnect_ok (l : Launch) (D : va_G) (cI cN : ClassId) (ad : Nat → Nat) (z : x_S)  : x_C l y_M_disconnect c_M_disconnect 1 none { frames := 0, cells := 0, slots := 0, locals := 0 } D (x_ty cI cN) (x_w cI cN ad z) [.ref (ad 0)] (none) (x_w cI cN ad (x_disc z)) := by
  refine x_C.of (by decide) (Nat.le_of_ble_eq_true rfl) ?_
  intro p e s m below meth c hx hb hr hml hts hown hlk A hA hK hS hP hD ls hl
  have hown : s.vm.findClass R_M = some m.cls := hown
  have hl : lv_has ls 1 [(0, .ref (ad 0))] := hl
  refine lv_aload_n hx hb d_M_disconnect_0 rfl (lv_at hl 0 rfl) ?_
  refine lv_iconst (v := 0) hx hb d_M_disconnect_1 (by decide) ?_
  refine va_put (D := D) (ci := 4) (v := .int 0) (ty := .boolean) (C := R_M) (T := T_M) (N := 7) hx hb hts in_M fy_M fy_M_ok n_M hown hK hP hD hS 0 x_hM rfl 4 (by decide) (hts _ gm_158) (fun _ h9 => h9) rfl (by decide +kernel) rfl rfl (Nat.le_of_ble_eq_true rfl) d_M_disconnect_2 (fun H locs hP hD hS => ?_)
  obtain ⟨z1, ez1⟩ : ∃ zt_ : x_S, zt_ = x_up z 0 1 0 := ⟨_, rfl⟩
  have hP : va_P D vwCl (x_w cI cN ad z1) H := by rw [ez1, ← x_sM (i := 1) (by decide) 0]; exact hP
  have hD : va_D A (x_w cI cN ad z1) := by rw [ez1, ← x_sM (i := 1) (by decide) 0]; exact hD
  refine lv_aload_n hx hb d_M_disconnect_5 rfl (lv_at hl 0 rfl) ?_
  refine lv_iconst (v := 0) hx hb d_M_disconnect_6 (by decide) ?_
  refine va_put (D := D) (ci := 4) (v := .int 0) (ty := .boolean) (C := R_M) (T := T_M) (N := 7) hx hb hts in_M fy_M fy_M_ok n_M hown hK hP hD hS 0 x_hM rfl 5 (by decide) (hts _ gm_159) (fun _ h9 => h9) rfl (by decide +kernel) rfl rfl (Nat.le_of_ble_eq_true rfl) d_M_disconnect_7 (fun H locs hP hD hS => ?_)
  obtain ⟨z2, ez2⟩ : ∃ zt_ : x_S, zt_ = x_up z1 0 2 0 := ⟨_, rfl⟩
  have hP : va_P D vwCl (x_w cI cN ad z2) H := by rw [ez2, ← x_sM (i := 2) (by decide) 0]; exact hP
  have hD : va_D A (x_w cI cN ad z2) := by rw [ez2, ← x_sM (i := 2) (by decide) 0]; exact hD
  exact x_rv (w := x_w cI cN ad) (by subst ez1 ez2; first | (simp only [x_disc]; done) | rfl | (simp only [x_disc]; rfl)) hx hb hr hlk hP hD hS d_M_disconnect_10
set_option maxHeartbeats 4000000 in
set_option maxRecDepth 100000 in
theorem c_M_isUnpaired_ok (l : Launch) (D : va_G) (cI cN : ClassId) (ad : Nat → Nat) (z : x_S) (k : Nat) (hk : k < 2) : x_C l y_M_isUnpaired c_M_isUnpaired 2 (some .boolean) { frames := 0, cells := 0, slots := 0, locals := 0 } D (x_ty cI cN) (x_w cI cN ad z) [.ref (ad 0), .int (nI k)] (some (.int (x_unp z k))) (x_w cI cN ad z) := by
  refine x_C.of (by decide) (Nat.le_of_ble_eq_true rfl) ?_
  intro p e s m below meth c hx hb hr hml hts hown hlk A hA hK hS hP hD ls hl
  have hown : s.vm.findClass R_M = some m.cls := hown
  have hl : lv_has ls 2 [(0, .ref (ad 0)), (1, .int (nI k))] := hl
  refine lv_aload_n hx hb d_M_isUnpaired_0 rfl (lv_at hl 0 rfl) ?_
  refine va_get (D := D) (ci := 4) (C := R_M) (T := T_M) (N := 7) hx hb hts in_M hown hK hP 0 x_hM rfl 4 (by decide) (hts _ gm_158) (fun _ h9 => h9) rfl d_M_isUnpaired_1 ?_
  refine lv_if_ne (tgt := 23) hx hb d_M_isUnpaired_4 (by decide) (fun c1 => ?_) (fun c1 => ?_)
  · refine lv_iconst (v := 0) hx hb d_M_isUnpaired_23 (by decide) ?_
    exact x_rz (by first | (simp only [x_unp, if_neg c1]; done) | rfl | (simp only [x_unp, if_neg c1]; rfl)) rfl hx hb hr hlk hP hD hS d_M_isUnpaired_24
  · refine lv_aload_n hx hb d_M_isUnpaired_7 rfl (lv_at hl 0 rfl) ?_
    refine va_get (D := D) (ci := 4) (C := R_M) (T := T_M) (N := 7) hx hb hts in_M hown hK hP 0 x_hM rfl 0 (by decide) (hts _ gm_154) (fun _ h9 => h9) rfl d_M_isUnpaired_8 ?_
    refine lv_iload_n hx hb d_M_isUnpaired_11 rfl (lv_at hl 1 rfl) ?_
    refine va_aldq (D := D) hx hb hK hP 1 1 x_hA rfl (x_in2 hk) d_M_isUnpaired_12 ?_
    refine x_topv (x_nf_at hk) ?_
    refine va_get (D := D) (ci := 2) (C := R_N) (T := T_N) (N := 8) hx hb hts in_N hown hK hP (6 + k) (x_hN hk) rfl 5 (by decide) (hts _ gm_100) (fun _ h9 => h9) rfl d_M_isUnpaired_13 ?_
    refine lv_if_ne (tgt := 23) hx hb d_M_isUnpaired_16 (by decide) (fun c2 => ?_) (fun c2 => ?_)
    · refine lv_iconst (v := 0) hx hb d_M_isUnpaired_23 (by decide) ?_
      exact x_rz (by first | (simp only [x_unp, if_pos c1, if_neg c2]; done) | rfl | (simp only [x_unp, if_pos c1, if_neg c2]; rfl)) rfl hx hb hr hlk hP hD hS d_M_isUnpaired_24
    · refine lv_iconst (v := 1) hx hb d_M_isUnpaired_19 (by decide) ?_
      refine lv_goto (tgt := 24) hx hb d_M_isUnpaired_20 (by decide) ?_
      exact x_rz (by first | (simp only [x_unp, if_pos c1, if_pos c2]; done) | rfl | (simp only [x_unp, if_pos c1, if_pos c2]; rfl)) rfl hx hb hr hlk hP hD hS d_M_isUnpaired_24
set_option maxHeartbeats 4000000 in
set_option maxRecDepth 100000 in
theorem c_M_goAlone_ok (l : Launch) (D : va_G) (cI cN : ClassId) (ad : Nat → Nat) (z : x_S) (k : Nat) (hk : k < 2) : x_C l y_M_goAlone c_M_goAlone 2 none { frames := 0, cells := 0, slots := 0, locals := 0 } D (x_ty cI cN) (x_w cI cN ad z) [.ref (ad 0), .int (nI k)] (none) (x_w cI cN ad (x_goAl z k)) := by
  refine x_C.of (by decide) (Nat.le_of_ble_eq_true rfl) ?_
  intro p e s m below meth c hx hb hr hml hts hown hlk A hA hK hS hP hD ls hl
  have hown : s.vm.findClass R_M = some m.cls := hown
  have hl : lv_has ls 2 [(0, .ref (ad 0)), (1, .int (nI k))] := hl
  refine lv_aload_n hx hb d_M_goAlone_0 rfl (lv_at hl 0 rfl) ?_
  refine va_get (D := D) (ci := 4) (C := R_M) (T := T_M) (N := 7) hx hb hts in_M hown hK hP 0 x_hM rfl 1 (by decide) (hts _ gm_155) (fun _ h9 => h9) rfl d_M_goAlone_1 ?_
  refine lv_dup hx hb d_M_goAlone_4 rfl ?_
  refine va_get (D := D) (ci := 3) (C := R_T) (T := T_T) (N := 5) hx hb hts in_T hown hK hP 2 x_hT rfl 1 (by decide) (hts _ gm_136) (fun _ h9 => h9) rfl d_M_goAlone_5 ?_
  refine lv_iconst (v := 1) hx hb d_M_goAlone_8 (by decide) ?_
  refine lv_iadd hx hb d_M_goAlone_9 ?_
  refine va_put (D := D) (ci := 3) (v := .int ((z 1 1) + 1)) (ty := .int) (C := R_T) (T := T_T) (N := 5) hx hb hts in_T fy_T fy_T_ok n_T hown hK hP hD hS 2 x_hT rfl 1 (by decide) (hts _ gm_136) (fun _ h9 => h9) rfl (by decide +kernel) rfl rfl (Nat.le_of_ble_eq_true rfl) d_M_goAlone_10 (fun H locs hP hD hS => ?_)
  obtain ⟨z1, ez1⟩ : ∃ zt_ : x_S, zt_ = x_up z 1 1 ((z 1 1) + 1) := ⟨_, rfl⟩
  have hP : va_P D vwCl (x_w cI cN ad z1) H := by rw [ez1, ← x_sT (i := 1) (by decide) ((z 1 1) + 1)]; exact hP
  have hD : va_D A (x_w cI cN ad z1) := by rw [ez1, ← x_sT (i := 1) (by decide) ((z 1 1) + 1)]; exact hD
  refine lv_aload_n hx hb d_M_goAlone_13 rfl (lv_at hl 0 rfl) ?_
  refine va_get (D := D) (ci := 4) (C := R_M) (T := T_M) (N := 7) hx hb hts in_M hown hK hP 0 x_hM rfl 0 (by decide) (hts _ gm_154) (fun _ h9 => h9) rfl d_M_goAlone_14 ?_
  refine lv_iload_n hx hb d_M_goAlone_17 rfl (lv_at hl 1 rfl) ?_
  refine va_aldq (D := D) hx hb hK hP 1 1 x_hA rfl (x_in2 hk) d_M_goAlone_18 ?_
  refine x_topv (x_nf_at hk) ?_
  refine lv_aload_n hx hb d_M_goAlone_19 rfl (lv_at hl 0 rfl) ?_
  refine va_get (D := D) (ci := 4) (C := R_M) (T := T_M) (N := 7) hx hb hts in_M hown hK hP 0 x_hM rfl 0 (by decide) (hts _ gm_154) (fun _ h9 => h9) rfl d_M_goAlone_20 ?_
  refine lv_iload_n hx hb d_M_goAlone_23 rfl (lv_at hl 1 rfl) ?_
  refine va_aldq (D := D) hx hb hK hP 1 1 x_hA rfl (x_in2 hk) d_M_goAlone_24 ?_
  refine x_topv (x_nf_at hk) ?_
  refine va_get (D := D) (ci := 2) (C := R_N) (T := T_N) (N := 8) hx hb hts in_N hown hK hP (6 + k) (x_hN hk) rfl 3 (by decide) (hts _ gm_96) (fun _ h9 => h9) rfl d_M_goAlone_25 ?_
  refine va_put (D := D) (ci := 2) (v := .int (z1 (5 + k) 2)) (ty := .int) (C := R_N) (T := T_N) (N := 8) hx hb hts in_N fy_N fy_N_ok n_N hown hK hP hD hS (6 + k) (x_hN hk) rfl 4 (by decide) (hts _ gm_98) (fun _ h9 => h9) rfl (by decide +kernel) rfl rfl (Nat.le_of_ble_eq_true rfl) d_M_goAlone_28 (fun H locs hP hD hS => ?_)
  obtain ⟨z2, ez2⟩ : ∃ zt_ : x_S, zt_ = x_up z1 (5 + k) 3 (z1 (5 + k) 2) := ⟨_, rfl⟩
  have hP : va_P D vwCl (x_w cI cN ad z2) H := by rw [ez2, ← x_sN (i := 3) hk (by decide) (z1 (5 + k) 2)]; exact hP
  have hD : va_D A (x_w cI cN ad z2) := by rw [ez2, ← x_sN (i := 3) hk (by decide) (z1 (5 + k) 2)]; exact hD
  refine lv_aload_n hx hb d_M_goAlone_31 rfl (lv_at hl 0 rfl) ?_
  refine va_get (D := D) (ci := 4) (C := R_M) (T := T_M) (N := 7) hx hb hts in_M hown hK hP 0 x_hM rfl 0 (by decide) (hts _ gm_154) (fun _ h9 => h9) rfl d_M_goAlone_32 ?_
  refine lv_iload_n hx hb d_M_goAlone_35 rfl (lv_at hl 1 rfl) ?_
  refine va_aldq (D := D) hx hb hK hP 1 1 x_hA rfl (x_in2 hk) d_M_goAlone_36 ?_
  refine x_topv (x_nf_at hk) ?_
  refine lv_aload_n hx hb d_M_goAlone_37 rfl (lv_at hl 0 rfl) ?_
  refine va_get (D := D) (ci := 4) (C := R_M) (T := T_M) (N := 7) hx hb hts in_M hown hK hP 0 x_hM rfl 1 (by decide) (hts _ gm_155) (fun _ h9 => h9) rfl d_M_goAlone_38 ?_
  refine va_get (D := D) (ci := 3) (C := R_T) (T := T_T) (N := 5) hx hb hts in_T hown hK hP 2 x_hT rfl 1 (by decide) (hts _ gm_136) (fun _ h9 => h9) rfl d_M_goAlone_41 ?_
  refine va_put (D := D) (ci := 2) (v := .int (z2 1 1)) (ty := .int) (C := R_N) (T := T_N) (N := 8) hx hb hts in_N fy_N fy_N_ok n_N hown hK hP hD hS (6 + k) (x_hN hk) rfl 3 (by decide) (hts _ gm_96) (fun _ h9 => h9) rfl (by decide +kernel) rfl rfl (Nat.le_of_ble_eq_true rfl) d_M_goAlone_44 (fun H locs hP hD hS => ?_)
  obtain ⟨z3, ez3⟩ : ∃ zt_ : x_S, zt_ = x_up z2 (5 + k) 2 (z2 1 1) := ⟨_, rfl⟩
  have hP : va_P D vwCl (x_w cI cN ad z3) H := by rw [ez3, ← x_sN (i := 2) hk (by decide) (z2 1 1)]; exact hP
  have hD : va_D A (x_w cI cN ad z3) := by rw [ez3, ← x_sN (i := 2) hk (by decide) (z2 1 1)]; exact hD
  refine lv_aload_n hx hb d_M_goAlone_47 rfl (lv_at hl 0 rfl) ?_
  refine va_get (D := D) (ci := 4) (C := R_M) (T := T_M) (N := 7) hx hb hts in_M hown hK hP 0 x_hM rfl 0 (by decide) (hts _ gm_154) (fun _ h9 => h9) rfl d_M_goAlone_48 ?_
  refine lv_iload_n hx hb d_M_goAlone_51 rfl (lv_at hl 1 rfl) ?_
  refine va_aldq (D := D) hx hb hK hP 1 1 x_hA rfl (x_in2 hk) d_M_goAlone_52 ?_
  refine x_topv (x_nf_at hk) ?_
  refine lv_iconst (v := 1) hx hb d_M_goAlone_53 (by decide) ?_
  refine va_put (D := D) (ci := 2) (v := .int 1) (ty := .boolean) (C := R_N) (T := T_N) (N := 8) hx hb hts in_N fy_N fy_N_ok n_N hown hK hP hD hS (6 + k) (x_hN hk) rfl 5 (by decide) (hts _ gm_100) (fun _ h9 => h9) rfl (by decide +kernel) rfl rfl (Nat.le_of_ble_eq_true rfl) d_M_goAlone_54 (fun H locs hP hD hS => ?_)
  obtain ⟨z4, ez4⟩ : ∃ zt_ : x_S, zt_ = x_up z3 (5 + k) 4 1 := ⟨_, rfl⟩
  have hP : va_P D vwCl (x_w cI cN ad z4) H := by rw [ez4, ← x_sN (i := 4) hk (by decide) 1]; exact hP
  have hD : va_D A (x_w cI cN ad z4) := by rw [ez4, ← x_sN (i := 4) hk (by decide) 1]; exact hD
  exact x_rv (w := x_w cI cN ad) (by subst ez1 ez2 ez3 ez4; first | (simp only [x_goAl]; done) | rfl | (simp only [x_goAl]; rfl)) hx hb hr hlk hP hD hS d_M_goAlone_57
end
section
-- ===== 08.x2: disk loops, bringDown, writeBy, flushBy
set_option maxHeartbeats 4000000 in
set_option maxRecDepth 100000 in
theorem c_D_settle_ok (l : Launch) (D : va_G) (cI cN : ClassId) (ad : Nat → Nat) (z : x_S) (k : Nat) (hk : k < 2) (keep : Int32) : x_C l y_D_settle c_D_settle 3 none { frames := 1, cells := 0, slots := 0, locals := 21 } D (x_ty cI cN) (x_w cI cN ad z) [.ref (ad (8 + k)), .int keep] (none) (x_w cI cN ad (x_settle z k keep)) := by
  refine x_C.of (by decide) (Nat.le_of_ble_eq_true rfl) ?_
  intro p e s m below meth c hx hb hr hml hts hown hlk A hA hK hS hP hD ls hl
  have hown : s.vm.findClass R_D = some m.cls := hown
  have hl : lv_has ls 3 [(0, .ref (ad (8 + k))), (1, .int keep)] := hl
  have lp : ∀ (n i : Nat) (y : x_S) (H : Heap) (locs : List Loc) (ls : Array Slot), i + n = 32 → x_settle z k keep = x_up (x_setL k keep n i y) (5 + k) 7 0 → va_P D vwCl (x_w cI cN ad y) H → va_D A (x_w cI cN ad y) → va_S A s.heap H locs → lv_has ls 3 [(2, .int (nI i)), (0, .ref (ad (8 + k))), (1, .int keep)] → W p l e { frames := 1, cells := 0, slots := 0, locals := 21 } s m [.ref (ad (8 + k)), .int keep].toArray below meth c H locs 0 0 (MQ below (x_Q (none) D (x_w cI cN ad (x_settle z k keep)) A) [.ref (ad (8 + k)), .int keep].toArray s 0 0 A) (F0 m 2 ls []) := by
    intro n
    induction n with
    | zero =>
      intro i y  H locs ls hn hI hP hD hS hl
      refine lv_iload_n hx hb d_D_settle_2 rfl (lv_at hl 0 rfl) ?_
      refine lv_bipush (v := 32) hx hb d_D_settle_3 (by decide) ?_
      refine lv_icmp_ge (tgt := 43) hx hb d_D_settle_5 (by decide) (fun c1 => ?_) (fun c1 => ?_)
      · refine lv_aload_n hx hb d_D_settle_43 rfl (lv_at hl 1 rfl) ?_
        refine lv_iconst (v := 0) hx hb d_D_settle_44 (by decide) ?_
        refine va_put (D := D) (ci := 1) (v := .int 0) (ty := .int) (C := R_D) (T := T_D) (N := 3) hx hb hts in_D fy_D fy_D_ok n_D hown hK hP hD hS (8 + k) (x_hD hk) rfl 2 (by decide) (hts _ gm_81) (fun _ h9 => h9) rfl (by decide +kernel) rfl rfl (Nat.le_of_ble_eq_true rfl) d_D_settle_45 (fun H locs hP hD hS => ?_)
        obtain ⟨z2, ez2⟩ : ∃ zt_ : x_S, zt_ = x_up y (5 + k) 7 0 := ⟨_, rfl⟩
        have hP : va_P D vwCl (x_w cI cN ad z2) H := by rw [ez2, ← x_sD hk 0]; exact hP
        have hD : va_D A (x_w cI cN ad z2) := by rw [ez2, ← x_sD hk 0]; exact hD
        exact x_rv (w := x_w cI cN ad) (by subst ez2; rw [hI]; rfl) hx hb hr hlk hP hD hS d_D_settle_48
      · exact absurd (show (32 : Int32) ≤ nI i from nI_le (a := 32) (by omega) (by omega)) c1
    | succ n ih =>
      intro i y  H locs ls hn hI hP hD hS hl
      have hi : i < 32 := by omega
      refine lv_iload_n hx hb d_D_settle_2 rfl (lv_at hl 0 rfl) ?_
      refine lv_bipush (v := 32) hx hb d_D_settle_3 (by decide) ?_
      refine lv_icmp_ge (tgt := 43) hx hb d_D_settle_5 (by decide) (fun c3 => ?_) (fun c3 => ?_)
      · exact absurd c3 (show ¬ (32 : Int32) ≤ nI i from nI_ge (b := 32) (by omega) (by decide))
      · refine lv_aload_n hx hb d_D_settle_8 rfl (lv_at hl 1 rfl) ?_
        refine lv_iload_n hx hb d_D_settle_9 rfl (lv_at hl 0 rfl) ?_
        refine x_V (rest := []) ⟨hx, hb, hml, hown, hts⟩ (c_D_isCached_ok l D cI cN ad y k hk i) gm_219 gm_220 gm_221 gm_31 gm_222 ⟨rfl, rfl⟩ hd_D_isCached ⟨Nat.le_of_ble_eq_true rfl, Nat.le_of_ble_eq_true rfl⟩ hK hP hD hS hA (va_recv hK hP (ci := 1) (q0 := (8 + k)) rfl (x_hD hk)) rfl hl.1 rfl (Nat.le_of_ble_eq_true rfl) d_D_settle_10 ⟨Nat.le_of_ble_eq_true rfl, Nat.le_of_ble_eq_true rfl⟩ (fun H locs hP hD hS => ?_)
        refine lv_topi (fun r4 er4 => ?_)
        refine lv_if_eq (tgt := 37) hx hb d_D_settle_13 (by decide) (fun c5 => ?_) (fun c5 => ?_)
        · refine lv_iinc (v := nI (i + 1)) (lv' := [(2, .int (nI (i + 1))), (0, .ref (ad (8 + k))), (1, .int keep)]) hx hb d_D_settle_37 hl (k := 0) rfl (nI_1 _) (by decide) rfl (fun ls hl => ?_)
          refine lv_goto (tgt := 2) hx hb d_D_settle_40 (by decide) ?_
          exact ih (i + 1) y H locs ls (by omega) (by subst er4; rw [hI]; simp only [x_setL, x_setB, if_neg c3, if_pos c5]) hP hD hS (lv_sub hl [0, 1, 2] rfl)
        · refine lv_iload_n hx hb d_D_settle_16 rfl (lv_at hl 2 rfl) ?_
          refine lv_iload_n hx hb d_D_settle_17 rfl (lv_at hl 0 rfl) ?_
          refine lv_iushr (v := x_sh keep (nI i)) hx hb d_D_settle_18 rfl ?_
          refine lv_iconst (v := 1) hx hb d_D_settle_19 (by decide) ?_
          refine lv_iand hx hb d_D_settle_20 ?_
          refine lv_iconst (v := 1) hx hb d_D_settle_21 (by decide) ?_
          refine lv_icmp_ne (tgt := 37) hx hb d_D_settle_22 (by decide) (fun c6 => ?_) (fun c6 => ?_)
          · refine lv_iinc (v := nI (i + 1)) (lv' := [(2, .int (nI (i + 1))), (0, .ref (ad (8 + k))), (1, .int keep)]) hx hb d_D_settle_37 hl (k := 0) rfl (nI_1 _) (by decide) rfl (fun ls hl => ?_)
            refine lv_goto (tgt := 2) hx hb d_D_settle_40 (by decide) ?_
            exact ih (i + 1) y H locs ls (by omega) (by subst er4; rw [hI]; simp only [x_setL, x_setB, if_neg c3, if_neg c5, if_neg c6]) hP hD hS (lv_sub hl [0, 1, 2] rfl)
          · refine lv_aload_n hx hb d_D_settle_25 rfl (lv_at hl 1 rfl) ?_
            refine va_get (D := D) (ci := 1) (C := R_D) (T := T_D) (N := 3) hx hb hts in_D hown hK hP (8 + k) (x_hD hk) rfl 0 (by decide) (hts _ gm_78) (fun _ h9 => h9) rfl d_D_settle_26 ?_
            refine lv_iload_n hx hb d_D_settle_29 rfl (lv_at hl 0 rfl) ?_
            refine lv_aload_n hx hb d_D_settle_30 rfl (lv_at hl 1 rfl) ?_
            refine va_get (D := D) (ci := 1) (C := R_D) (T := T_D) (N := 3) hx hb hts in_D hown hK hP (8 + k) (x_hD hk) rfl 1 (by decide) (hts _ gm_80) (fun _ h9 => h9) rfl d_D_settle_31 ?_
            refine lv_iload_n hx hb d_D_settle_34 rfl (lv_at hl 0 rfl) ?_
            refine va_iald (D := D) hx hb hK hP (12 + k) 0 (x_hC hk) rfl (x_in32 hi) d_D_settle_35 ?_
            refine x_top (show y (9 + k) (nI i).toNatClampNeg = y (9 + k) i by rw [x_cl32 hi]) ?_
            refine va_iast (D := D) hx hb hK hP hD hS (10 + k) 0 (x_hS hk) rfl (x_in32 hi) d_D_settle_36 (fun H locs hP hD hS => ?_)
            obtain ⟨z7, ez7⟩ : ∃ zt_ : x_S, zt_ = x_up y (7 + k) i (y (9 + k) i) := ⟨_, rfl⟩
            rw [x_cl32 hi] at hP hD
            have hP : va_P D vwCl (x_w cI cN ad z7) H := by rw [ez7, ← x_sS hk i (y (9 + k) i)]; exact hP
            have hD : va_D A (x_w cI cN ad z7) := by rw [ez7, ← x_sS hk i (y (9 + k) i)]; exact hD
            refine lv_iinc (v := nI (i + 1)) (lv' := [(2, .int (nI (i + 1))), (0, .ref (ad (8 + k))), (1, .int keep)]) hx hb d_D_settle_37 hl (k := 0) rfl (nI_1 _) (by decide) rfl (fun ls hl => ?_)
            refine lv_goto (tgt := 2) hx hb d_D_settle_40 (by decide) ?_
            exact ih (i + 1) z7 H locs ls (by omega) (by subst er4 ez7; rw [hI]; simp only [x_setL, x_setB, if_neg c3, if_neg c5, if_pos c6]) hP hD hS (lv_sub hl [0, 1, 2] rfl)
  refine lv_iconst (v := 0) hx hb d_D_settle_0 (by decide) ?_
  refine lv_istore_n (lv' := [(2, .int 0), (0, .ref (ad (8 + k))), (1, .int keep)]) hx hb d_D_settle_1 rfl hl (by decide) rfl (fun ls hl => ?_)
  exact lp 32 0 z _ _ ls rfl rfl hP hD hS (lv_sub hl [0, 1, 2] rfl)
set_option maxHeartbeats 4000000 in
set_option maxRecDepth 100000 in
theorem c_D_flush_ok (l : Launch) (D : va_G) (cI cN : ClassId) (ad : Nat → Nat) (z : x_S) (k : Nat) (hk : k < 2) : x_C l y_D_flush c_D_flush 1 none { frames := 2, cells := 0, slots := 0, locals := 43 } D (x_ty cI cN) (x_w cI cN ad z) [.ref (ad (8 + k))] (none) (x_w cI cN ad (x_flush z k)) := by
  refine x_C.of (by decide) (Nat.le_of_ble_eq_true rfl) ?_
  intro p e s m below meth c hx hb hr hml hts hown hlk A hA hK hS hP hD ls hl
  have hown : s.vm.findClass R_D = some m.cls := hown
  have hl : lv_has ls 1 [(0, .ref (ad (8 + k)))] := hl
  refine lv_aload_n hx hb d_D_flush_0 rfl (lv_at hl 0 rfl) ?_
  refine lv_iconst (v := (-1)) hx hb d_D_flush_1 (by decide) ?_
  refine x_V (rest := []) ⟨hx, hb, hml, hown, hts⟩ (c_D_settle_ok l D cI cN ad z k hk (-1)) gm_215 gm_216 gm_217 gm_31 gm_218 ⟨rfl, rfl⟩ hd_D_settle ⟨Nat.le_of_ble_eq_true rfl, Nat.le_of_ble_eq_true rfl⟩ hK hP hD hS hA (va_recv hK hP (ci := 1) (q0 := (8 + k)) rfl (x_hD hk)) rfl hl.1 rfl (Nat.le_of_ble_eq_true rfl) d_D_flush_2 ⟨Nat.le_of_ble_eq_true rfl, Nat.le_of_ble_eq_true rfl⟩ (fun H locs hP hD hS => ?_)
  obtain ⟨z1, ez1⟩ : ∃ zt_ : x_S, zt_ = x_settle z k (-1) := ⟨_, rfl⟩
  rw [← ez1] at hP hD
  exact x_rv (w := x_w cI cN ad) (by subst ez1; first | (simp only [x_flush]; done) | rfl | (simp only [x_flush]; rfl)) hx hb hr hlk hP hD hS d_D_flush_5
set_option maxHeartbeats 4000000 in
set_option maxRecDepth 100000 in
theorem c_D_cachedExtents_ok (l : Launch) (D : va_G) (cI cN : ClassId) (ad : Nat → Nat) (z : x_S) (k : Nat) (hk : k < 2) : x_C l y_D_cachedExtents c_D_cachedExtents 3 (some .int) { frames := 0, cells := 0, slots := 0, locals := 0 } D (x_ty cI cN) (x_w cI cN ad z) [.ref (ad (8 + k))] (some (.int (x_cext z k))) (x_w cI cN ad z) := by
  refine x_C.of (by decide) (Nat.le_of_ble_eq_true rfl) ?_
  intro p e s m below meth c hx hb hr hml hts hown hlk A hA hK hS hP hD ls hl
  have hown : s.vm.findClass R_D = some m.cls := hown
  have hl : lv_has ls 3 [(0, .ref (ad (8 + k)))] := hl
  have lp : ∀ (n i : Nat) (a : Int32) (H : Heap) (locs : List Loc) (ls : Array Slot), i + n = 8 → x_cext z k = x_cexL (z (5 + k) 7) n i a → va_P D vwCl (x_w cI cN ad z) H → va_D A (x_w cI cN ad z) → va_S A s.heap H locs → lv_has ls 3 [(1, .int a), (2, .int (nI i)), (0, .ref (ad (8 + k)))] → W p l e { frames := 0, cells := 0, slots := 0, locals := 0 } s m [.ref (ad (8 + k))].toArray below meth c H locs 0 0 (MQ below (x_Q (some (.int (x_cext z k))) D (x_w cI cN ad z) A) [.ref (ad (8 + k))].toArray s 0 0 A) (F0 m 4 ls []) := by
    intro n
    induction n with
    | zero =>
      intro i a H locs ls hn hI hP hD hS hl
      refine lv_iload_n hx hb d_D_cachedExtents_4 rfl (lv_at hl 1 rfl) ?_
      refine lv_bipush (v := 8) hx hb d_D_cachedExtents_5 (by decide) ?_
      refine lv_icmp_ge (tgt := 36) hx hb d_D_cachedExtents_7 (by decide) (fun c1 => ?_) (fun c1 => ?_)
      · refine lv_iload_n hx hb d_D_cachedExtents_36 rfl (lv_at hl 0 rfl) ?_
        exact x_rp (by rw [hI]; rfl) hx hb hr hlk hP hD hS d_D_cachedExtents_37
      · exact absurd (show (8 : Int32) ≤ nI i from nI_le (a := 8) (by omega) (by omega)) c1
    | succ n ih =>
      intro i a H locs ls hn hI hP hD hS hl
      refine lv_iload_n hx hb d_D_cachedExtents_4 rfl (lv_at hl 1 rfl) ?_
      refine lv_bipush (v := 8) hx hb d_D_cachedExtents_5 (by decide) ?_
      refine lv_icmp_ge (tgt := 36) hx hb d_D_cachedExtents_7 (by decide) (fun c2 => ?_) (fun c2 => ?_)
      · exact absurd c2 (show ¬ (8 : Int32) ≤ nI i from nI_ge (b := 8) (by omega) (by decide))
      · refine lv_aload_n hx hb d_D_cachedExtents_10 rfl (lv_at hl 2 rfl) ?_
        refine va_get (D := D) (ci := 1) (C := R_D) (T := T_D) (N := 3) hx hb hts in_D hown hK hP (8 + k) (x_hD hk) rfl 2 (by decide) (hts _ gm_81) (fun _ h9 => h9) rfl d_D_cachedExtents_11 ?_
        refine lv_iload_n hx hb d_D_cachedExtents_14 rfl (lv_at hl 1 rfl) ?_
        refine lv_iconst (v := 4) hx hb d_D_cachedExtents_15 (by decide) ?_
        refine lv_imul hx hb d_D_cachedExtents_16 ?_
        refine lv_iushr (v := x_sh (z (5 + k) 7) ((nI i) * 4)) hx hb d_D_cachedExtents_17 rfl ?_
        refine lv_bipush (v := 15) hx hb d_D_cachedExtents_18 (by decide) ?_
        refine lv_iand hx hb d_D_cachedExtents_20 ?_
        refine lv_if_eq (tgt := 30) hx hb d_D_cachedExtents_21 (by decide) (fun c3 => ?_) (fun c3 => ?_)
        · refine lv_iinc (v := nI (i + 1)) (lv' := [(2, .int (nI (i + 1))), (1, .int a), (0, .ref (ad (8 + k)))]) hx hb d_D_cachedExtents_30 hl (k := 1) rfl (nI_1 _) (by decide) rfl (fun ls hl => ?_)
          refine lv_goto (tgt := 4) hx hb d_D_cachedExtents_33 (by decide) ?_
          exact ih (i + 1) a H locs ls (by omega) (by rw [hI]; simp only [x_cexL, if_neg c2, if_pos c3]) hP hD hS (lv_sub hl [1, 0, 2] rfl)
        · refine lv_iload_n hx hb d_D_cachedExtents_24 rfl (lv_at hl 0 rfl) ?_
          refine lv_iconst (v := 1) hx hb d_D_cachedExtents_25 (by decide) ?_
          refine lv_iload_n hx hb d_D_cachedExtents_26 rfl (lv_at hl 1 rfl) ?_
          refine lv_ishl hx hb d_D_cachedExtents_27 ?_
          refine lv_ior hx hb d_D_cachedExtents_28 ?_
          refine lv_istore_n (lv' := [(1, .int (a ||| (1 <<< (nI i &&& 31)))), (2, .int (nI i)), (0, .ref (ad (8 + k)))]) hx hb d_D_cachedExtents_29 rfl hl (by decide) rfl (fun ls hl => ?_)
          refine lv_iinc (v := nI (i + 1)) (lv' := [(2, .int (nI (i + 1))), (1, .int (a ||| (1 <<< (nI i &&& 31)))), (0, .ref (ad (8 + k)))]) hx hb d_D_cachedExtents_30 hl (k := 1) rfl (nI_1 _) (by decide) rfl (fun ls hl => ?_)
          refine lv_goto (tgt := 4) hx hb d_D_cachedExtents_33 (by decide) ?_
          exact ih (i + 1) (a ||| (1 <<< (nI i &&& 31))) H locs ls (by omega) (by rw [hI]; simp only [x_cexL, if_neg c2, if_neg c3]) hP hD hS (lv_sub hl [1, 0, 2] rfl)
  refine lv_iconst (v := 0) hx hb d_D_cachedExtents_0 (by decide) ?_
  refine lv_istore_n (lv' := [(1, .int 0), (0, .ref (ad (8 + k)))]) hx hb d_D_cachedExtents_1 rfl hl (by decide) rfl (fun ls hl => ?_)
  refine lv_iconst (v := 0) hx hb d_D_cachedExtents_2 (by decide) ?_
  refine lv_istore_n (lv' := [(2, .int 0), (1, .int 0), (0, .ref (ad (8 + k)))]) hx hb d_D_cachedExtents_3 rfl hl (by decide) rfl (fun ls hl => ?_)
  exact lp 8 0 0 _ _ ls rfl rfl hP hD hS (lv_sub hl [1, 0, 2] rfl)
set_option maxHeartbeats 4000000 in
set_option maxRecDepth 100000 in
theorem c_M_bringDown_ok (l : Launch) (D : va_G) (cI cN : ClassId) (ad : Nat → Nat) (z : x_S) (k : Nat) (hk : k < 2) (keep : Int32) : x_C l y_M_bringDown c_M_bringDown 4 none { frames := 2, cells := 0, slots := 0, locals := 43 } D (x_ty cI cN) (x_w cI cN ad z) [.ref (ad 0), .int (nI k), .int keep] (none) (x_w cI cN ad (x_bring z k keep)) := by
  refine x_C.of (by decide) (Nat.le_of_ble_eq_true rfl) ?_
  intro p e s m below meth c hx hb hr hml hts hown hlk A hA hK hS hP hD ls hl
  have hown : s.vm.findClass R_M = some m.cls := hown
  have hl : lv_has ls 4 [(0, .ref (ad 0)), (1, .int (nI k)), (2, .int keep)] := hl
  refine lv_aload_n hx hb d_M_bringDown_0 rfl (lv_at hl 0 rfl) ?_
  refine va_get (D := D) (ci := 4) (C := R_M) (T := T_M) (N := 7) hx hb hts in_M hown hK hP 0 x_hM rfl 0 (by decide) (hts _ gm_154) (fun _ h9 => h9) rfl d_M_bringDown_1 ?_
  refine lv_iload_n hx hb d_M_bringDown_4 rfl (lv_at hl 1 rfl) ?_
  refine va_aldq (D := D) hx hb hK hP 1 1 x_hA rfl (x_in2 hk) d_M_bringDown_5 ?_
  refine x_topv (x_nf_at hk) ?_
  refine va_get (D := D) (ci := 2) (C := R_N) (T := T_N) (N := 8) hx hb hts in_N hown hK hP (6 + k) (x_hN hk) rfl 0 (by decide) (hts _ gm_90) (fun _ h9 => h9) rfl d_M_bringDown_6 ?_
  refine x_V (rest := []) ⟨hx, hb, hml, hown, hts⟩ (c_D_cachedExtents_ok l D cI cN ad z k hk) gm_235 gm_236 gm_237 gm_31 gm_238 ⟨rfl, rfl⟩ hd_D_cachedExtents ⟨Nat.le_of_ble_eq_true rfl, Nat.le_of_ble_eq_true rfl⟩ hK hP hD hS hA (va_recv hK hP (ci := 1) (q0 := (8 + k)) rfl (x_hD hk)) rfl hl.1 rfl (Nat.le_of_ble_eq_true rfl) d_M_bringDown_9 ⟨Nat.le_of_ble_eq_true rfl, Nat.le_of_ble_eq_true rfl⟩ (fun H locs hP hD hS => ?_)
  refine lv_topi (fun r1 er1 => ?_)
  refine lv_istore_n (lv' := [(3, .int r1), (0, .ref (ad 0)), (1, .int (nI k)), (2, .int keep)]) hx hb d_M_bringDown_12 rfl hl (by decide) rfl (fun ls hl => ?_)
  refine lv_aload_n hx hb d_M_bringDown_13 rfl (lv_at hl 1 rfl) ?_
  refine va_get (D := D) (ci := 4) (C := R_M) (T := T_M) (N := 7) hx hb hts in_M hown hK hP 0 x_hM rfl 0 (by decide) (hts _ gm_154) (fun _ h9 => h9) rfl d_M_bringDown_14 ?_
  refine lv_iload_n hx hb d_M_bringDown_17 rfl (lv_at hl 2 rfl) ?_
  refine va_aldq (D := D) hx hb hK hP 1 1 x_hA rfl (x_in2 hk) d_M_bringDown_18 ?_
  refine x_topv (x_nf_at hk) ?_
  refine lv_dup hx hb d_M_bringDown_19 rfl ?_
  refine va_get (D := D) (ci := 2) (C := R_N) (T := T_N) (N := 8) hx hb hts in_N hown hK hP (6 + k) (x_hN hk) rfl 6 (by decide) (hts _ gm_102) (fun _ h9 => h9) rfl d_M_bringDown_20 ?_
  refine lv_iload_n hx hb d_M_bringDown_23 rfl (lv_at hl 0 rfl) ?_
  refine lv_ior hx hb d_M_bringDown_24 ?_
  refine va_put (D := D) (ci := 2) (v := .int ((z (5 + k) 5) ||| r1)) (ty := .int) (C := R_N) (T := T_N) (N := 8) hx hb hts in_N fy_N fy_N_ok n_N hown hK hP hD hS (6 + k) (x_hN hk) rfl 6 (by decide) (hts _ gm_102) (fun _ h9 => h9) rfl (by decide +kernel) rfl rfl (Nat.le_of_ble_eq_true rfl) d_M_bringDown_25 (fun H locs hP hD hS => ?_)
  obtain ⟨z2, ez2⟩ : ∃ zt_ : x_S, zt_ = x_up z (5 + k) 5 ((z (5 + k) 5) ||| r1) := ⟨_, rfl⟩
  have hP : va_P D vwCl (x_w cI cN ad z2) H := by rw [ez2, ← x_sN (i := 5) hk (by decide) ((z (5 + k) 5) ||| r1)]; exact hP
  have hD : va_D A (x_w cI cN ad z2) := by rw [ez2, ← x_sN (i := 5) hk (by decide) ((z (5 + k) 5) ||| r1)]; exact hD
  refine lv_aload_n hx hb d_M_bringDown_28 rfl (lv_at hl 1 rfl) ?_
  refine va_get (D := D) (ci := 4) (C := R_M) (T := T_M) (N := 7) hx hb hts in_M hown hK hP 0 x_hM rfl 4 (by decide) (hts _ gm_158) (fun _ h9 => h9) rfl d_M_bringDown_29 ?_
  refine lv_if_eq (tgt := 52) hx hb d_M_bringDown_32 (by decide) (fun c3 => ?_) (fun c3 => ?_)
  · refine lv_aload_n hx hb d_M_bringDown_52 rfl (lv_at hl 1 rfl) ?_
    refine va_get (D := D) (ci := 4) (C := R_M) (T := T_M) (N := 7) hx hb hts in_M hown hK hP 0 x_hM rfl 0 (by decide) (hts _ gm_154) (fun _ h9 => h9) rfl d_M_bringDown_53 ?_
    refine lv_iload_n hx hb d_M_bringDown_56 rfl (lv_at hl 2 rfl) ?_
    refine va_aldq (D := D) hx hb hK hP 1 1 x_hA rfl (x_in2 hk) d_M_bringDown_57 ?_
    refine x_topv (x_nf_at hk) ?_
    refine va_get (D := D) (ci := 2) (C := R_N) (T := T_N) (N := 8) hx hb hts in_N hown hK hP (6 + k) (x_hN hk) rfl 0 (by decide) (hts _ gm_90) (fun _ h9 => h9) rfl d_M_bringDown_58 ?_
    refine lv_iload_n hx hb d_M_bringDown_61 rfl (lv_at hl 3 rfl) ?_
    refine x_V (rest := []) ⟨hx, hb, hml, hown, hts⟩ (c_D_settle_ok l D cI cN ad z2 k hk keep) gm_239 gm_216 gm_217 gm_31 gm_218 ⟨rfl, rfl⟩ hd_D_settle ⟨Nat.le_of_ble_eq_true rfl, Nat.le_of_ble_eq_true rfl⟩ hK hP hD hS hA (va_recv hK hP (ci := 1) (q0 := (8 + k)) rfl (x_hD hk)) rfl hl.1 rfl (Nat.le_of_ble_eq_true rfl) d_M_bringDown_62 ⟨Nat.le_of_ble_eq_true rfl, Nat.le_of_ble_eq_true rfl⟩ (fun H locs hP hD hS => ?_)
    obtain ⟨z4, ez4⟩ : ∃ zt_ : x_S, zt_ = x_settle z2 k keep := ⟨_, rfl⟩
    rw [← ez4] at hP hD
    refine lv_aload_n hx hb d_M_bringDown_65 rfl (lv_at hl 1 rfl) ?_
    refine va_get (D := D) (ci := 4) (C := R_M) (T := T_M) (N := 7) hx hb hts in_M hown hK hP 0 x_hM rfl 0 (by decide) (hts _ gm_154) (fun _ h9 => h9) rfl d_M_bringDown_66 ?_
    refine lv_iload_n hx hb d_M_bringDown_69 rfl (lv_at hl 2 rfl) ?_
    refine va_aldq (D := D) hx hb hK hP 1 1 x_hA rfl (x_in2 hk) d_M_bringDown_70 ?_
    refine x_topv (x_nf_at hk) ?_
    refine lv_iconst (v := 0) hx hb d_M_bringDown_71 (by decide) ?_
    refine va_put (D := D) (ci := 2) (v := .int 0) (ty := .boolean) (C := R_N) (T := T_N) (N := 8) hx hb hts in_N fy_N fy_N_ok n_N hown hK hP hD hS (6 + k) (x_hN hk) rfl 1 (by decide) (hts _ gm_92) (fun _ h9 => h9) rfl (by decide +kernel) rfl rfl (Nat.le_of_ble_eq_true rfl) d_M_bringDown_72 (fun H locs hP hD hS => ?_)
    obtain ⟨z5, ez5⟩ : ∃ zt_ : x_S, zt_ = x_up z4 (5 + k) 0 0 := ⟨_, rfl⟩
    have hP : va_P D vwCl (x_w cI cN ad z5) H := by rw [ez5, ← x_sN (i := 0) hk (by decide) 0]; exact hP
    have hD : va_D A (x_w cI cN ad z5) := by rw [ez5, ← x_sN (i := 0) hk (by decide) 0]; exact hD
    refine lv_aload_n hx hb d_M_bringDown_75 rfl (lv_at hl 1 rfl) ?_
    refine lv_iload_n hx hb d_M_bringDown_76 rfl (lv_at hl 2 rfl) ?_
    refine x_V (rest := []) ⟨hx, hb, hml, hown, hts⟩ (c_M_makeSecondary_ok l D cI cN ad z5 k hk) gm_240 gm_242 gm_7 gm_28 gm_243 ⟨rfl, rfl⟩ hd_M_makeSecondary ⟨Nat.le_of_ble_eq_true rfl, Nat.le_of_ble_eq_true rfl⟩ hK hP hD hS hA (va_recv hK hP (ci := 4) (q0 := 0) rfl x_hM) rfl hl.1 rfl (Nat.le_of_ble_eq_true rfl) d_M_bringDown_77 ⟨Nat.le_of_ble_eq_true rfl, Nat.le_of_ble_eq_true rfl⟩ (fun H locs hP hD hS => ?_)
    obtain ⟨z6, ez6⟩ : ∃ zt_ : x_S, zt_ = x_sec z5 k := ⟨_, rfl⟩
    rw [← ez6] at hP hD
    refine lv_aload_n hx hb d_M_bringDown_80 rfl (lv_at hl 1 rfl) ?_
    refine x_V (rest := []) ⟨hx, hb, hml, hown, hts⟩ (c_M_disconnect_ok l D cI cN ad z6) gm_244 gm_246 gm_8 gm_28 gm_247 ⟨rfl, rfl⟩ hd_M_disconnect ⟨Nat.le_of_ble_eq_true rfl, Nat.le_of_ble_eq_true rfl⟩ hK hP hD hS hA (va_recv hK hP (ci := 4) (q0 := 0) rfl x_hM) rfl hl.1 rfl (Nat.le_of_ble_eq_true rfl) d_M_bringDown_81 ⟨Nat.le_of_ble_eq_true rfl, Nat.le_of_ble_eq_true rfl⟩ (fun H locs hP hD hS => ?_)
    obtain ⟨z7, ez7⟩ : ∃ zt_ : x_S, zt_ = x_disc z6 := ⟨_, rfl⟩
    rw [← ez7] at hP hD
    exact x_rv (w := x_w cI cN ad) (by subst er1 ez2 ez4 ez5 ez6 ez7; first | (simp only [x_bring, if_pos c3]; done) | rfl | (simp only [x_bring, if_pos c3]; rfl)) hx hb hr hlk hP hD hS d_M_bringDown_84
  · refine lv_aload_n hx hb d_M_bringDown_35 rfl (lv_at hl 1 rfl) ?_
    refine va_get (D := D) (ci := 4) (C := R_M) (T := T_M) (N := 7) hx hb hts in_M hown hK hP 0 x_hM rfl 0 (by decide) (hts _ gm_154) (fun _ h9 => h9) rfl d_M_bringDown_36 ?_
    refine lv_iconst (v := 1) hx hb d_M_bringDown_39 (by decide) ?_
    refine lv_iload_n hx hb d_M_bringDown_40 rfl (lv_at hl 2 rfl) ?_
    refine lv_isub hx hb d_M_bringDown_41 ?_
    refine x_top (x_1k hk) ?_
    refine va_aldq (D := D) hx hb hK hP 1 1 x_hA rfl (x_in2 (x_1lt hk)) d_M_bringDown_42 ?_
    refine x_topv (x_nf_at (x_1lt hk)) ?_
    refine lv_dup hx hb d_M_bringDown_43 rfl ?_
    refine va_get (D := D) (ci := 2) (C := R_N) (T := T_N) (N := 8) hx hb hts in_N hown hK hP (6 + (1 - k)) (x_hN (x_1lt hk)) rfl 6 (by decide) (hts _ gm_102) (fun _ h9 => h9) rfl d_M_bringDown_44 ?_
    refine lv_iload_n hx hb d_M_bringDown_47 rfl (lv_at hl 0 rfl) ?_
    refine lv_ior hx hb d_M_bringDown_48 ?_
    refine va_put (D := D) (ci := 2) (v := .int ((z2 (5 + (1 - k)) 5) ||| r1)) (ty := .int) (C := R_N) (T := T_N) (N := 8) hx hb hts in_N fy_N fy_N_ok n_N hown hK hP hD hS (6 + (1 - k)) (x_hN (x_1lt hk)) rfl 6 (by decide) (hts _ gm_102) (fun _ h9 => h9) rfl (by decide +kernel) rfl rfl (Nat.le_of_ble_eq_true rfl) d_M_bringDown_49 (fun H locs hP hD hS => ?_)
    obtain ⟨z8, ez8⟩ : ∃ zt_ : x_S, zt_ = x_up z2 (5 + (1 - k)) 5 ((z2 (5 + (1 - k)) 5) ||| r1) := ⟨_, rfl⟩
    have hP : va_P D vwCl (x_w cI cN ad z8) H := by rw [ez8, ← x_sN (i := 5) (x_1lt hk) (by decide) ((z2 (5 + (1 - k)) 5) ||| r1)]; exact hP
    have hD : va_D A (x_w cI cN ad z8) := by rw [ez8, ← x_sN (i := 5) (x_1lt hk) (by decide) ((z2 (5 + (1 - k)) 5) ||| r1)]; exact hD
    refine lv_aload_n hx hb d_M_bringDown_52 rfl (lv_at hl 1 rfl) ?_
    refine va_get (D := D) (ci := 4) (C := R_M) (T := T_M) (N := 7) hx hb hts in_M hown hK hP 0 x_hM rfl 0 (by decide) (hts _ gm_154) (fun _ h9 => h9) rfl d_M_bringDown_53 ?_
    refine lv_iload_n hx hb d_M_bringDown_56 rfl (lv_at hl 2 rfl) ?_
    refine va_aldq (D := D) hx hb hK hP 1 1 x_hA rfl (x_in2 hk) d_M_bringDown_57 ?_
    refine x_topv (x_nf_at hk) ?_
    refine va_get (D := D) (ci := 2) (C := R_N) (T := T_N) (N := 8) hx hb hts in_N hown hK hP (6 + k) (x_hN hk) rfl 0 (by decide) (hts _ gm_90) (fun _ h9 => h9) rfl d_M_bringDown_58 ?_
    refine lv_iload_n hx hb d_M_bringDown_61 rfl (lv_at hl 3 rfl) ?_
    refine x_V (rest := []) ⟨hx, hb, hml, hown, hts⟩ (c_D_settle_ok l D cI cN ad z8 k hk keep) gm_239 gm_216 gm_217 gm_31 gm_218 ⟨rfl, rfl⟩ hd_D_settle ⟨Nat.le_of_ble_eq_true rfl, Nat.le_of_ble_eq_true rfl⟩ hK hP hD hS hA (va_recv hK hP (ci := 1) (q0 := (8 + k)) rfl (x_hD hk)) rfl hl.1 rfl (Nat.le_of_ble_eq_true rfl) d_M_bringDown_62 ⟨Nat.le_of_ble_eq_true rfl, Nat.le_of_ble_eq_true rfl⟩ (fun H locs hP hD hS => ?_)
    obtain ⟨z9, ez9⟩ : ∃ zt_ : x_S, zt_ = x_settle z8 k keep := ⟨_, rfl⟩
    rw [← ez9] at hP hD
    refine lv_aload_n hx hb d_M_bringDown_65 rfl (lv_at hl 1 rfl) ?_
    refine va_get (D := D) (ci := 4) (C := R_M) (T := T_M) (N := 7) hx hb hts in_M hown hK hP 0 x_hM rfl 0 (by decide) (hts _ gm_154) (fun _ h9 => h9) rfl d_M_bringDown_66 ?_
    refine lv_iload_n hx hb d_M_bringDown_69 rfl (lv_at hl 2 rfl) ?_
    refine va_aldq (D := D) hx hb hK hP 1 1 x_hA rfl (x_in2 hk) d_M_bringDown_70 ?_
    refine x_topv (x_nf_at hk) ?_
    refine lv_iconst (v := 0) hx hb d_M_bringDown_71 (by decide) ?_
    refine va_put (D := D) (ci := 2) (v := .int 0) (ty := .boolean) (C := R_N) (T := T_N) (N := 8) hx hb hts in_N fy_N fy_N_ok n_N hown hK hP hD hS (6 + k) (x_hN hk) rfl 1 (by decide) (hts _ gm_92) (fun _ h9 => h9) rfl (by decide +kernel) rfl rfl (Nat.le_of_ble_eq_true rfl) d_M_bringDown_72 (fun H locs hP hD hS => ?_)
    obtain ⟨z10, ez10⟩ : ∃ zt_ : x_S, zt_ = x_up z9 (5 + k) 0 0 := ⟨_, rfl⟩
    have hP : va_P D vwCl (x_w cI cN ad z10) H := by rw [ez10, ← x_sN (i := 0) hk (by decide) 0]; exact hP
    have hD : va_D A (x_w cI cN ad z10) := by rw [ez10, ← x_sN (i := 0) hk (by decide) 0]; exact hD
    refine lv_aload_n hx hb d_M_bringDown_75 rfl (lv_at hl 1 rfl) ?_
    refine lv_iload_n hx hb d_M_bringDown_76 rfl (lv_at hl 2 rfl) ?_
    refine x_V (rest := []) ⟨hx, hb, hml, hown, hts⟩ (c_M_makeSecondary_ok l D cI cN ad z10 k hk) gm_240 gm_242 gm_7 gm_28 gm_243 ⟨rfl, rfl⟩ hd_M_makeSecondary ⟨Nat.le_of_ble_eq_true rfl, Nat.le_of_ble_eq_true rfl⟩ hK hP hD hS hA (va_recv hK hP (ci := 4) (q0 := 0) rfl x_hM) rfl hl.1 rfl (Nat.le_of_ble_eq_true rfl) d_M_bringDown_77 ⟨Nat.le_of_ble_eq_true rfl, Nat.le_of_ble_eq_true rfl⟩ (fun H locs hP hD hS => ?_)
    obtain ⟨z11, ez11⟩ : ∃ zt_ : x_S, zt_ = x_sec z10 k := ⟨_, rfl⟩
    rw [← ez11] at hP hD
    refine lv_aload_n hx hb d_M_bringDown_80 rfl (lv_at hl 1 rfl) ?_
    refine x_V (rest := []) ⟨hx, hb, hml, hown, hts⟩ (c_M_disconnect_ok l D cI cN ad z11) gm_244 gm_246 gm_8 gm_28 gm_247 ⟨rfl, rfl⟩ hd_M_disconnect ⟨Nat.le_of_ble_eq_true rfl, Nat.le_of_ble_eq_true rfl⟩ hK hP hD hS hA (va_recv hK hP (ci := 4) (q0 := 0) rfl x_hM) rfl hl.1 rfl (Nat.le_of_ble_eq_true rfl) d_M_bringDown_81 ⟨Nat.le_of_ble_eq_true rfl, Nat.le_of_ble_eq_true rfl⟩ (fun H locs hP hD hS => ?_)
    obtain ⟨z12, ez12⟩ : ∃ zt_ : x_S, zt_ = x_disc z11 := ⟨_, rfl⟩
    rw [← ez12] at hP hD
    exact x_rv (w := x_w cI cN ad) (by subst er1 ez2 ez8 ez9 ez10 ez11 ez12; first | (simp only [x_bring, if_neg c3]; done) | rfl | (simp only [x_bring, if_neg c3]; rfl)) hx hb hr hlk hP hD hS d_M_bringDown_84
set_option maxHeartbeats 4000000 in
set_option maxRecDepth 100000 in
theorem c_M_writeBy_ok (l : Launch) (D : va_G) (cI cN : ClassId) (ad : Nat → Nat) (z : x_S) (k : Nat) (hk : k < 2) (b : Nat) (hb32 : b < 32) (v : Int32) : x_C l y_M_writeBy c_M_writeBy 4 none { frames := 1, cells := 0, slots := 0, locals := 22 } D (x_ty cI cN) (x_w cI cN ad z) [.ref (ad 0), .int (nI k), .int (nI b), .int v] (none) (x_w cI cN ad (x_wr z k b v)) := by
  refine x_C.of (by decide) (Nat.le_of_ble_eq_true rfl) ?_
  intro p e s m below meth c hx hb hr hml hts hown hlk A hA hK hS hP hD ls hl
  have hown : s.vm.findClass R_M = some m.cls := hown
  have hl : lv_has ls 4 [(0, .ref (ad 0)), (1, .int (nI k)), (2, .int (nI b)), (3, .int v)] := hl
  refine lv_aload_n hx hb d_M_writeBy_0 rfl (lv_at hl 0 rfl) ?_
  refine va_get (D := D) (ci := 4) (C := R_M) (T := T_M) (N := 7) hx hb hts in_M hown hK hP 0 x_hM rfl 0 (by decide) (hts _ gm_154) (fun _ h9 => h9) rfl d_M_writeBy_1 ?_
  refine lv_iload_n hx hb d_M_writeBy_4 rfl (lv_at hl 1 rfl) ?_
  refine va_aldq (D := D) hx hb hK hP 1 1 x_hA rfl (x_in2 hk) d_M_writeBy_5 ?_
  refine x_topv (x_nf_at hk) ?_
  refine va_get (D := D) (ci := 2) (C := R_N) (T := T_N) (N := 8) hx hb hts in_N hown hK hP (6 + k) (x_hN hk) rfl 0 (by decide) (hts _ gm_90) (fun _ h9 => h9) rfl d_M_writeBy_6 ?_
  refine lv_iload_n hx hb d_M_writeBy_9 rfl (lv_at hl 2 rfl) ?_
  refine lv_iload_n hx hb d_M_writeBy_10 rfl (lv_at hl 3 rfl) ?_
  refine x_V (rest := []) ⟨hx, hb, hml, hown, hts⟩ (c_D_put_ok l D cI cN ad z k hk b hb32 v) gm_227 gm_228 gm_229 gm_31 gm_230 ⟨rfl, rfl⟩ hd_D_put ⟨Nat.le_of_ble_eq_true rfl, Nat.le_of_ble_eq_true rfl⟩ hK hP hD hS hA (va_recv hK hP (ci := 1) (q0 := (8 + k)) rfl (x_hD hk)) rfl hl.1 rfl (Nat.le_of_ble_eq_true rfl) d_M_writeBy_11 ⟨Nat.le_of_ble_eq_true rfl, Nat.le_of_ble_eq_true rfl⟩ (fun H locs hP hD hS => ?_)
  obtain ⟨z1, ez1⟩ : ∃ zt_ : x_S, zt_ = x_put z k b v := ⟨_, rfl⟩
  rw [← ez1] at hP hD
  refine lv_aload_n hx hb d_M_writeBy_14 rfl (lv_at hl 0 rfl) ?_
  refine va_get (D := D) (ci := 4) (C := R_M) (T := T_M) (N := 7) hx hb hts in_M hown hK hP 0 x_hM rfl 4 (by decide) (hts _ gm_158) (fun _ h9 => h9) rfl d_M_writeBy_15 ?_
  refine lv_if_eq (tgt := 40) hx hb d_M_writeBy_18 (by decide) (fun c2 => ?_) (fun c2 => ?_)
  · refine lv_aload_n hx hb d_M_writeBy_40 rfl (lv_at hl 0 rfl) ?_
    refine va_get (D := D) (ci := 4) (C := R_M) (T := T_M) (N := 7) hx hb hts in_M hown hK hP 0 x_hM rfl 0 (by decide) (hts _ gm_154) (fun _ h9 => h9) rfl d_M_writeBy_41 ?_
    refine lv_iload_n hx hb d_M_writeBy_44 rfl (lv_at hl 1 rfl) ?_
    refine va_aldq (D := D) hx hb hK hP 1 1 x_hA rfl (x_in2 hk) d_M_writeBy_45 ?_
    refine x_topv (x_nf_at hk) ?_
    refine lv_dup hx hb d_M_writeBy_46 rfl ?_
    refine va_get (D := D) (ci := 2) (C := R_N) (T := T_N) (N := 8) hx hb hts in_N hown hK hP (6 + k) (x_hN hk) rfl 6 (by decide) (hts _ gm_102) (fun _ h9 => h9) rfl d_M_writeBy_47 ?_
    refine lv_iconst (v := 1) hx hb d_M_writeBy_50 (by decide) ?_
    refine lv_iload_n hx hb d_M_writeBy_51 rfl (lv_at hl 2 rfl) ?_
    refine lv_iconst (v := 4) hx hb d_M_writeBy_52 (by decide) ?_
    refine lv_idiv hx hb d_M_writeBy_53 (by decide) ?_
    refine lv_ishl hx hb d_M_writeBy_54 ?_
    refine lv_ior hx hb d_M_writeBy_55 ?_
    refine va_put (D := D) (ci := 2) (v := .int ((z1 (5 + k) 5) ||| (1 <<< ((nI b) / 4 &&& 31)))) (ty := .int) (C := R_N) (T := T_N) (N := 8) hx hb hts in_N fy_N fy_N_ok n_N hown hK hP hD hS (6 + k) (x_hN hk) rfl 6 (by decide) (hts _ gm_102) (fun _ h9 => h9) rfl (by decide +kernel) rfl rfl (Nat.le_of_ble_eq_true rfl) d_M_writeBy_56 (fun H locs hP hD hS => ?_)
    obtain ⟨z3, ez3⟩ : ∃ zt_ : x_S, zt_ = x_up z1 (5 + k) 5 ((z1 (5 + k) 5) ||| (1 <<< ((nI b) / 4 &&& 31))) := ⟨_, rfl⟩
    have hP : va_P D vwCl (x_w cI cN ad z3) H := by rw [ez3, ← x_sN (i := 5) hk (by decide) ((z1 (5 + k) 5) ||| (1 <<< ((nI b) / 4 &&& 31)))]; exact hP
    have hD : va_D A (x_w cI cN ad z3) := by rw [ez3, ← x_sN (i := 5) hk (by decide) ((z1 (5 + k) 5) ||| (1 <<< ((nI b) / 4 &&& 31)))]; exact hD
    exact x_rv (w := x_w cI cN ad) (by subst ez1 ez3; first | (simp only [x_wr, if_pos c2]; done) | rfl | (simp only [x_wr, if_pos c2]; rfl)) hx hb hr hlk hP hD hS d_M_writeBy_59
  · refine lv_aload_n hx hb d_M_writeBy_21 rfl (lv_at hl 0 rfl) ?_
    refine va_get (D := D) (ci := 4) (C := R_M) (T := T_M) (N := 7) hx hb hts in_M hown hK hP 0 x_hM rfl 0 (by decide) (hts _ gm_154) (fun _ h9 => h9) rfl d_M_writeBy_22 ?_
    refine lv_iconst (v := 1) hx hb d_M_writeBy_25 (by decide) ?_
    refine lv_iload_n hx hb d_M_writeBy_26 rfl (lv_at hl 1 rfl) ?_
    refine lv_isub hx hb d_M_writeBy_27 ?_
    refine x_top (x_1k hk) ?_
    refine va_aldq (D := D) hx hb hK hP 1 1 x_hA rfl (x_in2 (x_1lt hk)) d_M_writeBy_28 ?_
    refine x_topv (x_nf_at (x_1lt hk)) ?_
    refine va_get (D := D) (ci := 2) (C := R_N) (T := T_N) (N := 8) hx hb hts in_N hown hK hP (6 + (1 - k)) (x_hN (x_1lt hk)) rfl 0 (by decide) (hts _ gm_90) (fun _ h9 => h9) rfl d_M_writeBy_29 ?_
    refine lv_iload_n hx hb d_M_writeBy_32 rfl (lv_at hl 2 rfl) ?_
    refine lv_iload_n hx hb d_M_writeBy_33 rfl (lv_at hl 3 rfl) ?_
    refine x_V (rest := []) ⟨hx, hb, hml, hown, hts⟩ (c_D_put_ok l D cI cN ad z1 (1 - k) (x_1lt hk) b hb32 v) gm_227 gm_228 gm_229 gm_31 gm_230 ⟨rfl, rfl⟩ hd_D_put ⟨Nat.le_of_ble_eq_true rfl, Nat.le_of_ble_eq_true rfl⟩ hK hP hD hS hA (va_recv hK hP (ci := 1) (q0 := (8 + (1 - k))) rfl (x_hD (x_1lt hk))) rfl hl.1 rfl (Nat.le_of_ble_eq_true rfl) d_M_writeBy_34 ⟨Nat.le_of_ble_eq_true rfl, Nat.le_of_ble_eq_true rfl⟩ (fun H locs hP hD hS => ?_)
    obtain ⟨z4, ez4⟩ : ∃ zt_ : x_S, zt_ = x_put z1 (1 - k) b v := ⟨_, rfl⟩
    rw [← ez4] at hP hD
    refine lv_goto (tgt := 59) hx hb d_M_writeBy_37 (by decide) ?_
    exact x_rv (w := x_w cI cN ad) (by subst ez1 ez4; first | (simp only [x_wr, if_neg c2]; done) | rfl | (simp only [x_wr, if_neg c2]; rfl)) hx hb hr hlk hP hD hS d_M_writeBy_59
set_option maxHeartbeats 4000000 in
set_option maxRecDepth 100000 in
theorem c_M_flushBy_ok (l : Launch) (D : va_G) (cI cN : ClassId) (ad : Nat → Nat) (z : x_S) (k : Nat) (hk : k < 2) : x_C l y_M_flushBy c_M_flushBy 2 none { frames := 3, cells := 0, slots := 0, locals := 63 } D (x_ty cI cN) (x_w cI cN ad z) [.ref (ad 0), .int (nI k)] (none) (x_w cI cN ad (x_fl z k)) := by
  refine x_C.of (by decide) (Nat.le_of_ble_eq_true rfl) ?_
  intro p e s m below meth c hx hb hr hml hts hown hlk A hA hK hS hP hD ls hl
  have hown : s.vm.findClass R_M = some m.cls := hown
  have hl : lv_has ls 2 [(0, .ref (ad 0)), (1, .int (nI k))] := hl
  refine lv_aload_n hx hb d_M_flushBy_0 rfl (lv_at hl 0 rfl) ?_
  refine va_get (D := D) (ci := 4) (C := R_M) (T := T_M) (N := 7) hx hb hts in_M hown hK hP 0 x_hM rfl 0 (by decide) (hts _ gm_154) (fun _ h9 => h9) rfl d_M_flushBy_1 ?_
  refine lv_iload_n hx hb d_M_flushBy_4 rfl (lv_at hl 1 rfl) ?_
  refine va_aldq (D := D) hx hb hK hP 1 1 x_hA rfl (x_in2 hk) d_M_flushBy_5 ?_
  refine x_topv (x_nf_at hk) ?_
  refine va_get (D := D) (ci := 2) (C := R_N) (T := T_N) (N := 8) hx hb hts in_N hown hK hP (6 + k) (x_hN hk) rfl 0 (by decide) (hts _ gm_90) (fun _ h9 => h9) rfl d_M_flushBy_6 ?_
  refine x_V (rest := []) ⟨hx, hb, hml, hown, hts⟩ (c_D_flush_ok l D cI cN ad z k hk) gm_211 gm_212 gm_213 gm_31 gm_214 ⟨rfl, rfl⟩ hd_D_flush ⟨Nat.le_of_ble_eq_true rfl, Nat.le_of_ble_eq_true rfl⟩ hK hP hD hS hA (va_recv hK hP (ci := 1) (q0 := (8 + k)) rfl (x_hD hk)) rfl hl.1 rfl (Nat.le_of_ble_eq_true rfl) d_M_flushBy_9 ⟨Nat.le_of_ble_eq_true rfl, Nat.le_of_ble_eq_true rfl⟩ (fun H locs hP hD hS => ?_)
  obtain ⟨z1, ez1⟩ : ∃ zt_ : x_S, zt_ = x_flush z k := ⟨_, rfl⟩
  rw [← ez1] at hP hD
  refine lv_aload_n hx hb d_M_flushBy_12 rfl (lv_at hl 0 rfl) ?_
  refine va_get (D := D) (ci := 4) (C := R_M) (T := T_M) (N := 7) hx hb hts in_M hown hK hP 0 x_hM rfl 4 (by decide) (hts _ gm_158) (fun _ h9 => h9) rfl d_M_flushBy_13 ?_
  refine lv_if_eq (tgt := 33) hx hb d_M_flushBy_16 (by decide) (fun c2 => ?_) (fun c2 => ?_)
  · exact x_rv (w := x_w cI cN ad) (by subst ez1; first | (simp only [x_fl, if_pos c2]; done) | rfl | (simp only [x_fl, if_pos c2]; rfl)) hx hb hr hlk hP hD hS d_M_flushBy_33
  · refine lv_aload_n hx hb d_M_flushBy_19 rfl (lv_at hl 0 rfl) ?_
    refine va_get (D := D) (ci := 4) (C := R_M) (T := T_M) (N := 7) hx hb hts in_M hown hK hP 0 x_hM rfl 0 (by decide) (hts _ gm_154) (fun _ h9 => h9) rfl d_M_flushBy_20 ?_
    refine lv_iconst (v := 1) hx hb d_M_flushBy_23 (by decide) ?_
    refine lv_iload_n hx hb d_M_flushBy_24 rfl (lv_at hl 1 rfl) ?_
    refine lv_isub hx hb d_M_flushBy_25 ?_
    refine x_top (x_1k hk) ?_
    refine va_aldq (D := D) hx hb hK hP 1 1 x_hA rfl (x_in2 (x_1lt hk)) d_M_flushBy_26 ?_
    refine x_topv (x_nf_at (x_1lt hk)) ?_
    refine va_get (D := D) (ci := 2) (C := R_N) (T := T_N) (N := 8) hx hb hts in_N hown hK hP (6 + (1 - k)) (x_hN (x_1lt hk)) rfl 0 (by decide) (hts _ gm_90) (fun _ h9 => h9) rfl d_M_flushBy_27 ?_
    refine x_V (rest := []) ⟨hx, hb, hml, hown, hts⟩ (c_D_flush_ok l D cI cN ad z1 (1 - k) (x_1lt hk)) gm_211 gm_212 gm_213 gm_31 gm_214 ⟨rfl, rfl⟩ hd_D_flush ⟨Nat.le_of_ble_eq_true rfl, Nat.le_of_ble_eq_true rfl⟩ hK hP hD hS hA (va_recv hK hP (ci := 1) (q0 := (8 + (1 - k))) rfl (x_hD (x_1lt hk))) rfl hl.1 rfl (Nat.le_of_ble_eq_true rfl) d_M_flushBy_30 ⟨Nat.le_of_ble_eq_true rfl, Nat.le_of_ble_eq_true rfl⟩ (fun H locs hP hD hS => ?_)
    obtain ⟨z3, ez3⟩ : ∃ zt_ : x_S, zt_ = x_flush z1 (1 - k) := ⟨_, rfl⟩
    rw [← ez3] at hP hD
    exact x_rv (w := x_w cI cN ad) (by subst ez1 ez3; first | (simp only [x_fl, if_neg c2]; done) | rfl | (simp only [x_fl, if_neg c2]; rfl)) hx hb hr hlk hP hD hS d_M_flushBy_33
end
section
-- ===== 09.xspec2: further methods of the class
def x_step (z : x_S) (k n t : Nat) : x_S :=
  if t = 0 then x_fl z k else if t = 2 then x_fl z k else if t = 3 + 2 * n then x_fl z k else if t = 3 + 2 * n + 2 then x_fl z k
  else if t = 1 then x_wr z k 24 0
  else if 3 + 2 * n ≤ t then (if t = 3 + 2 * n + 1 then x_wr z k 24 (nI n) else if 3 + 2 * n + 3 + n ≤ t then z else x_wr z k (z 3 (t - (3 + 2 * n + 3))).toNatClampNeg (z 4 (t - (3 + 2 * n + 3))))
  else if (t - 3) % 2 = 0 then x_wr z k (25 + (t - 3)) (z 3 ((t - 3) / 2)) else x_wr z k (25 + (t - 3)) (z 4 ((t - 3) / 2))
def x_redoB (z : x_S) (k i : Nat) : x_S := if x_isCell (x_held z k (25 + 2 * i)) = 0 then z else x_wr z k (x_held z k (25 + 2 * i)).toNatClampNeg (x_held z k (25 + 2 * i + 1))
def x_redoL (k : Nat) : Nat → Nat → x_S → x_S
  | 0, _, z => z
  | n + 1, i, z => x_redoL k n (i + 1) (x_redoB z k i)
def x_redo (z : x_S) (k : Nat) : Int32 × x_S := if x_held z k 24 < 1 then (0, z) else if x_held z k 24 ≤ 3 then (x_held z k 24, x_redoL k (x_held z k 24).toNatClampNeg 0 z) else (0, z)
def x_choose (z : x_S) : Int32 := if z 5 2 = z 6 2 then (if z 6 1 = 0 then 0 else 1) else if z 5 2 ≤ z 6 2 then 1 else 0
def x_diff (z : x_S) (s : Nat) : Int32 := if z (5 + s) 2 = z (5 + (1 - s)) 2 then z (5 + s) 5 ||| z (5 + (1 - s)) 5 else if z (5 + s) 4 = 0 then 255 else if z (5 + s) 3 = z (5 + (1 - s)) 2 then z (5 + s) 5 ||| z (5 + (1 - s)) 5 else 255
def x_start (z : x_S) (s : Nat) (d : Int32) : x_S := x_up (x_up (x_up (x_up (x_up z (5 + s) 5 d) (5 + (1 - s)) 5 0) (5 + (1 - s)) 2 0) (5 + (1 - s)) 4 0) 0 2 1
def x_fin (z : x_S) (s : Nat) : x_S :=
  let z1 := x_up z (5 + (1 - s)) 2 (z (5 + s) 2)
  let z2 := x_up (x_up (x_flush z1 0) 5 4 0) 5 5 0
  let z3 := x_up (x_up (x_flush z2 1) 6 4 0) 6 5 0
  x_up z3 0 2 0
def x_cpL (s : Nat) : Nat → Nat → x_S → x_S
  | 0, _, z => z
  | n + 1, i, z => x_cpL s n (i + 1) (x_put z (1 - s) i (x_held z s i))
def x_cp (z : x_S) (s e : Nat) : x_S := x_cpL s 4 (e * 4) z
def x_app (z : x_S) (n : Nat) (c v : Int32) : x_S := if n < 3 then x_up (x_up (x_up z 3 n c) 4 n v) 2 0 (nI n + 1) else z
def x_fillL (k : Nat) : Nat → Nat → x_S → x_S
  | 0, _, z => z
  | n + 1, i, z => x_fillL k n (i + 1) (x_up z (7 + k) i 0)
def x_erase (z : x_S) (k : Nat) : x_S := x_up (x_fillL k 32 0 z) (5 + k) 7 0
def x_renew (z : x_S) (k : Nat) : x_S := x_up (x_up (x_up (x_up (x_erase z k) (5 + k) 2 0) (5 + k) 3 0) (5 + k) 4 0) (5 + k) 5 0
def x_bc1 (a : Int32) : Int32 := a - (x_sh a 1 &&& 1431655765)
def x_bc2 (a : Int32) : Int32 := (a &&& 858993459) + (x_sh a 2 &&& 858993459)
def x_bc3 (a : Int32) : Int32 := (a + x_sh a 4) &&& 252645135
def x_bc4 (a : Int32) : Int32 := a + x_sh a 8
def x_bc5 (a : Int32) : Int32 := a + x_sh a 16
def x_bc (a : Int32) : Int32 := x_bc5 (x_bc4 (x_bc3 (x_bc2 (x_bc1 a)))) &&& 63
def x_nt4 (b n : Int32) : Int32 := if b ≤ 4 then n + x_sh b 1 else (n + 2) + x_sh (x_sh b 2) 1
def x_nt3 (b n : Int32) : Int32 := if b ≤ 16 then x_nt4 b n else x_nt4 (x_sh b 4) (n + 4)
def x_nt2 (b n : Int32) : Int32 := if b ≤ 256 then x_nt3 b n else x_nt3 (x_sh b 8) (n + 8)
def x_nt1 (b n : Int32) : Int32 := if b ≤ 65536 then x_nt2 b n else x_nt2 (x_sh b 16) (n + 16)
def x_ntz (a : Int32) : Int32 := if 0 < (a ^^^ (-1)) &&& (a - 1) then x_nt1 ((a ^^^ (-1)) &&& (a - 1)) 1 else ((a ^^^ (-1)) &&& (a - 1)) &&& 32
section XW3
variable {cI cN : ClassId} {ad : Nat → Nat} {z : x_S}
theorem x_sN0 {i : Nat} (h : i < 7) (v : Int32) : (x_w cI cN ad z).set 6 (ad 6, .inr (2, (x_fN0 ad z).set (1 + i) (.int v))) = x_w cI cN ad (x_up z 5 i v) := by
  match i, h with
  | 0, _ => rfl
  | 1, _ => rfl
  | 2, _ => rfl
  | 3, _ => rfl
  | 4, _ => rfl
  | 5, _ => rfl
  | 6, _ => rfl
theorem x_sN1 {i : Nat} (h : i < 7) (v : Int32) : (x_w cI cN ad z).set 7 (ad 7, .inr (2, (x_fN1 ad z).set (1 + i) (.int v))) = x_w cI cN ad (x_up z 6 i v) := by
  match i, h with
  | 0, _ => rfl
  | 1, _ => rfl
  | 2, _ => rfl
  | 3, _ => rfl
  | 4, _ => rfl
  | 5, _ => rfl
  | 6, _ => rfl
end XW3
theorem x_n32 (n : Nat) : (3 : Int32) + 2 * nI n = nI (3 + 2 * n) := by
  show nI 3 + nI 2 * nI n = _
  rw [pk_mul, nI_add]
theorem x_nadd (a b : Nat) : nI a + nI b = nI (a + b) := nI_add a b
theorem x_nmul (a b : Nat) : nI a * nI b = nI (a * b) := pk_mul a b
theorem x_cellE {c : Int32} (h : ¬ x_isCell c = 0) : ∃ b : Nat, b < 24 ∧ c = nI b := by
  unfold x_isCell at h
  by_cases h0 : c < 0
  · simp [h0] at h
  · by_cases h1 : (24 : Int32) ≤ c
    · simp [h0, h1] at h
    · rcases pk_ix c (n := 24) (by decide) with q | q | q
      · exact absurd q h0
      · exact absurd q h1
      · exact q
theorem x_nodeE {c : Int32} (h : ¬ x_isNode c = 0) : ∃ b : Nat, b < 2 ∧ c = nI b := by
  unfold x_isNode at h
  by_cases h0 : c < 0
  · simp [h0] at h
  · by_cases h1 : (2 : Int32) ≤ c
    · simp [h0, h1] at h
    · rcases pk_ix c (n := 2) (by decide) with q | q | q
      · exact absurd q h0
      · exact absurd q h1
      · exact q
theorem x_oneTo3 {r : Int32} (h1 : ¬ r < 1) (h3 : r ≤ 3) : ∃ e : Nat, 1 ≤ e ∧ e ≤ 3 ∧ r = nI e := by
  have h0 : ¬ r < 0 := fun h => h1 (Int32.lt_trans h (by decide))
  obtain ⟨j, hj, rfl⟩ := nI_of h0
  refine ⟨j, ?_, ?_, rfl⟩
  · rcases Nat.lt_or_ge j 1 with q | q
    · exact absurd (show nI j < nI 1 from nI_lt q (by decide)) h1
    · exact q
  · exact (nI_leI (b := 3) hj (by decide)).mp h3
end
section
-- ===== 10.x3: append, erase, bit counts, sources
set_option maxHeartbeats 4000000 in
set_option maxRecDepth 100000 in
theorem c_B_append_ok (l : Launch) (D : va_G) (cI cN : ClassId) (ad : Nat → Nat) (z : x_S) (n : Nat) (hn : n ≤ 3) (hz : z 2 0 = nI n) (a v : Int32) : x_C l y_B_append c_B_append 3 none { frames := 0, cells := 0, slots := 0, locals := 0 } D (x_ty cI cN) (x_w cI cN ad z) [.ref (ad 3), .int a, .int v] (none) (x_w cI cN ad (x_app z n a v)) := by
  refine x_C.of (by decide) (Nat.le_of_ble_eq_true rfl) ?_
  intro p e s m below meth c hx hb hr hml hts hown hlk A hA hK hS hP hD ls hl
  have hown : s.vm.findClass R_B = some m.cls := hown
  have hl : lv_has ls 3 [(0, .ref (ad 3)), (1, .int a), (2, .int v)] := hl
  refine lv_aload_n hx hb d_B_append_0 rfl (lv_at hl 0 rfl) ?_
  refine va_get (D := D) (ci := 0) (C := R_B) (T := T_B) (N := 3) hx hb hts in_B hown hK hP 3 x_hB rfl 2 (by decide) (hts _ gm_57) (fun _ h9 => h9) rfl d_B_append_1 ?_
  refine x_top (show z 2 0 = nI n by exact hz) ?_
  refine lv_iconst (v := 3) hx hb d_B_append_4 (by decide) ?_
  refine lv_icmp_lt (tgt := 9) hx hb d_B_append_5 (by decide) (fun c1 => ?_) (fun c1 => ?_)
  · have c1 : n < 3 := (nI_ltI (a := n) (b := 3) (by omega) (by omega)).mp c1
    refine lv_aload_n hx hb d_B_append_9 rfl (lv_at hl 0 rfl) ?_
    refine va_get (D := D) (ci := 0) (C := R_B) (T := T_B) (N := 3) hx hb hts in_B hown hK hP 3 x_hB rfl 0 (by decide) (hts _ gm_53) (fun _ h9 => h9) rfl d_B_append_10 ?_
    refine lv_aload_n hx hb d_B_append_13 rfl (lv_at hl 0 rfl) ?_
    refine va_get (D := D) (ci := 0) (C := R_B) (T := T_B) (N := 3) hx hb hts in_B hown hK hP 3 x_hB rfl 2 (by decide) (hts _ gm_57) (fun _ h9 => h9) rfl d_B_append_14 ?_
    refine x_top (show z 2 0 = nI n by exact hz) ?_
    refine lv_iload_n hx hb d_B_append_17 rfl (lv_at hl 1 rfl) ?_
    refine va_iast (D := D) hx hb hK hP hD hS 4 0 x_hBc rfl (x_in3 (by omega)) d_B_append_18 (fun H locs hP hD hS => ?_)
    obtain ⟨z2, ez2⟩ : ∃ zt_ : x_S, zt_ = x_up z 3 n a := ⟨_, rfl⟩
    rw [x_cl3 (by omega)] at hP hD
    have hP : va_P D vwCl (x_w cI cN ad z2) H := by rw [ez2, ← x_sBc n a]; exact hP
    have hD : va_D A (x_w cI cN ad z2) := by rw [ez2, ← x_sBc n a]; exact hD
    refine lv_aload_n hx hb d_B_append_19 rfl (lv_at hl 0 rfl) ?_
    refine va_get (D := D) (ci := 0) (C := R_B) (T := T_B) (N := 3) hx hb hts in_B hown hK hP 3 x_hB rfl 1 (by decide) (hts _ gm_55) (fun _ h9 => h9) rfl d_B_append_20 ?_
    refine lv_aload_n hx hb d_B_append_23 rfl (lv_at hl 0 rfl) ?_
    refine va_get (D := D) (ci := 0) (C := R_B) (T := T_B) (N := 3) hx hb hts in_B hown hK hP 3 x_hB rfl 2 (by decide) (hts _ gm_57) (fun _ h9 => h9) rfl d_B_append_24 ?_
    refine x_top (show z2 2 0 = nI n by subst ez2; exact hz) ?_
    refine lv_iload_n hx hb d_B_append_27 rfl (lv_at hl 2 rfl) ?_
    refine va_iast (D := D) hx hb hK hP hD hS 5 0 x_hBv rfl (x_in3 (by omega)) d_B_append_28 (fun H locs hP hD hS => ?_)
    obtain ⟨z3, ez3⟩ : ∃ zt_ : x_S, zt_ = x_up z2 4 n v := ⟨_, rfl⟩
    rw [x_cl3 (by omega)] at hP hD
    have hP : va_P D vwCl (x_w cI cN ad z3) H := by rw [ez3, ← x_sBv n v]; exact hP
    have hD : va_D A (x_w cI cN ad z3) := by rw [ez3, ← x_sBv n v]; exact hD
    refine lv_aload_n hx hb d_B_append_29 rfl (lv_at hl 0 rfl) ?_
    refine lv_dup hx hb d_B_append_30 rfl ?_
    refine va_get (D := D) (ci := 0) (C := R_B) (T := T_B) (N := 3) hx hb hts in_B hown hK hP 3 x_hB rfl 2 (by decide) (hts _ gm_57) (fun _ h9 => h9) rfl d_B_append_31 ?_
    refine x_top (show z3 2 0 = nI n by subst ez2 ez3; exact hz) ?_
    refine lv_iconst (v := 1) hx hb d_B_append_34 (by decide) ?_
    refine lv_iadd hx hb d_B_append_35 ?_
    refine va_put (D := D) (ci := 0) (v := .int ((nI n) + 1)) (ty := .int) (C := R_B) (T := T_B) (N := 3) hx hb hts in_B fy_B fy_B_ok n_B hown hK hP hD hS 3 x_hB rfl 2 (by decide) (hts _ gm_57) (fun _ h9 => h9) rfl (by decide +kernel) rfl rfl (Nat.le_of_ble_eq_true rfl) d_B_append_36 (fun H locs hP hD hS => ?_)
    obtain ⟨z4, ez4⟩ : ∃ zt_ : x_S, zt_ = x_up z3 2 0 ((nI n) + 1) := ⟨_, rfl⟩
    have hP : va_P D vwCl (x_w cI cN ad z4) H := by rw [ez4, ← x_sB ((nI n) + 1)]; exact hP
    have hD : va_D A (x_w cI cN ad z4) := by rw [ez4, ← x_sB ((nI n) + 1)]; exact hD
    exact x_rv (w := x_w cI cN ad) (by subst ez2 ez3 ez4; first | (simp only [x_app, if_pos c1]; done) | rfl | (simp only [x_app, if_pos c1]; rfl)) hx hb hr hlk hP hD hS d_B_append_39
  · have c1 : ¬ n < 3 := fun h => c1 ((nI_ltI (a := n) (b := 3) (by omega) (by omega)).mpr h)
    exact x_rv (w := x_w cI cN ad) (by first | (simp only [x_app, if_neg c1]; done) | rfl | (simp only [x_app, if_neg c1]; rfl)) hx hb hr hlk hP hD hS d_B_append_8
set_option maxHeartbeats 4000000 in
set_option maxRecDepth 100000 in
theorem c_Y_fill_ok (l : Launch) (D : va_G) (cI cN : ClassId) (ad : Nat → Nat) (z : x_S) (k : Nat) (hk : k < 2) : x_C l y_Y_fill c_Y_fill 4 none { frames := 0, cells := 0, slots := 0, locals := 0 } D (x_ty cI cN) (x_w cI cN ad z) [.ref (ad (10 + k)), .int 0] (none) (x_w cI cN ad (x_fillL k 32 0 z)) := by
  refine x_C.of (by decide) (Nat.le_of_ble_eq_true rfl) ?_
  intro p e s m below meth c hx hb hr hml hts hown hlk A hA hK hS hP hD ls hl
  have hown : s.vm.findClass R_Y = some m.cls := hown
  have hl : lv_has ls 4 [(0, .ref (ad (10 + k))), (1, .int 0)] := hl
  have lp : ∀ (n i : Nat) (y : x_S) (H : Heap) (locs : List Loc) (ls : Array Slot), i + n = 32 → x_fillL k 32 0 z = x_fillL k n i y → va_P D vwCl (x_w cI cN ad y) H → va_D A (x_w cI cN ad y) → va_S A s.heap H locs → lv_has ls 4 [(3, .int 32), (2, .int (nI i)), (0, .ref (ad (10 + k))), (1, .int 0)] → W p l e { frames := 0, cells := 0, slots := 0, locals := 0 } s m [.ref (ad (10 + k)), .int 0].toArray below meth c H locs 0 0 (MQ below (x_Q (none) D (x_w cI cN ad (x_fillL k 32 0 z)) A) [.ref (ad (10 + k)), .int 0].toArray s 0 0 A) (F0 m 5 ls []) := by
    intro n
    induction n with
    | zero =>
      intro i y  H locs ls hn hI hP hD hS hl
      refine lv_iload_n hx hb d_Y_fill_5 rfl (lv_at hl 1 rfl) ?_
      refine lv_iload_n hx hb d_Y_fill_6 rfl (lv_at hl 0 rfl) ?_
      refine lv_icmp_ge (tgt := 20) hx hb d_Y_fill_7 (by decide) (fun c1 => ?_) (fun c1 => ?_)
      · exact x_rv (w := x_w cI cN ad) (by rw [hI]; rfl) hx hb hr hlk hP hD hS d_Y_fill_20
      · exact absurd (show (32 : Int32) ≤ nI i from nI_le (a := 32) (by omega) (by omega)) c1
    | succ n ih =>
      intro i y  H locs ls hn hI hP hD hS hl
      have hi : i < 32 := by omega
      refine lv_iload_n hx hb d_Y_fill_5 rfl (lv_at hl 1 rfl) ?_
      refine lv_iload_n hx hb d_Y_fill_6 rfl (lv_at hl 0 rfl) ?_
      refine lv_icmp_ge (tgt := 20) hx hb d_Y_fill_7 (by decide) (fun c2 => ?_) (fun c2 => ?_)
      · exact absurd c2 (show ¬ (32 : Int32) ≤ nI i from nI_ge (b := 32) (by omega) (by decide))
      · refine lv_aload_n hx hb d_Y_fill_10 rfl (lv_at hl 2 rfl) ?_
        refine lv_iload_n hx hb d_Y_fill_11 rfl (lv_at hl 1 rfl) ?_
        refine lv_iload_n hx hb d_Y_fill_12 rfl (lv_at hl 3 rfl) ?_
        refine va_iast (D := D) hx hb hK hP hD hS (10 + k) 0 (x_hS hk) rfl (x_in32 hi) d_Y_fill_13 (fun H locs hP hD hS => ?_)
        obtain ⟨z3, ez3⟩ : ∃ zt_ : x_S, zt_ = x_up y (7 + k) i 0 := ⟨_, rfl⟩
        rw [x_cl32 hi] at hP hD
        have hP : va_P D vwCl (x_w cI cN ad z3) H := by rw [ez3, ← x_sS hk i 0]; exact hP
        have hD : va_D A (x_w cI cN ad z3) := by rw [ez3, ← x_sS hk i 0]; exact hD
        refine lv_iinc (v := nI (i + 1)) (lv' := [(2, .int (nI (i + 1))), (3, .int 32), (0, .ref (ad (10 + k))), (1, .int 0)]) hx hb d_Y_fill_14 hl (k := 1) rfl (nI_1 _) (by decide) rfl (fun ls hl => ?_)
        refine lv_goto (tgt := 5) hx hb d_Y_fill_17 (by decide) ?_
        exact ih (i + 1) z3 H locs ls (by omega) (by subst ez3; rw [hI]; simp only [x_fillL]) hP hD hS (lv_sub hl [1, 0, 2, 3] rfl)
  refine lv_iconst (v := 0) hx hb d_Y_fill_0 (by decide) ?_
  refine lv_istore_n (lv' := [(2, .int 0), (0, .ref (ad (10 + k))), (1, .int 0)]) hx hb d_Y_fill_1 rfl hl (by decide) rfl (fun ls hl => ?_)
  refine lv_aload_n hx hb d_Y_fill_2 rfl (lv_at hl 1 rfl) ?_
  refine va_alen (D := D) (v := 32) hx hb hK hP (10 + k) 0 (x_hS hk) rfl rfl d_Y_fill_3 ?_
  refine lv_istore_n (lv' := [(3, .int 32), (2, .int 0), (0, .ref (ad (10 + k))), (1, .int 0)]) hx hb d_Y_fill_4 rfl hl (by decide) rfl (fun ls hl => ?_)
  exact lp 32 0 z _ _ ls rfl rfl hP hD hS (lv_sub hl [0, 1, 2, 3] rfl)
set_option maxHeartbeats 4000000 in
set_option maxRecDepth 100000 in
theorem c_D_erase_ok (l : Launch) (D : va_G) (cI cN : ClassId) (ad : Nat → Nat) (z : x_S) (k : Nat) (hk : k < 2) : x_C l y_D_erase c_D_erase 1 none { frames := 1, cells := 0, slots := 0, locals := 23 } D (x_ty cI cN) (x_w cI cN ad z) [.ref (ad (8 + k))] (none) (x_w cI cN ad (x_erase z k)) := by
  refine x_C.of (by decide) (Nat.le_of_ble_eq_true rfl) ?_
  intro p e s m below meth c hx hb hr hml hts hown hlk A hA hK hS hP hD ls hl
  have hown : s.vm.findClass R_D = some m.cls := hown
  have hl : lv_has ls 1 [(0, .ref (ad (8 + k)))] := hl
  refine lv_aload_n hx hb d_D_erase_0 rfl (lv_at hl 0 rfl) ?_
  refine va_get (D := D) (ci := 1) (C := R_D) (T := T_D) (N := 3) hx hb hts in_D hown hK hP (8 + k) (x_hD hk) rfl 0 (by decide) (hts _ gm_78) (fun _ h9 => h9) rfl d_D_erase_1 ?_
  refine lv_iconst (v := 0) hx hb d_D_erase_4 (by decide) ?_
  refine x_T (rest := []) ⟨hx, hb, hml, hown, hts⟩ (c_Y_fill_ok l D cI cN ad z k hk) gm_280 gm_281 gm_35 gm_282 ⟨rfl, rfl⟩ hd_Y_fill ⟨Nat.le_of_ble_eq_true rfl, Nat.le_of_ble_eq_true rfl⟩ hK hP hD hS hA rfl hl.1 rfl (Nat.le_of_ble_eq_true rfl) d_D_erase_5 ⟨Nat.le_of_ble_eq_true rfl, Nat.le_of_ble_eq_true rfl⟩ (fun H locs hP hD hS => ?_)
  obtain ⟨z1, ez1⟩ : ∃ zt_ : x_S, zt_ = x_fillL k 32 0 z := ⟨_, rfl⟩
  rw [← ez1] at hP hD
  refine lv_aload_n hx hb d_D_erase_8 rfl (lv_at hl 0 rfl) ?_
  refine lv_iconst (v := 0) hx hb d_D_erase_9 (by decide) ?_
  refine va_put (D := D) (ci := 1) (v := .int 0) (ty := .int) (C := R_D) (T := T_D) (N := 3) hx hb hts in_D fy_D fy_D_ok n_D hown hK hP hD hS (8 + k) (x_hD hk) rfl 2 (by decide) (hts _ gm_81) (fun _ h9 => h9) rfl (by decide +kernel) rfl rfl (Nat.le_of_ble_eq_true rfl) d_D_erase_10 (fun H locs hP hD hS => ?_)
  obtain ⟨z2, ez2⟩ : ∃ zt_ : x_S, zt_ = x_up z1 (5 + k) 7 0 := ⟨_, rfl⟩
  have hP : va_P D vwCl (x_w cI cN ad z2) H := by rw [ez2, ← x_sD hk 0]; exact hP
  have hD : va_D A (x_w cI cN ad z2) := by rw [ez2, ← x_sD hk 0]; exact hD
  exact x_rv (w := x_w cI cN ad) (by subst ez1 ez2; first | (simp only [x_erase]; done) | rfl | (simp only [x_erase]; rfl)) hx hb hr hlk hP hD hS d_D_erase_13
set_option maxHeartbeats 4000000 in
set_option maxRecDepth 100000 in
theorem c_N_renewDisk_ok (l : Launch) (D : va_G) (cI cN : ClassId) (ad : Nat → Nat) (z : x_S) (k : Nat) (hk : k < 2) : x_C l y_N_renewDisk c_N_renewDisk 1 none { frames := 2, cells := 0, slots := 0, locals := 43 } D (x_ty cI cN) (x_w cI cN ad z) [.ref (ad (6 + k))] (none) (x_w cI cN ad (x_renew z k)) := by
  refine x_C.of (by decide) (Nat.le_of_ble_eq_true rfl) ?_
  intro p e s m below meth c hx hb hr hml hts hown hlk A hA hK hS hP hD ls hl
  have hown : s.vm.findClass R_N = some m.cls := hown
  have hl : lv_has ls 1 [(0, .ref (ad (6 + k)))] := hl
  refine lv_aload_n hx hb d_N_renewDisk_0 rfl (lv_at hl 0 rfl) ?_
  refine va_get (D := D) (ci := 2) (C := R_N) (T := T_N) (N := 8) hx hb hts in_N hown hK hP (6 + k) (x_hN hk) rfl 0 (by decide) (hts _ gm_89) (fun _ h9 => h9) rfl d_N_renewDisk_1 ?_
  refine x_V (rest := []) ⟨hx, hb, hml, hown, hts⟩ (c_D_erase_ok l D cI cN ad z k hk) gm_276 gm_277 gm_278 gm_31 gm_279 ⟨rfl, rfl⟩ hd_D_erase ⟨Nat.le_of_ble_eq_true rfl, Nat.le_of_ble_eq_true rfl⟩ hK hP hD hS hA (va_recv hK hP (ci := 1) (q0 := (8 + k)) rfl (x_hD hk)) rfl hl.1 rfl (Nat.le_of_ble_eq_true rfl) d_N_renewDisk_4 ⟨Nat.le_of_ble_eq_true rfl, Nat.le_of_ble_eq_true rfl⟩ (fun H locs hP hD hS => ?_)
  obtain ⟨z1, ez1⟩ : ∃ zt_ : x_S, zt_ = x_erase z k := ⟨_, rfl⟩
  rw [← ez1] at hP hD
  refine lv_aload_n hx hb d_N_renewDisk_7 rfl (lv_at hl 0 rfl) ?_
  refine lv_iconst (v := 0) hx hb d_N_renewDisk_8 (by decide) ?_
  refine va_put (D := D) (ci := 2) (v := .int 0) (ty := .int) (C := R_N) (T := T_N) (N := 8) hx hb hts in_N fy_N fy_N_ok n_N hown hK hP hD hS (6 + k) (x_hN hk) rfl 3 (by decide) (hts _ gm_95) (fun _ h9 => h9) rfl (by decide +kernel) rfl rfl (Nat.le_of_ble_eq_true rfl) d_N_renewDisk_9 (fun H locs hP hD hS => ?_)
  obtain ⟨z2, ez2⟩ : ∃ zt_ : x_S, zt_ = x_up z1 (5 + k) 2 0 := ⟨_, rfl⟩
  have hP : va_P D vwCl (x_w cI cN ad z2) H := by rw [ez2, ← x_sN (i := 2) hk (by decide) 0]; exact hP
  have hD : va_D A (x_w cI cN ad z2) := by rw [ez2, ← x_sN (i := 2) hk (by decide) 0]; exact hD
  refine lv_aload_n hx hb d_N_renewDisk_12 rfl (lv_at hl 0 rfl) ?_
  refine lv_iconst (v := 0) hx hb d_N_renewDisk_13 (by decide) ?_
  refine va_put (D := D) (ci := 2) (v := .int 0) (ty := .int) (C := R_N) (T := T_N) (N := 8) hx hb hts in_N fy_N fy_N_ok n_N hown hK hP hD hS (6 + k) (x_hN hk) rfl 4 (by decide) (hts _ gm_97) (fun _ h9 => h9) rfl (by decide +kernel) rfl rfl (Nat.le_of_ble_eq_true rfl) d_N_renewDisk_14 (fun H locs hP hD hS => ?_)
  obtain ⟨z3, ez3⟩ : ∃ zt_ : x_S, zt_ = x_up z2 (5 + k) 3 0 := ⟨_, rfl⟩
  have hP : va_P D vwCl (x_w cI cN ad z3) H := by rw [ez3, ← x_sN (i := 3) hk (by decide) 0]; exact hP
  have hD : va_D A (x_w cI cN ad z3) := by rw [ez3, ← x_sN (i := 3) hk (by decide) 0]; exact hD
  refine lv_aload_n hx hb d_N_renewDisk_17 rfl (lv_at hl 0 rfl) ?_
  refine lv_iconst (v := 0) hx hb d_N_renewDisk_18 (by decide) ?_
  refine va_put (D := D) (ci := 2) (v := .int 0) (ty := .boolean) (C := R_N) (T := T_N) (N := 8) hx hb hts in_N fy_N fy_N_ok n_N hown hK hP hD hS (6 + k) (x_hN hk) rfl 5 (by decide) (hts _ gm_99) (fun _ h9 => h9) rfl (by decide +kernel) rfl rfl (Nat.le_of_ble_eq_true rfl) d_N_renewDisk_19 (fun H locs hP hD hS => ?_)
  obtain ⟨z4, ez4⟩ : ∃ zt_ : x_S, zt_ = x_up z3 (5 + k) 4 0 := ⟨_, rfl⟩
  have hP : va_P D vwCl (x_w cI cN ad z4) H := by rw [ez4, ← x_sN (i := 4) hk (by decide) 0]; exact hP
  have hD : va_D A (x_w cI cN ad z4) := by rw [ez4, ← x_sN (i := 4) hk (by decide) 0]; exact hD
  refine lv_aload_n hx hb d_N_renewDisk_22 rfl (lv_at hl 0 rfl) ?_
  refine lv_iconst (v := 0) hx hb d_N_renewDisk_23 (by decide) ?_
  refine va_put (D := D) (ci := 2) (v := .int 0) (ty := .int) (C := R_N) (T := T_N) (N := 8) hx hb hts in_N fy_N fy_N_ok n_N hown hK hP hD hS (6 + k) (x_hN hk) rfl 6 (by decide) (hts _ gm_101) (fun _ h9 => h9) rfl (by decide +kernel) rfl rfl (Nat.le_of_ble_eq_true rfl) d_N_renewDisk_24 (fun H locs hP hD hS => ?_)
  obtain ⟨z5, ez5⟩ : ∃ zt_ : x_S, zt_ = x_up z4 (5 + k) 5 0 := ⟨_, rfl⟩
  have hP : va_P D vwCl (x_w cI cN ad z5) H := by rw [ez5, ← x_sN (i := 5) hk (by decide) 0]; exact hP
  have hD : va_D A (x_w cI cN ad z5) := by rw [ez5, ← x_sN (i := 5) hk (by decide) 0]; exact hD
  exact x_rv (w := x_w cI cN ad) (by subst ez1 ez2 ez3 ez4 ez5; first | (simp only [x_renew]; done) | rfl | (simp only [x_renew]; rfl)) hx hb hr hlk hP hD hS d_N_renewDisk_27
set_option maxHeartbeats 4000000 in
set_option maxRecDepth 100000 in
theorem c_J_bitCount_ok (l : Launch) (D : va_G) (cI cN : ClassId) (ad : Nat → Nat) (z : x_S) (a : Int32) : x_C l y_J_bitCount c_J_bitCount 1 (some .int) { frames := 0, cells := 0, slots := 0, locals := 0 } D (x_ty cI cN) (x_w cI cN ad z) [.int a] (some (.int (x_bc a))) (x_w cI cN ad z) := by
  refine x_C.of (by decide) (Nat.le_of_ble_eq_true rfl) ?_
  intro p e s m below meth c hx hb hr hml hts hown hlk A hA hK hS hP hD ls hl
  have hown : s.vm.findClass R_J = some m.cls := hown
  have hl : lv_has ls 1 [(0, .int a)] := hl
  refine lv_iload_n hx hb d_J_bitCount_0 rfl (lv_at hl 0 rfl) ?_
  refine lv_iload_n hx hb d_J_bitCount_1 rfl (lv_at hl 0 rfl) ?_
  refine lv_iconst (v := 1) hx hb d_J_bitCount_2 (by decide) ?_
  refine lv_iushr (v := x_sh a 1) hx hb d_J_bitCount_3 rfl ?_
  refine lv_ldcw (v := 1431655765) hx hb hown (hts (.constant R_J 265 1431655765) gm_314) d_J_bitCount_4 ?_
  refine lv_iand hx hb d_J_bitCount_7 ?_
  refine lv_isub hx hb d_J_bitCount_8 ?_
  refine lv_topi (fun a1 ea1 => ?_)
  refine lv_istore_n (lv' := [(0, .int a1)]) hx hb d_J_bitCount_9 rfl hl (by decide) rfl (fun ls hl => ?_)
  refine lv_iload_n hx hb d_J_bitCount_10 rfl (lv_at hl 0 rfl) ?_
  refine lv_ldcw (v := 858993459) hx hb hown (hts (.constant R_J 266 858993459) gm_315) d_J_bitCount_11 ?_
  refine lv_iand hx hb d_J_bitCount_14 ?_
  refine lv_iload_n hx hb d_J_bitCount_15 rfl (lv_at hl 0 rfl) ?_
  refine lv_iconst (v := 2) hx hb d_J_bitCount_16 (by decide) ?_
  refine lv_iushr (v := x_sh a1 2) hx hb d_J_bitCount_17 rfl ?_
  refine lv_ldcw (v := 858993459) hx hb hown (hts (.constant R_J 266 858993459) gm_315) d_J_bitCount_18 ?_
  refine lv_iand hx hb d_J_bitCount_21 ?_
  refine lv_iadd hx hb d_J_bitCount_22 ?_
  refine lv_topi (fun a2 ea2 => ?_)
  refine lv_istore_n (lv' := [(0, .int a2)]) hx hb d_J_bitCount_23 rfl hl (by decide) rfl (fun ls hl => ?_)
  refine lv_iload_n hx hb d_J_bitCount_24 rfl (lv_at hl 0 rfl) ?_
  refine lv_iload_n hx hb d_J_bitCount_25 rfl (lv_at hl 0 rfl) ?_
  refine lv_iconst (v := 4) hx hb d_J_bitCount_26 (by decide) ?_
  refine lv_iushr (v := x_sh a2 4) hx hb d_J_bitCount_27 rfl ?_
  refine lv_iadd hx hb d_J_bitCount_28 ?_
  refine lv_ldcw (v := 252645135) hx hb hown (hts (.constant R_J 267 252645135) gm_316) d_J_bitCount_29 ?_
  refine lv_iand hx hb d_J_bitCount_32 ?_
  refine lv_topi (fun a3 ea3 => ?_)
  refine lv_istore_n (lv' := [(0, .int a3)]) hx hb d_J_bitCount_33 rfl hl (by decide) rfl (fun ls hl => ?_)
  refine lv_iload_n hx hb d_J_bitCount_34 rfl (lv_at hl 0 rfl) ?_
  refine lv_iload_n hx hb d_J_bitCount_35 rfl (lv_at hl 0 rfl) ?_
  refine lv_bipush (v := 8) hx hb d_J_bitCount_36 (by decide) ?_
  refine lv_iushr (v := x_sh a3 8) hx hb d_J_bitCount_38 rfl ?_
  refine lv_iadd hx hb d_J_bitCount_39 ?_
  refine lv_topi (fun a4 ea4 => ?_)
  refine lv_istore_n (lv' := [(0, .int a4)]) hx hb d_J_bitCount_40 rfl hl (by decide) rfl (fun ls hl => ?_)
  refine lv_iload_n hx hb d_J_bitCount_41 rfl (lv_at hl 0 rfl) ?_
  refine lv_iload_n hx hb d_J_bitCount_42 rfl (lv_at hl 0 rfl) ?_
  refine lv_bipush (v := 16) hx hb d_J_bitCount_43 (by decide) ?_
  refine lv_iushr (v := x_sh a4 16) hx hb d_J_bitCount_45 rfl ?_
  refine lv_iadd hx hb d_J_bitCount_46 ?_
  refine lv_topi (fun a5 ea5 => ?_)
  refine lv_istore_n (lv' := [(0, .int a5)]) hx hb d_J_bitCount_47 rfl hl (by decide) rfl (fun ls hl => ?_)
  refine lv_iload_n hx hb d_J_bitCount_48 rfl (lv_at hl 0 rfl) ?_
  refine lv_bipush (v := 63) hx hb d_J_bitCount_49 (by decide) ?_
  refine lv_iand hx hb d_J_bitCount_51 ?_
  exact x_rp (by subst ea1 ea2 ea3 ea4 ea5; first | (simp only [x_bc, x_bc1, x_bc2, x_bc3, x_bc4, x_bc5]; done) | rfl | (simp only [x_bc, x_bc1, x_bc2, x_bc3, x_bc4, x_bc5]; rfl)) hx hb hr hlk hP hD hS d_J_bitCount_52
set_option maxHeartbeats 4000000 in
set_option maxRecDepth 100000 in
theorem c_J_numberOfTrailingZeros_ok (l : Launch) (D : va_G) (cI cN : ClassId) (ad : Nat → Nat) (z : x_S) (a : Int32) : x_C l y_J_numberOfTrailingZeros c_J_numberOfTrailingZeros 2 (some .int) { frames := 0, cells := 0, slots := 0, locals := 0 } D (x_ty cI cN) (x_w cI cN ad z) [.int a] (some (.int (x_ntz a))) (x_w cI cN ad z) := by
  refine x_C.of (by decide) (Nat.le_of_ble_eq_true rfl) ?_
  intro p e s m below meth c hx hb hr hml hts hown hlk A hA hK hS hP hD ls hl
  have hown : s.vm.findClass R_J = some m.cls := hown
  have hl : lv_has ls 2 [(0, .int a)] := hl
  refine lv_iload_n hx hb d_J_numberOfTrailingZeros_0 rfl (lv_at hl 0 rfl) ?_
  refine lv_iconst (v := (-1)) hx hb d_J_numberOfTrailingZeros_1 (by decide) ?_
  refine lv_ixor hx hb d_J_numberOfTrailingZeros_2 ?_
  refine lv_iload_n hx hb d_J_numberOfTrailingZeros_3 rfl (lv_at hl 0 rfl) ?_
  refine lv_iconst (v := 1) hx hb d_J_numberOfTrailingZeros_4 (by decide) ?_
  refine lv_isub hx hb d_J_numberOfTrailingZeros_5 ?_
  refine lv_iand hx hb d_J_numberOfTrailingZeros_6 ?_
  refine lv_istore_n (lv' := [(0, .int ((a ^^^ (-1)) &&& (a - 1)))]) hx hb d_J_numberOfTrailingZeros_7 rfl hl (by decide) rfl (fun ls hl => ?_)
  refine lv_iload_n hx hb d_J_numberOfTrailingZeros_8 rfl (lv_at hl 0 rfl) ?_
  refine lv_if_gt (tgt := 17) hx hb d_J_numberOfTrailingZeros_9 (by decide) (fun c1 => ?_) (fun c1 => ?_)
  · refine lv_iconst (v := 1) hx hb d_J_numberOfTrailingZeros_17 (by decide) ?_
    refine lv_istore_n (lv' := [(1, .int 1), (0, .int ((a ^^^ (-1)) &&& (a - 1)))]) hx hb d_J_numberOfTrailingZeros_18 rfl hl (by decide) rfl (fun ls hl => ?_)
    refine lv_iload_n hx hb d_J_numberOfTrailingZeros_19 rfl (lv_at hl 1 rfl) ?_
    refine lv_ldcw (v := 65536) hx hb hown (hts (.constant R_J 264 65536) gm_324) d_J_numberOfTrailingZeros_20 ?_
    refine lv_icmp_le (tgt := 34) hx hb d_J_numberOfTrailingZeros_23 (by decide) (fun c2 => ?_) (fun c2 => ?_)
    · refine lv_iload_n hx hb d_J_numberOfTrailingZeros_34 rfl (lv_at hl 1 rfl) ?_
      refine lv_sipush (v := 256) hx hb d_J_numberOfTrailingZeros_35 (by decide) ?_
      refine lv_icmp_le (tgt := 49) hx hb d_J_numberOfTrailingZeros_38 (by decide) (fun c3 => ?_) (fun c3 => ?_)
      · refine lv_iload_n hx hb d_J_numberOfTrailingZeros_49 rfl (lv_at hl 1 rfl) ?_
        refine lv_bipush (v := 16) hx hb d_J_numberOfTrailingZeros_50 (by decide) ?_
        refine lv_icmp_le (tgt := 62) hx hb d_J_numberOfTrailingZeros_52 (by decide) (fun c4 => ?_) (fun c4 => ?_)
        · refine lv_iload_n hx hb d_J_numberOfTrailingZeros_62 rfl (lv_at hl 1 rfl) ?_
          refine lv_iconst (v := 4) hx hb d_J_numberOfTrailingZeros_63 (by decide) ?_
          refine lv_icmp_le (tgt := 74) hx hb d_J_numberOfTrailingZeros_64 (by decide) (fun c5 => ?_) (fun c5 => ?_)
          · refine lv_iload_n hx hb d_J_numberOfTrailingZeros_74 rfl (lv_at hl 0 rfl) ?_
            refine lv_iload_n hx hb d_J_numberOfTrailingZeros_75 rfl (lv_at hl 1 rfl) ?_
            refine lv_iconst (v := 1) hx hb d_J_numberOfTrailingZeros_76 (by decide) ?_
            refine lv_iushr (v := x_sh ((a ^^^ (-1)) &&& (a - 1)) 1) hx hb d_J_numberOfTrailingZeros_77 rfl ?_
            refine lv_iadd hx hb d_J_numberOfTrailingZeros_78 ?_
            exact x_rp (by first | (simp only [x_ntz, x_nt1, x_nt2, x_nt3, x_nt4, if_pos c1, if_pos c2, if_pos c3, if_pos c4, if_pos c5]; done) | rfl | (simp only [x_ntz, x_nt1, x_nt2, x_nt3, x_nt4, if_pos c1, if_pos c2, if_pos c3, if_pos c4, if_pos c5]; rfl)) hx hb hr hlk hP hD hS d_J_numberOfTrailingZeros_79
          · refine lv_iinc (v := 1 + 2) (lv' := [(1, .int (1 + 2)), (0, .int ((a ^^^ (-1)) &&& (a - 1)))]) hx hb d_J_numberOfTrailingZeros_67 hl (k := 0) rfl rfl (by decide) rfl (fun ls hl => ?_)
            refine lv_iload_n hx hb d_J_numberOfTrailingZeros_70 rfl (lv_at hl 1 rfl) ?_
            refine lv_iconst (v := 2) hx hb d_J_numberOfTrailingZeros_71 (by decide) ?_
            refine lv_iushr (v := x_sh ((a ^^^ (-1)) &&& (a - 1)) 2) hx hb d_J_numberOfTrailingZeros_72 rfl ?_
            refine lv_istore_n (lv' := [(0, .int (x_sh ((a ^^^ (-1)) &&& (a - 1)) 2)), (1, .int (1 + 2))]) hx hb d_J_numberOfTrailingZeros_73 rfl hl (by decide) rfl (fun ls hl => ?_)
            refine lv_iload_n hx hb d_J_numberOfTrailingZeros_74 rfl (lv_at hl 1 rfl) ?_
            refine lv_iload_n hx hb d_J_numberOfTrailingZeros_75 rfl (lv_at hl 0 rfl) ?_
            refine lv_iconst (v := 1) hx hb d_J_numberOfTrailingZeros_76 (by decide) ?_
            refine lv_iushr (v := x_sh (x_sh ((a ^^^ (-1)) &&& (a - 1)) 2) 1) hx hb d_J_numberOfTrailingZeros_77 rfl ?_
            refine lv_iadd hx hb d_J_numberOfTrailingZeros_78 ?_
            exact x_rp (by first | (simp only [x_ntz, x_nt1, x_nt2, x_nt3, x_nt4, if_pos c1, if_pos c2, if_pos c3, if_pos c4, if_neg c5]; done) | rfl | (simp only [x_ntz, x_nt1, x_nt2, x_nt3, x_nt4, if_pos c1, if_pos c2, if_pos c3, if_pos c4, if_neg c5]; rfl)) hx hb hr hlk hP hD hS d_J_numberOfTrailingZeros_79
        · refine lv_iinc (v := 1 + 4) (lv' := [(1, .int (1 + 4)), (0, .int ((a ^^^ (-1)) &&& (a - 1)))]) hx hb d_J_numberOfTrailingZeros_55 hl (k := 0) rfl rfl (by decide) rfl (fun ls hl => ?_)
          refine lv_iload_n hx hb d_J_numberOfTrailingZeros_58 rfl (lv_at hl 1 rfl) ?_
          refine lv_iconst (v := 4) hx hb d_J_numberOfTrailingZeros_59 (by decide) ?_
          refine lv_iushr (v := x_sh ((a ^^^ (-1)) &&& (a - 1)) 4) hx hb d_J_numberOfTrailingZeros_60 rfl ?_
          refine lv_istore_n (lv' := [(0, .int (x_sh ((a ^^^ (-1)) &&& (a - 1)) 4)), (1, .int (1 + 4))]) hx hb d_J_numberOfTrailingZeros_61 rfl hl (by decide) rfl (fun ls hl => ?_)
          refine lv_iload_n hx hb d_J_numberOfTrailingZeros_62 rfl (lv_at hl 0 rfl) ?_
          refine lv_iconst (v := 4) hx hb d_J_numberOfTrailingZeros_63 (by decide) ?_
          refine lv_icmp_le (tgt := 74) hx hb d_J_numberOfTrailingZeros_64 (by decide) (fun c6 => ?_) (fun c6 => ?_)
          · refine lv_iload_n hx hb d_J_numberOfTrailingZeros_74 rfl (lv_at hl 1 rfl) ?_
            refine lv_iload_n hx hb d_J_numberOfTrailingZeros_75 rfl (lv_at hl 0 rfl) ?_
            refine lv_iconst (v := 1) hx hb d_J_numberOfTrailingZeros_76 (by decide) ?_
            refine lv_iushr (v := x_sh (x_sh ((a ^^^ (-1)) &&& (a - 1)) 4) 1) hx hb d_J_numberOfTrailingZeros_77 rfl ?_
            refine lv_iadd hx hb d_J_numberOfTrailingZeros_78 ?_
            exact x_rp (by first | (simp only [x_ntz, x_nt1, x_nt2, x_nt3, x_nt4, if_pos c1, if_pos c2, if_pos c3, if_neg c4, if_pos c6]; done) | rfl | (simp only [x_ntz, x_nt1, x_nt2, x_nt3, x_nt4, if_pos c1, if_pos c2, if_pos c3, if_neg c4, if_pos c6]; rfl)) hx hb hr hlk hP hD hS d_J_numberOfTrailingZeros_79
          · refine lv_iinc (v := (1 + 4) + 2) (lv' := [(1, .int ((1 + 4) + 2)), (0, .int (x_sh ((a ^^^ (-1)) &&& (a - 1)) 4))]) hx hb d_J_numberOfTrailingZeros_67 hl (k := 1) rfl rfl (by decide) rfl (fun ls hl => ?_)
            refine lv_iload_n hx hb d_J_numberOfTrailingZeros_70 rfl (lv_at hl 1 rfl) ?_
            refine lv_iconst (v := 2) hx hb d_J_numberOfTrailingZeros_71 (by decide) ?_
            refine lv_iushr (v := x_sh (x_sh ((a ^^^ (-1)) &&& (a - 1)) 4) 2) hx hb d_J_numberOfTrailingZeros_72 rfl ?_
            refine lv_istore_n (lv' := [(0, .int (x_sh (x_sh ((a ^^^ (-1)) &&& (a - 1)) 4) 2)), (1, .int ((1 + 4) + 2))]) hx hb d_J_numberOfTrailingZeros_73 rfl hl (by decide) rfl (fun ls hl => ?_)
            refine lv_iload_n hx hb d_J_numberOfTrailingZeros_74 rfl (lv_at hl 1 rfl) ?_
            refine lv_iload_n hx hb d_J_numberOfTrailingZeros_75 rfl (lv_at hl 0 rfl) ?_
            refine lv_iconst (v := 1) hx hb d_J_numberOfTrailingZeros_76 (by decide) ?_
            refine lv_iushr (v := x_sh (x_sh (x_sh ((a ^^^ (-1)) &&& (a - 1)) 4) 2) 1) hx hb d_J_numberOfTrailingZeros_77 rfl ?_
            refine lv_iadd hx hb d_J_numberOfTrailingZeros_78 ?_
            exact x_rp (by first | (simp only [x_ntz, x_nt1, x_nt2, x_nt3, x_nt4, if_pos c1, if_pos c2, if_pos c3, if_neg c4, if_neg c6]; done) | rfl | (simp only [x_ntz, x_nt1, x_nt2, x_nt3, x_nt4, if_pos c1, if_pos c2, if_pos c3, if_neg c4, if_neg c6]; rfl)) hx hb hr hlk hP hD hS d_J_numberOfTrailingZeros_79
      · refine lv_iinc (v := 1 + 8) (lv' := [(1, .int (1 + 8)), (0, .int ((a ^^^ (-1)) &&& (a - 1)))]) hx hb d_J_numberOfTrailingZeros_41 hl (k := 0) rfl rfl (by decide) rfl (fun ls hl => ?_)
        refine lv_iload_n hx hb d_J_numberOfTrailingZeros_44 rfl (lv_at hl 1 rfl) ?_
        refine lv_bipush (v := 8) hx hb d_J_numberOfTrailingZeros_45 (by decide) ?_
        refine lv_iushr (v := x_sh ((a ^^^ (-1)) &&& (a - 1)) 8) hx hb d_J_numberOfTrailingZeros_47 rfl ?_
        refine lv_istore_n (lv' := [(0, .int (x_sh ((a ^^^ (-1)) &&& (a - 1)) 8)), (1, .int (1 + 8))]) hx hb d_J_numberOfTrailingZeros_48 rfl hl (by decide) rfl (fun ls hl => ?_)
        refine lv_iload_n hx hb d_J_numberOfTrailingZeros_49 rfl (lv_at hl 0 rfl) ?_
        refine lv_bipush (v := 16) hx hb d_J_numberOfTrailingZeros_50 (by decide) ?_
        refine lv_icmp_le (tgt := 62) hx hb d_J_numberOfTrailingZeros_52 (by decide) (fun c7 => ?_) (fun c7 => ?_)
        · refine lv_iload_n hx hb d_J_numberOfTrailingZeros_62 rfl (lv_at hl 0 rfl) ?_
          refine lv_iconst (v := 4) hx hb d_J_numberOfTrailingZeros_63 (by decide) ?_
          refine lv_icmp_le (tgt := 74) hx hb d_J_numberOfTrailingZeros_64 (by decide) (fun c8 => ?_) (fun c8 => ?_)
          · refine lv_iload_n hx hb d_J_numberOfTrailingZeros_74 rfl (lv_at hl 1 rfl) ?_
            refine lv_iload_n hx hb d_J_numberOfTrailingZeros_75 rfl (lv_at hl 0 rfl) ?_
            refine lv_iconst (v := 1) hx hb d_J_numberOfTrailingZeros_76 (by decide) ?_
            refine lv_iushr (v := x_sh (x_sh ((a ^^^ (-1)) &&& (a - 1)) 8) 1) hx hb d_J_numberOfTrailingZeros_77 rfl ?_
            refine lv_iadd hx hb d_J_numberOfTrailingZeros_78 ?_
            exact x_rp (by first | (simp only [x_ntz, x_nt1, x_nt2, x_nt3, x_nt4, if_pos c1, if_pos c2, if_neg c3, if_pos c7, if_pos c8]; done) | rfl | (simp only [x_ntz, x_nt1, x_nt2, x_nt3, x_nt4, if_pos c1, if_pos c2, if_neg c3, if_pos c7, if_pos c8]; rfl)) hx hb hr hlk hP hD hS d_J_numberOfTrailingZeros_79
          · refine lv_iinc (v := (1 + 8) + 2) (lv' := [(1, .int ((1 + 8) + 2)), (0, .int (x_sh ((a ^^^ (-1)) &&& (a - 1)) 8))]) hx hb d_J_numberOfTrailingZeros_67 hl (k := 1) rfl rfl (by decide) rfl (fun ls hl => ?_)
            refine lv_iload_n hx hb d_J_numberOfTrailingZeros_70 rfl (lv_at hl 1 rfl) ?_
            refine lv_iconst (v := 2) hx hb d_J_numberOfTrailingZeros_71 (by decide) ?_
            refine lv_iushr (v := x_sh (x_sh ((a ^^^ (-1)) &&& (a - 1)) 8) 2) hx hb d_J_numberOfTrailingZeros_72 rfl ?_
            refine lv_istore_n (lv' := [(0, .int (x_sh (x_sh ((a ^^^ (-1)) &&& (a - 1)) 8) 2)), (1, .int ((1 + 8) + 2))]) hx hb d_J_numberOfTrailingZeros_73 rfl hl (by decide) rfl (fun ls hl => ?_)
            refine lv_iload_n hx hb d_J_numberOfTrailingZeros_74 rfl (lv_at hl 1 rfl) ?_
            refine lv_iload_n hx hb d_J_numberOfTrailingZeros_75 rfl (lv_at hl 0 rfl) ?_
            refine lv_iconst (v := 1) hx hb d_J_numberOfTrailingZeros_76 (by decide) ?_
            refine lv_iushr (v := x_sh (x_sh (x_sh ((a ^^^ (-1)) &&& (a - 1)) 8) 2) 1) hx hb d_J_numberOfTrailingZeros_77 rfl ?_
            refine lv_iadd hx hb d_J_numberOfTrailingZeros_78 ?_
            exact x_rp (by first | (simp only [x_ntz, x_nt1, x_nt2, x_nt3, x_nt4, if_pos c1, if_pos c2, if_neg c3, if_pos c7, if_neg c8]; done) | rfl | (simp only [x_ntz, x_nt1, x_nt2, x_nt3, x_nt4, if_pos c1, if_pos c2, if_neg c3, if_pos c7, if_neg c8]; rfl)) hx hb hr hlk hP hD hS d_J_numberOfTrailingZeros_79
        · refine lv_iinc (v := (1 + 8) + 4) (lv' := [(1, .int ((1 + 8) + 4)), (0, .int (x_sh ((a ^^^ (-1)) &&& (a - 1)) 8))]) hx hb d_J_numberOfTrailingZeros_55 hl (k := 1) rfl rfl (by decide) rfl (fun ls hl => ?_)
          refine lv_iload_n hx hb d_J_numberOfTrailingZeros_58 rfl (lv_at hl 1 rfl) ?_
          refine lv_iconst (v := 4) hx hb d_J_numberOfTrailingZeros_59 (by decide) ?_
          refine lv_iushr (v := x_sh (x_sh ((a ^^^ (-1)) &&& (a - 1)) 8) 4) hx hb d_J_numberOfTrailingZeros_60 rfl ?_
          refine lv_istore_n (lv' := [(0, .int (x_sh (x_sh ((a ^^^ (-1)) &&& (a - 1)) 8) 4)), (1, .int ((1 + 8) + 4))]) hx hb d_J_numberOfTrailingZeros_61 rfl hl (by decide) rfl (fun ls hl => ?_)
          refine lv_iload_n hx hb d_J_numberOfTrailingZeros_62 rfl (lv_at hl 0 rfl) ?_
          refine lv_iconst (v := 4) hx hb d_J_numberOfTrailingZeros_63 (by decide) ?_
          refine lv_icmp_le (tgt := 74) hx hb d_J_numberOfTrailingZeros_64 (by decide) (fun c9 => ?_) (fun c9 => ?_)
          · refine lv_iload_n hx hb d_J_numberOfTrailingZeros_74 rfl (lv_at hl 1 rfl) ?_
            refine lv_iload_n hx hb d_J_numberOfTrailingZeros_75 rfl (lv_at hl 0 rfl) ?_
            refine lv_iconst (v := 1) hx hb d_J_numberOfTrailingZeros_76 (by decide) ?_
            refine lv_iushr (v := x_sh (x_sh (x_sh ((a ^^^ (-1)) &&& (a - 1)) 8) 4) 1) hx hb d_J_numberOfTrailingZeros_77 rfl ?_
            refine lv_iadd hx hb d_J_numberOfTrailingZeros_78 ?_
            exact x_rp (by first | (simp only [x_ntz, x_nt1, x_nt2, x_nt3, x_nt4, if_pos c1, if_pos c2, if_neg c3, if_neg c7, if_pos c9]; done) | rfl | (simp only [x_ntz, x_nt1, x_nt2, x_nt3, x_nt4, if_pos c1, if_pos c2, if_neg c3, if_neg c7, if_pos c9]; rfl)) hx hb hr hlk hP hD hS d_J_numberOfTrailingZeros_79
          · refine lv_iinc (v := ((1 + 8) + 4) + 2) (lv' := [(1, .int (((1 + 8) + 4) + 2)), (0, .int (x_sh (x_sh ((a ^^^ (-1)) &&& (a - 1)) 8) 4))]) hx hb d_J_numberOfTrailingZeros_67 hl (k := 1) rfl rfl (by decide) rfl (fun ls hl => ?_)
            refine lv_iload_n hx hb d_J_numberOfTrailingZeros_70 rfl (lv_at hl 1 rfl) ?_
            refine lv_iconst (v := 2) hx hb d_J_numberOfTrailingZeros_71 (by decide) ?_
            refine lv_iushr (v := x_sh (x_sh (x_sh ((a ^^^ (-1)) &&& (a - 1)) 8) 4) 2) hx hb d_J_numberOfTrailingZeros_72 rfl ?_
            refine lv_istore_n (lv' := [(0, .int (x_sh (x_sh (x_sh ((a ^^^ (-1)) &&& (a - 1)) 8) 4) 2)), (1, .int (((1 + 8) + 4) + 2))]) hx hb d_J_numberOfTrailingZeros_73 rfl hl (by decide) rfl (fun ls hl => ?_)
            refine lv_iload_n hx hb d_J_numberOfTrailingZeros_74 rfl (lv_at hl 1 rfl) ?_
            refine lv_iload_n hx hb d_J_numberOfTrailingZeros_75 rfl (lv_at hl 0 rfl) ?_
            refine lv_iconst (v := 1) hx hb d_J_numberOfTrailingZeros_76 (by decide) ?_
            refine lv_iushr (v := x_sh (x_sh (x_sh (x_sh ((a ^^^ (-1)) &&& (a - 1)) 8) 4) 2) 1) hx hb d_J_numberOfTrailingZeros_77 rfl ?_
            refine lv_iadd hx hb d_J_numberOfTrailingZeros_78 ?_
            exact x_rp (by first | (simp only [x_ntz, x_nt1, x_nt2, x_nt3, x_nt4, if_pos c1, if_pos c2, if_neg c3, if_neg c7, if_neg c9]; done) | rfl | (simp only [x_ntz, x_nt1, x_nt2, x_nt3, x_nt4, if_pos c1, if_pos c2, if_neg c3, if_neg c7, if_neg c9]; rfl)) hx hb hr hlk hP hD hS d_J_numberOfTrailingZeros_79
    · refine lv_iinc (v := 1 + 16) (lv' := [(1, .int (1 + 16)), (0, .int ((a ^^^ (-1)) &&& (a - 1)))]) hx hb d_J_numberOfTrailingZeros_26 hl (k := 0) rfl rfl (by decide) rfl (fun ls hl => ?_)
      refine lv_iload_n hx hb d_J_numberOfTrailingZeros_29 rfl (lv_at hl 1 rfl) ?_
      refine lv_bipush (v := 16) hx hb d_J_numberOfTrailingZeros_30 (by decide) ?_
      refine lv_iushr (v := x_sh ((a ^^^ (-1)) &&& (a - 1)) 16) hx hb d_J_numberOfTrailingZeros_32 rfl ?_
      refine lv_istore_n (lv' := [(0, .int (x_sh ((a ^^^ (-1)) &&& (a - 1)) 16)), (1, .int (1 + 16))]) hx hb d_J_numberOfTrailingZeros_33 rfl hl (by decide) rfl (fun ls hl => ?_)
      refine lv_iload_n hx hb d_J_numberOfTrailingZeros_34 rfl (lv_at hl 0 rfl) ?_
      refine lv_sipush (v := 256) hx hb d_J_numberOfTrailingZeros_35 (by decide) ?_
      refine lv_icmp_le (tgt := 49) hx hb d_J_numberOfTrailingZeros_38 (by decide) (fun c10 => ?_) (fun c10 => ?_)
      · refine lv_iload_n hx hb d_J_numberOfTrailingZeros_49 rfl (lv_at hl 0 rfl) ?_
        refine lv_bipush (v := 16) hx hb d_J_numberOfTrailingZeros_50 (by decide) ?_
        refine lv_icmp_le (tgt := 62) hx hb d_J_numberOfTrailingZeros_52 (by decide) (fun c11 => ?_) (fun c11 => ?_)
        · refine lv_iload_n hx hb d_J_numberOfTrailingZeros_62 rfl (lv_at hl 0 rfl) ?_
          refine lv_iconst (v := 4) hx hb d_J_numberOfTrailingZeros_63 (by decide) ?_
          refine lv_icmp_le (tgt := 74) hx hb d_J_numberOfTrailingZeros_64 (by decide) (fun c12 => ?_) (fun c12 => ?_)
          · refine lv_iload_n hx hb d_J_numberOfTrailingZeros_74 rfl (lv_at hl 1 rfl) ?_
            refine lv_iload_n hx hb d_J_numberOfTrailingZeros_75 rfl (lv_at hl 0 rfl) ?_
            refine lv_iconst (v := 1) hx hb d_J_numberOfTrailingZeros_76 (by decide) ?_
            refine lv_iushr (v := x_sh (x_sh ((a ^^^ (-1)) &&& (a - 1)) 16) 1) hx hb d_J_numberOfTrailingZeros_77 rfl ?_
            refine lv_iadd hx hb d_J_numberOfTrailingZeros_78 ?_
            exact x_rp (by first | (simp only [x_ntz, x_nt1, x_nt2, x_nt3, x_nt4, if_pos c1, if_neg c2, if_pos c10, if_pos c11, if_pos c12]; done) | rfl | (simp only [x_ntz, x_nt1, x_nt2, x_nt3, x_nt4, if_pos c1, if_neg c2, if_pos c10, if_pos c11, if_pos c12]; rfl)) hx hb hr hlk hP hD hS d_J_numberOfTrailingZeros_79
          · refine lv_iinc (v := (1 + 16) + 2) (lv' := [(1, .int ((1 + 16) + 2)), (0, .int (x_sh ((a ^^^ (-1)) &&& (a - 1)) 16))]) hx hb d_J_numberOfTrailingZeros_67 hl (k := 1) rfl rfl (by decide) rfl (fun ls hl => ?_)
            refine lv_iload_n hx hb d_J_numberOfTrailingZeros_70 rfl (lv_at hl 1 rfl) ?_
            refine lv_iconst (v := 2) hx hb d_J_numberOfTrailingZeros_71 (by decide) ?_
            refine lv_iushr (v := x_sh (x_sh ((a ^^^ (-1)) &&& (a - 1)) 16) 2) hx hb d_J_numberOfTrailingZeros_72 rfl ?_
            refine lv_istore_n (lv' := [(0, .int (x_sh (x_sh ((a ^^^ (-1)) &&& (a - 1)) 16) 2)), (1, .int ((1 + 16) + 2))]) hx hb d_J_numberOfTrailingZeros_73 rfl hl (by decide) rfl (fun ls hl => ?_)
            refine lv_iload_n hx hb d_J_numberOfTrailingZeros_74 rfl (lv_at hl 1 rfl) ?_
            refine lv_iload_n hx hb d_J_numberOfTrailingZeros_75 rfl (lv_at hl 0 rfl) ?_
            refine lv_iconst (v := 1) hx hb d_J_numberOfTrailingZeros_76 (by decide) ?_
            refine lv_iushr (v := x_sh (x_sh (x_sh ((a ^^^ (-1)) &&& (a - 1)) 16) 2) 1) hx hb d_J_numberOfTrailingZeros_77 rfl ?_
            refine lv_iadd hx hb d_J_numberOfTrailingZeros_78 ?_
            exact x_rp (by first | (simp only [x_ntz, x_nt1, x_nt2, x_nt3, x_nt4, if_pos c1, if_neg c2, if_pos c10, if_pos c11, if_neg c12]; done) | rfl | (simp only [x_ntz, x_nt1, x_nt2, x_nt3, x_nt4, if_pos c1, if_neg c2, if_pos c10, if_pos c11, if_neg c12]; rfl)) hx hb hr hlk hP hD hS d_J_numberOfTrailingZeros_79
        · refine lv_iinc (v := (1 + 16) + 4) (lv' := [(1, .int ((1 + 16) + 4)), (0, .int (x_sh ((a ^^^ (-1)) &&& (a - 1)) 16))]) hx hb d_J_numberOfTrailingZeros_55 hl (k := 1) rfl rfl (by decide) rfl (fun ls hl => ?_)
          refine lv_iload_n hx hb d_J_numberOfTrailingZeros_58 rfl (lv_at hl 1 rfl) ?_
          refine lv_iconst (v := 4) hx hb d_J_numberOfTrailingZeros_59 (by decide) ?_
          refine lv_iushr (v := x_sh (x_sh ((a ^^^ (-1)) &&& (a - 1)) 16) 4) hx hb d_J_numberOfTrailingZeros_60 rfl ?_
          refine lv_istore_n (lv' := [(0, .int (x_sh (x_sh ((a ^^^ (-1)) &&& (a - 1)) 16) 4)), (1, .int ((1 + 16) + 4))]) hx hb d_J_numberOfTrailingZeros_61 rfl hl (by decide) rfl (fun ls hl => ?_)
          refine lv_iload_n hx hb d_J_numberOfTrailingZeros_62 rfl (lv_at hl 0 rfl) ?_
          refine lv_iconst (v := 4) hx hb d_J_numberOfTrailingZeros_63 (by decide) ?_
          refine lv_icmp_le (tgt := 74) hx hb d_J_numberOfTrailingZeros_64 (by decide) (fun c13 => ?_) (fun c13 => ?_)
          · refine lv_iload_n hx hb d_J_numberOfTrailingZeros_74 rfl (lv_at hl 1 rfl) ?_
            refine lv_iload_n hx hb d_J_numberOfTrailingZeros_75 rfl (lv_at hl 0 rfl) ?_
            refine lv_iconst (v := 1) hx hb d_J_numberOfTrailingZeros_76 (by decide) ?_
            refine lv_iushr (v := x_sh (x_sh (x_sh ((a ^^^ (-1)) &&& (a - 1)) 16) 4) 1) hx hb d_J_numberOfTrailingZeros_77 rfl ?_
            refine lv_iadd hx hb d_J_numberOfTrailingZeros_78 ?_
            exact x_rp (by first | (simp only [x_ntz, x_nt1, x_nt2, x_nt3, x_nt4, if_pos c1, if_neg c2, if_pos c10, if_neg c11, if_pos c13]; done) | rfl | (simp only [x_ntz, x_nt1, x_nt2, x_nt3, x_nt4, if_pos c1, if_neg c2, if_pos c10, if_neg c11, if_pos c13]; rfl)) hx hb hr hlk hP hD hS d_J_numberOfTrailingZeros_79
          · refine lv_iinc (v := ((1 + 16) + 4) + 2) (lv' := [(1, .int (((1 + 16) + 4) + 2)), (0, .int (x_sh (x_sh ((a ^^^ (-1)) &&& (a - 1)) 16) 4))]) hx hb d_J_numberOfTrailingZeros_67 hl (k := 1) rfl rfl (by decide) rfl (fun ls hl => ?_)
            refine lv_iload_n hx hb d_J_numberOfTrailingZeros_70 rfl (lv_at hl 1 rfl) ?_
            refine lv_iconst (v := 2) hx hb d_J_numberOfTrailingZeros_71 (by decide) ?_
            refine lv_iushr (v := x_sh (x_sh (x_sh ((a ^^^ (-1)) &&& (a - 1)) 16) 4) 2) hx hb d_J_numberOfTrailingZeros_72 rfl ?_
            refine lv_istore_n (lv' := [(0, .int (x_sh (x_sh (x_sh ((a ^^^ (-1)) &&& (a - 1)) 16) 4) 2)), (1, .int (((1 + 16) + 4) + 2))]) hx hb d_J_numberOfTrailingZeros_73 rfl hl (by decide) rfl (fun ls hl => ?_)
            refine lv_iload_n hx hb d_J_numberOfTrailingZeros_74 rfl (lv_at hl 1 rfl) ?_
            refine lv_iload_n hx hb d_J_numberOfTrailingZeros_75 rfl (lv_at hl 0 rfl) ?_
            refine lv_iconst (v := 1) hx hb d_J_numberOfTrailingZeros_76 (by decide) ?_
            refine lv_iushr (v := x_sh (x_sh (x_sh (x_sh ((a ^^^ (-1)) &&& (a - 1)) 16) 4) 2) 1) hx hb d_J_numberOfTrailingZeros_77 rfl ?_
            refine lv_iadd hx hb d_J_numberOfTrailingZeros_78 ?_
            exact x_rp (by first | (simp only [x_ntz, x_nt1, x_nt2, x_nt3, x_nt4, if_pos c1, if_neg c2, if_pos c10, if_neg c11, if_neg c13]; done) | rfl | (simp only [x_ntz, x_nt1, x_nt2, x_nt3, x_nt4, if_pos c1, if_neg c2, if_pos c10, if_neg c11, if_neg c13]; rfl)) hx hb hr hlk hP hD hS d_J_numberOfTrailingZeros_79
      · refine lv_iinc (v := (1 + 16) + 8) (lv' := [(1, .int ((1 + 16) + 8)), (0, .int (x_sh ((a ^^^ (-1)) &&& (a - 1)) 16))]) hx hb d_J_numberOfTrailingZeros_41 hl (k := 1) rfl rfl (by decide) rfl (fun ls hl => ?_)
        refine lv_iload_n hx hb d_J_numberOfTrailingZeros_44 rfl (lv_at hl 1 rfl) ?_
        refine lv_bipush (v := 8) hx hb d_J_numberOfTrailingZeros_45 (by decide) ?_
        refine lv_iushr (v := x_sh (x_sh ((a ^^^ (-1)) &&& (a - 1)) 16) 8) hx hb d_J_numberOfTrailingZeros_47 rfl ?_
        refine lv_istore_n (lv' := [(0, .int (x_sh (x_sh ((a ^^^ (-1)) &&& (a - 1)) 16) 8)), (1, .int ((1 + 16) + 8))]) hx hb d_J_numberOfTrailingZeros_48 rfl hl (by decide) rfl (fun ls hl => ?_)
        refine lv_iload_n hx hb d_J_numberOfTrailingZeros_49 rfl (lv_at hl 0 rfl) ?_
        refine lv_bipush (v := 16) hx hb d_J_numberOfTrailingZeros_50 (by decide) ?_
        refine lv_icmp_le (tgt := 62) hx hb d_J_numberOfTrailingZeros_52 (by decide) (fun c14 => ?_) (fun c14 => ?_)
        · refine lv_iload_n hx hb d_J_numberOfTrailingZeros_62 rfl (lv_at hl 0 rfl) ?_
          refine lv_iconst (v := 4) hx hb d_J_numberOfTrailingZeros_63 (by decide) ?_
          refine lv_icmp_le (tgt := 74) hx hb d_J_numberOfTrailingZeros_64 (by decide) (fun c15 => ?_) (fun c15 => ?_)
          · refine lv_iload_n hx hb d_J_numberOfTrailingZeros_74 rfl (lv_at hl 1 rfl) ?_
            refine lv_iload_n hx hb d_J_numberOfTrailingZeros_75 rfl (lv_at hl 0 rfl) ?_
            refine lv_iconst (v := 1) hx hb d_J_numberOfTrailingZeros_76 (by decide) ?_
            refine lv_iushr (v := x_sh (x_sh (x_sh ((a ^^^ (-1)) &&& (a - 1)) 16) 8) 1) hx hb d_J_numberOfTrailingZeros_77 rfl ?_
            refine lv_iadd hx hb d_J_numberOfTrailingZeros_78 ?_
            exact x_rp (by first | (simp only [x_ntz, x_nt1, x_nt2, x_nt3, x_nt4, if_pos c1, if_neg c2, if_neg c10, if_pos c14, if_pos c15]; done) | rfl | (simp only [x_ntz, x_nt1, x_nt2, x_nt3, x_nt4, if_pos c1, if_neg c2, if_neg c10, if_pos c14, if_pos c15]; rfl)) hx hb hr hlk hP hD hS d_J_numberOfTrailingZeros_79
          · refine lv_iinc (v := ((1 + 16) + 8) + 2) (lv' := [(1, .int (((1 + 16) + 8) + 2)), (0, .int (x_sh (x_sh ((a ^^^ (-1)) &&& (a - 1)) 16) 8))]) hx hb d_J_numberOfTrailingZeros_67 hl (k := 1) rfl rfl (by decide) rfl (fun ls hl => ?_)
            refine lv_iload_n hx hb d_J_numberOfTrailingZeros_70 rfl (lv_at hl 1 rfl) ?_
            refine lv_iconst (v := 2) hx hb d_J_numberOfTrailingZeros_71 (by decide) ?_
            refine lv_iushr (v := x_sh (x_sh (x_sh ((a ^^^ (-1)) &&& (a - 1)) 16) 8) 2) hx hb d_J_numberOfTrailingZeros_72 rfl ?_
            refine lv_istore_n (lv' := [(0, .int (x_sh (x_sh (x_sh ((a ^^^ (-1)) &&& (a - 1)) 16) 8) 2)), (1, .int (((1 + 16) + 8) + 2))]) hx hb d_J_numberOfTrailingZeros_73 rfl hl (by decide) rfl (fun ls hl => ?_)
            refine lv_iload_n hx hb d_J_numberOfTrailingZeros_74 rfl (lv_at hl 1 rfl) ?_
            refine lv_iload_n hx hb d_J_numberOfTrailingZeros_75 rfl (lv_at hl 0 rfl) ?_
            refine lv_iconst (v := 1) hx hb d_J_numberOfTrailingZeros_76 (by decide) ?_
            refine lv_iushr (v := x_sh (x_sh (x_sh (x_sh ((a ^^^ (-1)) &&& (a - 1)) 16) 8) 2) 1) hx hb d_J_numberOfTrailingZeros_77 rfl ?_
            refine lv_iadd hx hb d_J_numberOfTrailingZeros_78 ?_
            exact x_rp (by first | (simp only [x_ntz, x_nt1, x_nt2, x_nt3, x_nt4, if_pos c1, if_neg c2, if_neg c10, if_pos c14, if_neg c15]; done) | rfl | (simp only [x_ntz, x_nt1, x_nt2, x_nt3, x_nt4, if_pos c1, if_neg c2, if_neg c10, if_pos c14, if_neg c15]; rfl)) hx hb hr hlk hP hD hS d_J_numberOfTrailingZeros_79
        · refine lv_iinc (v := ((1 + 16) + 8) + 4) (lv' := [(1, .int (((1 + 16) + 8) + 4)), (0, .int (x_sh (x_sh ((a ^^^ (-1)) &&& (a - 1)) 16) 8))]) hx hb d_J_numberOfTrailingZeros_55 hl (k := 1) rfl rfl (by decide) rfl (fun ls hl => ?_)
          refine lv_iload_n hx hb d_J_numberOfTrailingZeros_58 rfl (lv_at hl 1 rfl) ?_
          refine lv_iconst (v := 4) hx hb d_J_numberOfTrailingZeros_59 (by decide) ?_
          refine lv_iushr (v := x_sh (x_sh (x_sh ((a ^^^ (-1)) &&& (a - 1)) 16) 8) 4) hx hb d_J_numberOfTrailingZeros_60 rfl ?_
          refine lv_istore_n (lv' := [(0, .int (x_sh (x_sh (x_sh ((a ^^^ (-1)) &&& (a - 1)) 16) 8) 4)), (1, .int (((1 + 16) + 8) + 4))]) hx hb d_J_numberOfTrailingZeros_61 rfl hl (by decide) rfl (fun ls hl => ?_)
          refine lv_iload_n hx hb d_J_numberOfTrailingZeros_62 rfl (lv_at hl 0 rfl) ?_
          refine lv_iconst (v := 4) hx hb d_J_numberOfTrailingZeros_63 (by decide) ?_
          refine lv_icmp_le (tgt := 74) hx hb d_J_numberOfTrailingZeros_64 (by decide) (fun c16 => ?_) (fun c16 => ?_)
          · refine lv_iload_n hx hb d_J_numberOfTrailingZeros_74 rfl (lv_at hl 1 rfl) ?_
            refine lv_iload_n hx hb d_J_numberOfTrailingZeros_75 rfl (lv_at hl 0 rfl) ?_
            refine lv_iconst (v := 1) hx hb d_J_numberOfTrailingZeros_76 (by decide) ?_
            refine lv_iushr (v := x_sh (x_sh (x_sh (x_sh ((a ^^^ (-1)) &&& (a - 1)) 16) 8) 4) 1) hx hb d_J_numberOfTrailingZeros_77 rfl ?_
            refine lv_iadd hx hb d_J_numberOfTrailingZeros_78 ?_
            exact x_rp (by first | (simp only [x_ntz, x_nt1, x_nt2, x_nt3, x_nt4, if_pos c1, if_neg c2, if_neg c10, if_neg c14, if_pos c16]; done) | rfl | (simp only [x_ntz, x_nt1, x_nt2, x_nt3, x_nt4, if_pos c1, if_neg c2, if_neg c10, if_neg c14, if_pos c16]; rfl)) hx hb hr hlk hP hD hS d_J_numberOfTrailingZeros_79
          · refine lv_iinc (v := (((1 + 16) + 8) + 4) + 2) (lv' := [(1, .int ((((1 + 16) + 8) + 4) + 2)), (0, .int (x_sh (x_sh (x_sh ((a ^^^ (-1)) &&& (a - 1)) 16) 8) 4))]) hx hb d_J_numberOfTrailingZeros_67 hl (k := 1) rfl rfl (by decide) rfl (fun ls hl => ?_)
            refine lv_iload_n hx hb d_J_numberOfTrailingZeros_70 rfl (lv_at hl 1 rfl) ?_
            refine lv_iconst (v := 2) hx hb d_J_numberOfTrailingZeros_71 (by decide) ?_
            refine lv_iushr (v := x_sh (x_sh (x_sh (x_sh ((a ^^^ (-1)) &&& (a - 1)) 16) 8) 4) 2) hx hb d_J_numberOfTrailingZeros_72 rfl ?_
            refine lv_istore_n (lv' := [(0, .int (x_sh (x_sh (x_sh (x_sh ((a ^^^ (-1)) &&& (a - 1)) 16) 8) 4) 2)), (1, .int ((((1 + 16) + 8) + 4) + 2))]) hx hb d_J_numberOfTrailingZeros_73 rfl hl (by decide) rfl (fun ls hl => ?_)
            refine lv_iload_n hx hb d_J_numberOfTrailingZeros_74 rfl (lv_at hl 1 rfl) ?_
            refine lv_iload_n hx hb d_J_numberOfTrailingZeros_75 rfl (lv_at hl 0 rfl) ?_
            refine lv_iconst (v := 1) hx hb d_J_numberOfTrailingZeros_76 (by decide) ?_
            refine lv_iushr (v := x_sh (x_sh (x_sh (x_sh (x_sh ((a ^^^ (-1)) &&& (a - 1)) 16) 8) 4) 2) 1) hx hb d_J_numberOfTrailingZeros_77 rfl ?_
            refine lv_iadd hx hb d_J_numberOfTrailingZeros_78 ?_
            exact x_rp (by first | (simp only [x_ntz, x_nt1, x_nt2, x_nt3, x_nt4, if_pos c1, if_neg c2, if_neg c10, if_neg c14, if_neg c16]; done) | rfl | (simp only [x_ntz, x_nt1, x_nt2, x_nt3, x_nt4, if_pos c1, if_neg c2, if_neg c10, if_neg c14, if_neg c16]; rfl)) hx hb hr hlk hP hD hS d_J_numberOfTrailingZeros_79
  · refine lv_iload_n hx hb d_J_numberOfTrailingZeros_12 rfl (lv_at hl 0 rfl) ?_
    refine lv_bipush (v := 32) hx hb d_J_numberOfTrailingZeros_13 (by decide) ?_
    refine lv_iand hx hb d_J_numberOfTrailingZeros_15 ?_
    exact x_rp (by first | (simp only [x_ntz, x_nt1, x_nt2, x_nt3, x_nt4, if_neg c1]; done) | rfl | (simp only [x_ntz, x_nt1, x_nt2, x_nt3, x_nt4, if_neg c1]; rfl)) hx hb hr hlk hP hD hS d_J_numberOfTrailingZeros_16
set_option maxHeartbeats 4000000 in
set_option maxRecDepth 100000 in
theorem c_D_countCached_ok (l : Launch) (D : va_G) (cI cN : ClassId) (ad : Nat → Nat) (z : x_S) (k : Nat) (hk : k < 2) : x_C l y_D_countCached c_D_countCached 1 (some .int) { frames := 1, cells := 0, slots := 0, locals := 20 } D (x_ty cI cN) (x_w cI cN ad z) [.ref (ad (8 + k))] (some (.int (x_bc (z (5 + k) 7)))) (x_w cI cN ad z) := by
  refine x_C.of (by decide) (Nat.le_of_ble_eq_true rfl) ?_
  intro p e s m below meth c hx hb hr hml hts hown hlk A hA hK hS hP hD ls hl
  have hown : s.vm.findClass R_D = some m.cls := hown
  have hl : lv_has ls 1 [(0, .ref (ad (8 + k)))] := hl
  refine lv_aload_n hx hb d_D_countCached_0 rfl (lv_at hl 0 rfl) ?_
  refine va_get (D := D) (ci := 1) (C := R_D) (T := T_D) (N := 3) hx hb hts in_D hown hK hP (8 + k) (x_hD hk) rfl 2 (by decide) (hts _ gm_81) (fun _ h9 => h9) rfl d_D_countCached_1 ?_
  refine x_T (rest := []) ⟨hx, hb, hml, hown, hts⟩ (c_J_bitCount_ok l D cI cN ad z (z (5 + k) 7)) gm_386 gm_312 gm_36 gm_313 ⟨rfl, rfl⟩ hd_J_bitCount ⟨Nat.le_of_ble_eq_true rfl, Nat.le_of_ble_eq_true rfl⟩ hK hP hD hS hA rfl hl.1 rfl (Nat.le_of_ble_eq_true rfl) d_D_countCached_4 ⟨Nat.le_of_ble_eq_true rfl, Nat.le_of_ble_eq_true rfl⟩ (fun H locs hP hD hS => ?_)
  refine lv_topi (fun r1 er1 => ?_)
  exact x_rp (by subst er1; first | (simp only []; done) | rfl | (simp only []; rfl)) hx hb hr hlk hP hD hS d_D_countCached_7
set_option maxHeartbeats 4000000 in
set_option maxRecDepth 100000 in
theorem c_M_chooseSource_ok (l : Launch) (D : va_G) (cI cN : ClassId) (ad : Nat → Nat) (z : x_S)  : x_C l y_M_chooseSource c_M_chooseSource 1 (some .int) { frames := 0, cells := 0, slots := 0, locals := 0 } D (x_ty cI cN) (x_w cI cN ad z) [.ref (ad 0)] (some (.int (x_choose z))) (x_w cI cN ad z) := by
  refine x_C.of (by decide) (Nat.le_of_ble_eq_true rfl) ?_
  intro p e s m below meth c hx hb hr hml hts hown hlk A hA hK hS hP hD ls hl
  have hown : s.vm.findClass R_M = some m.cls := hown
  have hl : lv_has ls 1 [(0, .ref (ad 0))] := hl
  refine lv_aload_n hx hb d_M_chooseSource_0 rfl (lv_at hl 0 rfl) ?_
  refine va_get (D := D) (ci := 4) (C := R_M) (T := T_M) (N := 7) hx hb hts in_M hown hK hP 0 x_hM rfl 0 (by decide) (hts _ gm_154) (fun _ h9 => h9) rfl d_M_chooseSource_1 ?_
  refine lv_iconst (v := 0) hx hb d_M_chooseSource_4 (by decide) ?_
  refine x_top (show (0 : Int32) = nI 0 from rfl) ?_
  refine va_aldq (D := D) hx hb hK hP 1 1 x_hA rfl (x_in2 (by decide)) d_M_chooseSource_5 ?_
  refine x_topv x_nf_0 ?_
  refine va_get (D := D) (ci := 2) (C := R_N) (T := T_N) (N := 8) hx hb hts in_N hown hK hP 6 x_hN0 rfl 3 (by decide) (hts _ gm_96) (fun _ h9 => h9) rfl d_M_chooseSource_6 ?_
  refine lv_aload_n hx hb d_M_chooseSource_9 rfl (lv_at hl 0 rfl) ?_
  refine va_get (D := D) (ci := 4) (C := R_M) (T := T_M) (N := 7) hx hb hts in_M hown hK hP 0 x_hM rfl 0 (by decide) (hts _ gm_154) (fun _ h9 => h9) rfl d_M_chooseSource_10 ?_
  refine lv_iconst (v := 1) hx hb d_M_chooseSource_13 (by decide) ?_
  refine x_top (show (1 : Int32) = nI 1 from rfl) ?_
  refine va_aldq (D := D) hx hb hK hP 1 1 x_hA rfl (x_in2 (by decide)) d_M_chooseSource_14 ?_
  refine x_topv x_nf_1 ?_
  refine va_get (D := D) (ci := 2) (C := R_N) (T := T_N) (N := 8) hx hb hts in_N hown hK hP 7 x_hN1 rfl 3 (by decide) (hts _ gm_96) (fun _ h9 => h9) rfl d_M_chooseSource_15 ?_
  refine lv_icmp_ne (tgt := 39) hx hb d_M_chooseSource_18 (by decide) (fun c1 => ?_) (fun c1 => ?_)
  · refine lv_aload_n hx hb d_M_chooseSource_39 rfl (lv_at hl 0 rfl) ?_
    refine va_get (D := D) (ci := 4) (C := R_M) (T := T_M) (N := 7) hx hb hts in_M hown hK hP 0 x_hM rfl 0 (by decide) (hts _ gm_154) (fun _ h9 => h9) rfl d_M_chooseSource_40 ?_
    refine lv_iconst (v := 0) hx hb d_M_chooseSource_43 (by decide) ?_
    refine x_top (show (0 : Int32) = nI 0 from rfl) ?_
    refine va_aldq (D := D) hx hb hK hP 1 1 x_hA rfl (x_in2 (by decide)) d_M_chooseSource_44 ?_
    refine x_topv x_nf_0 ?_
    refine va_get (D := D) (ci := 2) (C := R_N) (T := T_N) (N := 8) hx hb hts in_N hown hK hP 6 x_hN0 rfl 3 (by decide) (hts _ gm_96) (fun _ h9 => h9) rfl d_M_chooseSource_45 ?_
    refine lv_aload_n hx hb d_M_chooseSource_48 rfl (lv_at hl 0 rfl) ?_
    refine va_get (D := D) (ci := 4) (C := R_M) (T := T_M) (N := 7) hx hb hts in_M hown hK hP 0 x_hM rfl 0 (by decide) (hts _ gm_154) (fun _ h9 => h9) rfl d_M_chooseSource_49 ?_
    refine lv_iconst (v := 1) hx hb d_M_chooseSource_52 (by decide) ?_
    refine x_top (show (1 : Int32) = nI 1 from rfl) ?_
    refine va_aldq (D := D) hx hb hK hP 1 1 x_hA rfl (x_in2 (by decide)) d_M_chooseSource_53 ?_
    refine x_topv x_nf_1 ?_
    refine va_get (D := D) (ci := 2) (C := R_N) (T := T_N) (N := 8) hx hb hts in_N hown hK hP 7 x_hN1 rfl 3 (by decide) (hts _ gm_96) (fun _ h9 => h9) rfl d_M_chooseSource_54 ?_
    refine lv_icmp_le (tgt := 64) hx hb d_M_chooseSource_57 (by decide) (fun c2 => ?_) (fun c2 => ?_)
    · refine lv_iconst (v := 1) hx hb d_M_chooseSource_64 (by decide) ?_
      exact x_rp (by first | (simp only [x_choose, if_neg c1, if_pos c2]; done) | rfl | (simp only [x_choose, if_neg c1, if_pos c2]; rfl)) hx hb hr hlk hP hD hS d_M_chooseSource_65
    · refine lv_iconst (v := 0) hx hb d_M_chooseSource_60 (by decide) ?_
      refine lv_goto (tgt := 65) hx hb d_M_chooseSource_61 (by decide) ?_
      exact x_rp (by first | (simp only [x_choose, if_neg c1, if_neg c2]; done) | rfl | (simp only [x_choose, if_neg c1, if_neg c2]; rfl)) hx hb hr hlk hP hD hS d_M_chooseSource_65
  · refine lv_aload_n hx hb d_M_chooseSource_21 rfl (lv_at hl 0 rfl) ?_
    refine va_get (D := D) (ci := 4) (C := R_M) (T := T_M) (N := 7) hx hb hts in_M hown hK hP 0 x_hM rfl 0 (by decide) (hts _ gm_154) (fun _ h9 => h9) rfl d_M_chooseSource_22 ?_
    refine lv_iconst (v := 1) hx hb d_M_chooseSource_25 (by decide) ?_
    refine x_top (show (1 : Int32) = nI 1 from rfl) ?_
    refine va_aldq (D := D) hx hb hK hP 1 1 x_hA rfl (x_in2 (by decide)) d_M_chooseSource_26 ?_
    refine x_topv x_nf_1 ?_
    refine va_get (D := D) (ci := 2) (C := R_N) (T := T_N) (N := 8) hx hb hts in_N hown hK hP 7 x_hN1 rfl 2 (by decide) (hts _ gm_94) (fun _ h9 => h9) rfl d_M_chooseSource_27 ?_
    refine lv_if_eq (tgt := 37) hx hb d_M_chooseSource_30 (by decide) (fun c3 => ?_) (fun c3 => ?_)
    · refine lv_iconst (v := 0) hx hb d_M_chooseSource_37 (by decide) ?_
      exact x_rp (by first | (simp only [x_choose, if_pos c1, if_pos c3]; done) | rfl | (simp only [x_choose, if_pos c1, if_pos c3]; rfl)) hx hb hr hlk hP hD hS d_M_chooseSource_38
    · refine lv_iconst (v := 1) hx hb d_M_chooseSource_33 (by decide) ?_
      refine lv_goto (tgt := 38) hx hb d_M_chooseSource_34 (by decide) ?_
      exact x_rp (by first | (simp only [x_choose, if_pos c1, if_neg c3]; done) | rfl | (simp only [x_choose, if_pos c1, if_neg c3]; rfl)) hx hb hr hlk hP hD hS d_M_chooseSource_38
set_option maxHeartbeats 4000000 in
set_option maxRecDepth 100000 in
theorem c_M_extentsThatMayDiffer_ok (l : Launch) (D : va_G) (cI cN : ClassId) (ad : Nat → Nat) (z : x_S) (s0 : Nat) (hs0 : s0 < 2) (hs : z 0 3 = nI s0) : x_C l y_M_extentsThatMayDiffer c_M_extentsThatMayDiffer 4 (some .int) { frames := 0, cells := 0, slots := 0, locals := 0 } D (x_ty cI cN) (x_w cI cN ad z) [.ref (ad 0)] (some (.int (x_diff z s0))) (x_w cI cN ad z) := by
  refine x_C.of (by decide) (Nat.le_of_ble_eq_true rfl) ?_
  intro p e s m below meth c hx hb hr hml hts hown hlk A hA hK hS hP hD ls hl
  have hown : s.vm.findClass R_M = some m.cls := hown
  have hl : lv_has ls 4 [(0, .ref (ad 0))] := hl
  refine lv_aload_n hx hb d_M_extentsThatMayDiffer_0 rfl (lv_at hl 0 rfl) ?_
  refine va_get (D := D) (ci := 4) (C := R_M) (T := T_M) (N := 7) hx hb hts in_M hown hK hP 0 x_hM rfl 0 (by decide) (hts _ gm_154) (fun _ h9 => h9) rfl d_M_extentsThatMayDiffer_1 ?_
  refine lv_aload_n hx hb d_M_extentsThatMayDiffer_4 rfl (lv_at hl 0 rfl) ?_
  refine va_get (D := D) (ci := 4) (C := R_M) (T := T_M) (N := 7) hx hb hts in_M hown hK hP 0 x_hM rfl 6 (by decide) (hts _ gm_160) (fun _ h9 => h9) rfl d_M_extentsThatMayDiffer_5 ?_
  refine x_top (show z 0 3 = nI s0 by exact hs) ?_
  refine va_aldq (D := D) hx hb hK hP 1 1 x_hA rfl (x_in2 hs0) d_M_extentsThatMayDiffer_8 ?_
  refine x_topv (x_nf_at hs0) ?_
  refine lv_astore_n (lv' := [(1, .ref (ad (6 + s0))), (0, .ref (ad 0))]) hx hb d_M_extentsThatMayDiffer_9 rfl hl (by decide) rfl (fun ls hl => ?_)
  refine lv_aload_n hx hb d_M_extentsThatMayDiffer_10 rfl (lv_at hl 1 rfl) ?_
  refine va_get (D := D) (ci := 4) (C := R_M) (T := T_M) (N := 7) hx hb hts in_M hown hK hP 0 x_hM rfl 0 (by decide) (hts _ gm_154) (fun _ h9 => h9) rfl d_M_extentsThatMayDiffer_11 ?_
  refine lv_iconst (v := 1) hx hb d_M_extentsThatMayDiffer_14 (by decide) ?_
  refine lv_aload_n hx hb d_M_extentsThatMayDiffer_15 rfl (lv_at hl 1 rfl) ?_
  refine va_get (D := D) (ci := 4) (C := R_M) (T := T_M) (N := 7) hx hb hts in_M hown hK hP 0 x_hM rfl 6 (by decide) (hts _ gm_160) (fun _ h9 => h9) rfl d_M_extentsThatMayDiffer_16 ?_
  refine x_top (show z 0 3 = nI s0 by exact hs) ?_
  refine lv_isub hx hb d_M_extentsThatMayDiffer_19 ?_
  refine x_top (x_1k hs0) ?_
  refine va_aldq (D := D) hx hb hK hP 1 1 x_hA rfl (x_in2 (x_1lt hs0)) d_M_extentsThatMayDiffer_20 ?_
  refine x_topv (x_nf_at (x_1lt hs0)) ?_
  refine lv_astore_n (lv' := [(2, .ref (ad (6 + (1 - s0)))), (1, .ref (ad (6 + s0))), (0, .ref (ad 0))]) hx hb d_M_extentsThatMayDiffer_21 rfl hl (by decide) rfl (fun ls hl => ?_)
  refine lv_aload_n hx hb d_M_extentsThatMayDiffer_22 rfl (lv_at hl 1 rfl) ?_
  refine va_get (D := D) (ci := 2) (C := R_N) (T := T_N) (N := 8) hx hb hts in_N hown hK hP (6 + s0) (x_hN hs0) rfl 3 (by decide) (hts _ gm_96) (fun _ h9 => h9) rfl d_M_extentsThatMayDiffer_23 ?_
  refine lv_aload_n hx hb d_M_extentsThatMayDiffer_26 rfl (lv_at hl 0 rfl) ?_
  refine va_get (D := D) (ci := 2) (C := R_N) (T := T_N) (N := 8) hx hb hts in_N hown hK hP (6 + (1 - s0)) (x_hN (x_1lt hs0)) rfl 3 (by decide) (hts _ gm_96) (fun _ h9 => h9) rfl d_M_extentsThatMayDiffer_27 ?_
  refine lv_icmp_eq (tgt := 51) hx hb d_M_extentsThatMayDiffer_30 (by decide) (fun c1 => ?_) (fun c1 => ?_)
  · refine lv_iconst (v := 1) hx hb d_M_extentsThatMayDiffer_51 (by decide) ?_
    refine lv_goto (tgt := 56) hx hb d_M_extentsThatMayDiffer_52 (by decide) ?_
    refine lv_istore_n (lv' := [(3, .int 1), (2, .ref (ad (6 + (1 - s0)))), (1, .ref (ad (6 + s0))), (0, .ref (ad 0))]) hx hb d_M_extentsThatMayDiffer_56 rfl hl (by decide) rfl (fun ls hl => ?_)
    refine lv_iload_n hx hb d_M_extentsThatMayDiffer_57 rfl (lv_at hl 0 rfl) ?_
    refine lv_if_eq (tgt := 73) hx hb d_M_extentsThatMayDiffer_58 (by decide) (fun c2 => ?_) (fun c2 => ?_)
    · exact absurd c2 (by decide)
    · refine lv_aload_n hx hb d_M_extentsThatMayDiffer_61 rfl (lv_at hl 2 rfl) ?_
      refine va_get (D := D) (ci := 2) (C := R_N) (T := T_N) (N := 8) hx hb hts in_N hown hK hP (6 + s0) (x_hN hs0) rfl 6 (by decide) (hts _ gm_102) (fun _ h9 => h9) rfl d_M_extentsThatMayDiffer_62 ?_
      refine lv_aload_n hx hb d_M_extentsThatMayDiffer_65 rfl (lv_at hl 1 rfl) ?_
      refine va_get (D := D) (ci := 2) (C := R_N) (T := T_N) (N := 8) hx hb hts in_N hown hK hP (6 + (1 - s0)) (x_hN (x_1lt hs0)) rfl 6 (by decide) (hts _ gm_102) (fun _ h9 => h9) rfl d_M_extentsThatMayDiffer_66 ?_
      refine lv_ior hx hb d_M_extentsThatMayDiffer_69 ?_
      refine lv_goto (tgt := 76) hx hb d_M_extentsThatMayDiffer_70 (by decide) ?_
      exact x_rp (by first | (simp only [x_diff, if_pos c1]; done) | rfl | (simp only [x_diff, if_pos c1]; rfl)) hx hb hr hlk hP hD hS d_M_extentsThatMayDiffer_76
  · refine lv_aload_n hx hb d_M_extentsThatMayDiffer_33 rfl (lv_at hl 1 rfl) ?_
    refine va_get (D := D) (ci := 2) (C := R_N) (T := T_N) (N := 8) hx hb hts in_N hown hK hP (6 + s0) (x_hN hs0) rfl 5 (by decide) (hts _ gm_100) (fun _ h9 => h9) rfl d_M_extentsThatMayDiffer_34 ?_
    refine lv_if_eq (tgt := 55) hx hb d_M_extentsThatMayDiffer_37 (by decide) (fun c3 => ?_) (fun c3 => ?_)
    · refine lv_iconst (v := 0) hx hb d_M_extentsThatMayDiffer_55 (by decide) ?_
      refine lv_istore_n (lv' := [(3, .int 0), (2, .ref (ad (6 + (1 - s0)))), (1, .ref (ad (6 + s0))), (0, .ref (ad 0))]) hx hb d_M_extentsThatMayDiffer_56 rfl hl (by decide) rfl (fun ls hl => ?_)
      refine lv_iload_n hx hb d_M_extentsThatMayDiffer_57 rfl (lv_at hl 0 rfl) ?_
      refine lv_if_eq (tgt := 73) hx hb d_M_extentsThatMayDiffer_58 (by decide) (fun c4 => ?_) (fun c4 => ?_)
      · refine lv_sipush (v := 255) hx hb d_M_extentsThatMayDiffer_73 (by decide) ?_
        exact x_rp (by first | (simp only [x_diff, if_neg c1, if_pos c3]; done) | rfl | (simp only [x_diff, if_neg c1, if_pos c3]; rfl)) hx hb hr hlk hP hD hS d_M_extentsThatMayDiffer_76
      · exact (c4 (by decide)).elim
    · refine lv_aload_n hx hb d_M_extentsThatMayDiffer_40 rfl (lv_at hl 1 rfl) ?_
      refine va_get (D := D) (ci := 2) (C := R_N) (T := T_N) (N := 8) hx hb hts in_N hown hK hP (6 + s0) (x_hN hs0) rfl 4 (by decide) (hts _ gm_98) (fun _ h9 => h9) rfl d_M_extentsThatMayDiffer_41 ?_
      refine lv_aload_n hx hb d_M_extentsThatMayDiffer_44 rfl (lv_at hl 0 rfl) ?_
      refine va_get (D := D) (ci := 2) (C := R_N) (T := T_N) (N := 8) hx hb hts in_N hown hK hP (6 + (1 - s0)) (x_hN (x_1lt hs0)) rfl 3 (by decide) (hts _ gm_96) (fun _ h9 => h9) rfl d_M_extentsThatMayDiffer_45 ?_
      refine lv_icmp_ne (tgt := 55) hx hb d_M_extentsThatMayDiffer_48 (by decide) (fun c5 => ?_) (fun c5 => ?_)
      · refine lv_iconst (v := 0) hx hb d_M_extentsThatMayDiffer_55 (by decide) ?_
        refine lv_istore_n (lv' := [(3, .int 0), (2, .ref (ad (6 + (1 - s0)))), (1, .ref (ad (6 + s0))), (0, .ref (ad 0))]) hx hb d_M_extentsThatMayDiffer_56 rfl hl (by decide) rfl (fun ls hl => ?_)
        refine lv_iload_n hx hb d_M_extentsThatMayDiffer_57 rfl (lv_at hl 0 rfl) ?_
        refine lv_if_eq (tgt := 73) hx hb d_M_extentsThatMayDiffer_58 (by decide) (fun c6 => ?_) (fun c6 => ?_)
        · refine lv_sipush (v := 255) hx hb d_M_extentsThatMayDiffer_73 (by decide) ?_
          exact x_rp (by first | (simp only [x_diff, if_neg c1, if_neg c3, if_neg c5]; done) | rfl | (simp only [x_diff, if_neg c1, if_neg c3, if_neg c5]; rfl)) hx hb hr hlk hP hD hS d_M_extentsThatMayDiffer_76
        · exact (c6 (by decide)).elim
      · refine lv_iconst (v := 1) hx hb d_M_extentsThatMayDiffer_51 (by decide) ?_
        refine lv_goto (tgt := 56) hx hb d_M_extentsThatMayDiffer_52 (by decide) ?_
        refine lv_istore_n (lv' := [(3, .int 1), (2, .ref (ad (6 + (1 - s0)))), (1, .ref (ad (6 + s0))), (0, .ref (ad 0))]) hx hb d_M_extentsThatMayDiffer_56 rfl hl (by decide) rfl (fun ls hl => ?_)
        refine lv_iload_n hx hb d_M_extentsThatMayDiffer_57 rfl (lv_at hl 0 rfl) ?_
        refine lv_if_eq (tgt := 73) hx hb d_M_extentsThatMayDiffer_58 (by decide) (fun c7 => ?_) (fun c7 => ?_)
        · exact absurd c7 (by decide)
        · refine lv_aload_n hx hb d_M_extentsThatMayDiffer_61 rfl (lv_at hl 2 rfl) ?_
          refine va_get (D := D) (ci := 2) (C := R_N) (T := T_N) (N := 8) hx hb hts in_N hown hK hP (6 + s0) (x_hN hs0) rfl 6 (by decide) (hts _ gm_102) (fun _ h9 => h9) rfl d_M_extentsThatMayDiffer_62 ?_
          refine lv_aload_n hx hb d_M_extentsThatMayDiffer_65 rfl (lv_at hl 1 rfl) ?_
          refine va_get (D := D) (ci := 2) (C := R_N) (T := T_N) (N := 8) hx hb hts in_N hown hK hP (6 + (1 - s0)) (x_hN (x_1lt hs0)) rfl 6 (by decide) (hts _ gm_102) (fun _ h9 => h9) rfl d_M_extentsThatMayDiffer_66 ?_
          refine lv_ior hx hb d_M_extentsThatMayDiffer_69 ?_
          refine lv_goto (tgt := 76) hx hb d_M_extentsThatMayDiffer_70 (by decide) ?_
          exact x_rp (by first | (simp only [x_diff, if_neg c1, if_neg c3, if_pos c5]; done) | rfl | (simp only [x_diff, if_neg c1, if_neg c3, if_pos c5]; rfl)) hx hb hr hlk hP hD hS d_M_extentsThatMayDiffer_76
set_option maxHeartbeats 4000000 in
set_option maxRecDepth 100000 in
theorem c_M_startSync_ok (l : Launch) (D : va_G) (cI cN : ClassId) (ad : Nat → Nat) (z : x_S) (s0 : Nat) (hs0 : s0 < 2) (hs : z 0 3 = nI s0) (d : Int32) : x_C l y_M_startSync c_M_startSync 3 none { frames := 0, cells := 0, slots := 0, locals := 0 } D (x_ty cI cN) (x_w cI cN ad z) [.ref (ad 0), .int d] (none) (x_w cI cN ad (x_start z s0 d)) := by
  refine x_C.of (by decide) (Nat.le_of_ble_eq_true rfl) ?_
  intro p e s m below meth c hx hb hr hml hts hown hlk A hA hK hS hP hD ls hl
  have hown : s.vm.findClass R_M = some m.cls := hown
  have hl : lv_has ls 3 [(0, .ref (ad 0)), (1, .int d)] := hl
  refine lv_aload_n hx hb d_M_startSync_0 rfl (lv_at hl 0 rfl) ?_
  refine va_get (D := D) (ci := 4) (C := R_M) (T := T_M) (N := 7) hx hb hts in_M hown hK hP 0 x_hM rfl 0 (by decide) (hts _ gm_154) (fun _ h9 => h9) rfl d_M_startSync_1 ?_
  refine lv_iconst (v := 1) hx hb d_M_startSync_4 (by decide) ?_
  refine lv_aload_n hx hb d_M_startSync_5 rfl (lv_at hl 0 rfl) ?_
  refine va_get (D := D) (ci := 4) (C := R_M) (T := T_M) (N := 7) hx hb hts in_M hown hK hP 0 x_hM rfl 6 (by decide) (hts _ gm_160) (fun _ h9 => h9) rfl d_M_startSync_6 ?_
  refine x_top (show z 0 3 = nI s0 by exact hs) ?_
  refine lv_isub hx hb d_M_startSync_9 ?_
  refine x_top (x_1k hs0) ?_
  refine va_aldq (D := D) hx hb hK hP 1 1 x_hA rfl (x_in2 (x_1lt hs0)) d_M_startSync_10 ?_
  refine x_topv (x_nf_at (x_1lt hs0)) ?_
  refine lv_astore_n (lv' := [(2, .ref (ad (6 + (1 - s0)))), (0, .ref (ad 0)), (1, .int d)]) hx hb d_M_startSync_11 rfl hl (by decide) rfl (fun ls hl => ?_)
  refine lv_aload_n hx hb d_M_startSync_12 rfl (lv_at hl 1 rfl) ?_
  refine va_get (D := D) (ci := 4) (C := R_M) (T := T_M) (N := 7) hx hb hts in_M hown hK hP 0 x_hM rfl 0 (by decide) (hts _ gm_154) (fun _ h9 => h9) rfl d_M_startSync_13 ?_
  refine lv_aload_n hx hb d_M_startSync_16 rfl (lv_at hl 1 rfl) ?_
  refine va_get (D := D) (ci := 4) (C := R_M) (T := T_M) (N := 7) hx hb hts in_M hown hK hP 0 x_hM rfl 6 (by decide) (hts _ gm_160) (fun _ h9 => h9) rfl d_M_startSync_17 ?_
  refine x_top (show z 0 3 = nI s0 by exact hs) ?_
  refine va_aldq (D := D) hx hb hK hP 1 1 x_hA rfl (x_in2 hs0) d_M_startSync_20 ?_
  refine x_topv (x_nf_at hs0) ?_
  refine lv_iload_n hx hb d_M_startSync_21 rfl (lv_at hl 2 rfl) ?_
  refine va_put (D := D) (ci := 2) (v := .int d) (ty := .int) (C := R_N) (T := T_N) (N := 8) hx hb hts in_N fy_N fy_N_ok n_N hown hK hP hD hS (6 + s0) (x_hN hs0) rfl 6 (by decide) (hts _ gm_102) (fun _ h9 => h9) rfl (by decide +kernel) rfl rfl (Nat.le_of_ble_eq_true rfl) d_M_startSync_22 (fun H locs hP hD hS => ?_)
  obtain ⟨z1, ez1⟩ : ∃ zt_ : x_S, zt_ = x_up z (5 + s0) 5 d := ⟨_, rfl⟩
  have hP : va_P D vwCl (x_w cI cN ad z1) H := by rw [ez1, ← x_sN (i := 5) hs0 (by decide) d]; exact hP
  have hD : va_D A (x_w cI cN ad z1) := by rw [ez1, ← x_sN (i := 5) hs0 (by decide) d]; exact hD
  refine lv_aload_n hx hb d_M_startSync_25 rfl (lv_at hl 0 rfl) ?_
  refine lv_iconst (v := 0) hx hb d_M_startSync_26 (by decide) ?_
  refine va_put (D := D) (ci := 2) (v := .int 0) (ty := .int) (C := R_N) (T := T_N) (N := 8) hx hb hts in_N fy_N fy_N_ok n_N hown hK hP hD hS (6 + (1 - s0)) (x_hN (x_1lt hs0)) rfl 6 (by decide) (hts _ gm_102) (fun _ h9 => h9) rfl (by decide +kernel) rfl rfl (Nat.le_of_ble_eq_true rfl) d_M_startSync_27 (fun H locs hP hD hS => ?_)
  obtain ⟨z2, ez2⟩ : ∃ zt_ : x_S, zt_ = x_up z1 (5 + (1 - s0)) 5 0 := ⟨_, rfl⟩
  have hP : va_P D vwCl (x_w cI cN ad z2) H := by rw [ez2, ← x_sN (i := 5) (x_1lt hs0) (by decide) 0]; exact hP
  have hD : va_D A (x_w cI cN ad z2) := by rw [ez2, ← x_sN (i := 5) (x_1lt hs0) (by decide) 0]; exact hD
  refine lv_aload_n hx hb d_M_startSync_30 rfl (lv_at hl 0 rfl) ?_
  refine lv_iconst (v := 0) hx hb d_M_startSync_31 (by decide) ?_
  refine va_put (D := D) (ci := 2) (v := .int 0) (ty := .int) (C := R_N) (T := T_N) (N := 8) hx hb hts in_N fy_N fy_N_ok n_N hown hK hP hD hS (6 + (1 - s0)) (x_hN (x_1lt hs0)) rfl 3 (by decide) (hts _ gm_96) (fun _ h9 => h9) rfl (by decide +kernel) rfl rfl (Nat.le_of_ble_eq_true rfl) d_M_startSync_32 (fun H locs hP hD hS => ?_)
  obtain ⟨z3, ez3⟩ : ∃ zt_ : x_S, zt_ = x_up z2 (5 + (1 - s0)) 2 0 := ⟨_, rfl⟩
  have hP : va_P D vwCl (x_w cI cN ad z3) H := by rw [ez3, ← x_sN (i := 2) (x_1lt hs0) (by decide) 0]; exact hP
  have hD : va_D A (x_w cI cN ad z3) := by rw [ez3, ← x_sN (i := 2) (x_1lt hs0) (by decide) 0]; exact hD
  refine lv_aload_n hx hb d_M_startSync_35 rfl (lv_at hl 0 rfl) ?_
  refine lv_iconst (v := 0) hx hb d_M_startSync_36 (by decide) ?_
  refine va_put (D := D) (ci := 2) (v := .int 0) (ty := .boolean) (C := R_N) (T := T_N) (N := 8) hx hb hts in_N fy_N fy_N_ok n_N hown hK hP hD hS (6 + (1 - s0)) (x_hN (x_1lt hs0)) rfl 5 (by decide) (hts _ gm_100) (fun _ h9 => h9) rfl (by decide +kernel) rfl rfl (Nat.le_of_ble_eq_true rfl) d_M_startSync_37 (fun H locs hP hD hS => ?_)
  obtain ⟨z4, ez4⟩ : ∃ zt_ : x_S, zt_ = x_up z3 (5 + (1 - s0)) 4 0 := ⟨_, rfl⟩
  have hP : va_P D vwCl (x_w cI cN ad z4) H := by rw [ez4, ← x_sN (i := 4) (x_1lt hs0) (by decide) 0]; exact hP
  have hD : va_D A (x_w cI cN ad z4) := by rw [ez4, ← x_sN (i := 4) (x_1lt hs0) (by decide) 0]; exact hD
  refine lv_aload_n hx hb d_M_startSync_40 rfl (lv_at hl 1 rfl) ?_
  refine lv_iconst (v := 1) hx hb d_M_startSync_41 (by decide) ?_
  refine va_put (D := D) (ci := 4) (v := .int 1) (ty := .boolean) (C := R_M) (T := T_M) (N := 7) hx hb hts in_M fy_M fy_M_ok n_M hown hK hP hD hS 0 x_hM rfl 5 (by decide) (hts _ gm_159) (fun _ h9 => h9) rfl (by decide +kernel) rfl rfl (Nat.le_of_ble_eq_true rfl) d_M_startSync_42 (fun H locs hP hD hS => ?_)
  obtain ⟨z5, ez5⟩ : ∃ zt_ : x_S, zt_ = x_up z4 0 2 1 := ⟨_, rfl⟩
  have hP : va_P D vwCl (x_w cI cN ad z5) H := by rw [ez5, ← x_sM (i := 2) (by decide) 1]; exact hP
  have hD : va_D A (x_w cI cN ad z5) := by rw [ez5, ← x_sM (i := 2) (by decide) 1]; exact hD
  exact x_rv (w := x_w cI cN ad) (by subst ez1 ez2 ez3 ez4 ez5; first | (simp only [x_start]; done) | rfl | (simp only [x_start]; rfl)) hx hb hr hlk hP hD hS d_M_startSync_45
set_option maxHeartbeats 4000000 in
set_option maxRecDepth 100000 in
theorem c_M_finishSync_ok (l : Launch) (D : va_G) (cI cN : ClassId) (ad : Nat → Nat) (z : x_S) (s0 : Nat) (hs0 : s0 < 2) (hs : z 0 3 = nI s0) : x_C l y_M_finishSync c_M_finishSync 2 none { frames := 3, cells := 0, slots := 0, locals := 63 } D (x_ty cI cN) (x_w cI cN ad z) [.ref (ad 0)] (none) (x_w cI cN ad (x_fin z s0)) := by
  refine x_C.of (by decide) (Nat.le_of_ble_eq_true rfl) ?_
  intro p e s m below meth c hx hb hr hml hts hown hlk A hA hK hS hP hD ls hl
  have hown : s.vm.findClass R_M = some m.cls := hown
  have hl : lv_has ls 2 [(0, .ref (ad 0))] := hl
  refine lv_aload_n hx hb d_M_finishSync_0 rfl (lv_at hl 0 rfl) ?_
  refine va_get (D := D) (ci := 4) (C := R_M) (T := T_M) (N := 7) hx hb hts in_M hown hK hP 0 x_hM rfl 0 (by decide) (hts _ gm_154) (fun _ h9 => h9) rfl d_M_finishSync_1 ?_
  refine lv_iconst (v := 1) hx hb d_M_finishSync_4 (by decide) ?_
  refine lv_aload_n hx hb d_M_finishSync_5 rfl (lv_at hl 0 rfl) ?_
  refine va_get (D := D) (ci := 4) (C := R_M) (T := T_M) (N := 7) hx hb hts in_M hown hK hP 0 x_hM rfl 6 (by decide) (hts _ gm_160) (fun _ h9 => h9) rfl d_M_finishSync_6 ?_
  refine x_top (show z 0 3 = nI s0 by exact hs) ?_
  refine lv_isub hx hb d_M_finishSync_9 ?_
  refine x_top (x_1k hs0) ?_
  refine va_aldq (D := D) hx hb hK hP 1 1 x_hA rfl (x_in2 (x_1lt hs0)) d_M_finishSync_10 ?_
  refine x_topv (x_nf_at (x_1lt hs0)) ?_
  refine lv_aload_n hx hb d_M_finishSync_11 rfl (lv_at hl 0 rfl) ?_
  refine va_get (D := D) (ci := 4) (C := R_M) (T := T_M) (N := 7) hx hb hts in_M hown hK hP 0 x_hM rfl 0 (by decide) (hts _ gm_154) (fun _ h9 => h9) rfl d_M_finishSync_12 ?_
  refine lv_aload_n hx hb d_M_finishSync_15 rfl (lv_at hl 0 rfl) ?_
  refine va_get (D := D) (ci := 4) (C := R_M) (T := T_M) (N := 7) hx hb hts in_M hown hK hP 0 x_hM rfl 6 (by decide) (hts _ gm_160) (fun _ h9 => h9) rfl d_M_finishSync_16 ?_
  refine x_top (show z 0 3 = nI s0 by exact hs) ?_
  refine va_aldq (D := D) hx hb hK hP 1 1 x_hA rfl (x_in2 hs0) d_M_finishSync_19 ?_
  refine x_topv (x_nf_at hs0) ?_
  refine va_get (D := D) (ci := 2) (C := R_N) (T := T_N) (N := 8) hx hb hts in_N hown hK hP (6 + s0) (x_hN hs0) rfl 3 (by decide) (hts _ gm_96) (fun _ h9 => h9) rfl d_M_finishSync_20 ?_
  refine va_put (D := D) (ci := 2) (v := .int (z (5 + s0) 2)) (ty := .int) (C := R_N) (T := T_N) (N := 8) hx hb hts in_N fy_N fy_N_ok n_N hown hK hP hD hS (6 + (1 - s0)) (x_hN (x_1lt hs0)) rfl 3 (by decide) (hts _ gm_96) (fun _ h9 => h9) rfl (by decide +kernel) rfl rfl (Nat.le_of_ble_eq_true rfl) d_M_finishSync_23 (fun H locs hP hD hS => ?_)
  obtain ⟨z1, ez1⟩ : ∃ zt_ : x_S, zt_ = x_up z (5 + (1 - s0)) 2 (z (5 + s0) 2) := ⟨_, rfl⟩
  have hP : va_P D vwCl (x_w cI cN ad z1) H := by rw [ez1, ← x_sN (i := 2) (x_1lt hs0) (by decide) (z (5 + s0) 2)]; exact hP
  have hD : va_D A (x_w cI cN ad z1) := by rw [ez1, ← x_sN (i := 2) (x_1lt hs0) (by decide) (z (5 + s0) 2)]; exact hD
  refine lv_iconst (v := 0) hx hb d_M_finishSync_26 (by decide) ?_
  refine lv_istore_n (lv' := [(1, .int 0), (0, .ref (ad 0))]) hx hb d_M_finishSync_27 rfl hl (by decide) rfl (fun ls hl => ?_)
  refine lv_iload_n hx hb d_M_finishSync_28 rfl (lv_at hl 0 rfl) ?_
  refine lv_iconst (v := 2) hx hb d_M_finishSync_29 (by decide) ?_
  refine lv_icmp_ge (tgt := 71) hx hb d_M_finishSync_30 (by decide) (fun c2 => ?_) (fun c2 => ?_)
  · exact absurd c2 (by decide)
  · refine lv_aload_n hx hb d_M_finishSync_33 rfl (lv_at hl 1 rfl) ?_
    refine va_get (D := D) (ci := 4) (C := R_M) (T := T_M) (N := 7) hx hb hts in_M hown hK hP 0 x_hM rfl 0 (by decide) (hts _ gm_154) (fun _ h9 => h9) rfl d_M_finishSync_34 ?_
    refine lv_iload_n hx hb d_M_finishSync_37 rfl (lv_at hl 0 rfl) ?_
    refine x_top (show (0 : Int32) = nI 0 from rfl) ?_
    refine va_aldq (D := D) hx hb hK hP 1 1 x_hA rfl (x_in2 (by decide)) d_M_finishSync_38 ?_
    refine x_topv x_nf_0 ?_
    refine va_get (D := D) (ci := 2) (C := R_N) (T := T_N) (N := 8) hx hb hts in_N hown hK hP 6 x_hN0 rfl 0 (by decide) (hts _ gm_90) (fun _ h9 => h9) rfl d_M_finishSync_39 ?_
    refine x_V (rest := []) ⟨hx, hb, hml, hown, hts⟩ (c_D_flush_ok l D cI cN ad z1 0 (by decide)) gm_211 gm_212 gm_213 gm_31 gm_214 ⟨rfl, rfl⟩ hd_D_flush ⟨Nat.le_of_ble_eq_true rfl, Nat.le_of_ble_eq_true rfl⟩ hK hP hD hS hA (va_recv hK hP (ci := 1) (q0 := (8 + 0)) rfl (x_hD (by decide))) rfl hl.1 rfl (Nat.le_of_ble_eq_true rfl) d_M_finishSync_42 ⟨Nat.le_of_ble_eq_true rfl, Nat.le_of_ble_eq_true rfl⟩ (fun H locs hP hD hS => ?_)
    obtain ⟨z3, ez3⟩ : ∃ zt_ : x_S, zt_ = x_flush z1 0 := ⟨_, rfl⟩
    rw [← ez3] at hP hD
    refine lv_aload_n hx hb d_M_finishSync_45 rfl (lv_at hl 1 rfl) ?_
    refine va_get (D := D) (ci := 4) (C := R_M) (T := T_M) (N := 7) hx hb hts in_M hown hK hP 0 x_hM rfl 0 (by decide) (hts _ gm_154) (fun _ h9 => h9) rfl d_M_finishSync_46 ?_
    refine lv_iload_n hx hb d_M_finishSync_49 rfl (lv_at hl 0 rfl) ?_
    refine x_top (show (0 : Int32) = nI 0 from rfl) ?_
    refine va_aldq (D := D) hx hb hK hP 1 1 x_hA rfl (x_in2 (by decide)) d_M_finishSync_50 ?_
    refine x_topv x_nf_0 ?_
    refine lv_iconst (v := 0) hx hb d_M_finishSync_51 (by decide) ?_
    refine va_put (D := D) (ci := 2) (v := .int 0) (ty := .boolean) (C := R_N) (T := T_N) (N := 8) hx hb hts in_N fy_N fy_N_ok n_N hown hK hP hD hS 6 x_hN0 rfl 5 (by decide) (hts _ gm_100) (fun _ h9 => h9) rfl (by decide +kernel) rfl rfl (Nat.le_of_ble_eq_true rfl) d_M_finishSync_52 (fun H locs hP hD hS => ?_)
    obtain ⟨z4, ez4⟩ : ∃ zt_ : x_S, zt_ = x_up z3 5 4 0 := ⟨_, rfl⟩
    have hP : va_P D vwCl (x_w cI cN ad z4) H := by rw [ez4, ← x_sN0 (i := 4) (by decide) 0]; exact hP
    have hD : va_D A (x_w cI cN ad z4) := by rw [ez4, ← x_sN0 (i := 4) (by decide) 0]; exact hD
    refine lv_aload_n hx hb d_M_finishSync_55 rfl (lv_at hl 1 rfl) ?_
    refine va_get (D := D) (ci := 4) (C := R_M) (T := T_M) (N := 7) hx hb hts in_M hown hK hP 0 x_hM rfl 0 (by decide) (hts _ gm_154) (fun _ h9 => h9) rfl d_M_finishSync_56 ?_
    refine lv_iload_n hx hb d_M_finishSync_59 rfl (lv_at hl 0 rfl) ?_
    refine x_top (show (0 : Int32) = nI 0 from rfl) ?_
    refine va_aldq (D := D) hx hb hK hP 1 1 x_hA rfl (x_in2 (by decide)) d_M_finishSync_60 ?_
    refine x_topv x_nf_0 ?_
    refine lv_iconst (v := 0) hx hb d_M_finishSync_61 (by decide) ?_
    refine va_put (D := D) (ci := 2) (v := .int 0) (ty := .int) (C := R_N) (T := T_N) (N := 8) hx hb hts in_N fy_N fy_N_ok n_N hown hK hP hD hS 6 x_hN0 rfl 6 (by decide) (hts _ gm_102) (fun _ h9 => h9) rfl (by decide +kernel) rfl rfl (Nat.le_of_ble_eq_true rfl) d_M_finishSync_62 (fun H locs hP hD hS => ?_)
    obtain ⟨z5, ez5⟩ : ∃ zt_ : x_S, zt_ = x_up z4 5 5 0 := ⟨_, rfl⟩
    have hP : va_P D vwCl (x_w cI cN ad z5) H := by rw [ez5, ← x_sN0 (i := 5) (by decide) 0]; exact hP
    have hD : va_D A (x_w cI cN ad z5) := by rw [ez5, ← x_sN0 (i := 5) (by decide) 0]; exact hD
    refine lv_iinc (v := 1) (lv' := [(1, .int 1), (0, .ref (ad 0))]) hx hb d_M_finishSync_65 hl (k := 0) rfl rfl (by decide) rfl (fun ls hl => ?_)
    refine lv_goto (tgt := 28) hx hb d_M_finishSync_68 (by decide) ?_
    refine lv_iload_n hx hb d_M_finishSync_28 rfl (lv_at hl 0 rfl) ?_
    refine lv_iconst (v := 2) hx hb d_M_finishSync_29 (by decide) ?_
    refine lv_icmp_ge (tgt := 71) hx hb d_M_finishSync_30 (by decide) (fun c6 => ?_) (fun c6 => ?_)
    · exact absurd c6 (by decide)
    · refine lv_aload_n hx hb d_M_finishSync_33 rfl (lv_at hl 1 rfl) ?_
      refine va_get (D := D) (ci := 4) (C := R_M) (T := T_M) (N := 7) hx hb hts in_M hown hK hP 0 x_hM rfl 0 (by decide) (hts _ gm_154) (fun _ h9 => h9) rfl d_M_finishSync_34 ?_
      refine lv_iload_n hx hb d_M_finishSync_37 rfl (lv_at hl 0 rfl) ?_
      refine x_top (show (1 : Int32) = nI 1 from rfl) ?_
      refine va_aldq (D := D) hx hb hK hP 1 1 x_hA rfl (x_in2 (by decide)) d_M_finishSync_38 ?_
      refine x_topv x_nf_1 ?_
      refine va_get (D := D) (ci := 2) (C := R_N) (T := T_N) (N := 8) hx hb hts in_N hown hK hP 7 x_hN1 rfl 0 (by decide) (hts _ gm_90) (fun _ h9 => h9) rfl d_M_finishSync_39 ?_
      refine x_V (rest := []) ⟨hx, hb, hml, hown, hts⟩ (c_D_flush_ok l D cI cN ad z5 1 (by decide)) gm_211 gm_212 gm_213 gm_31 gm_214 ⟨rfl, rfl⟩ hd_D_flush ⟨Nat.le_of_ble_eq_true rfl, Nat.le_of_ble_eq_true rfl⟩ hK hP hD hS hA (va_recv hK hP (ci := 1) (q0 := (8 + 1)) rfl (x_hD (by decide))) rfl hl.1 rfl (Nat.le_of_ble_eq_true rfl) d_M_finishSync_42 ⟨Nat.le_of_ble_eq_true rfl, Nat.le_of_ble_eq_true rfl⟩ (fun H locs hP hD hS => ?_)
      obtain ⟨z7, ez7⟩ : ∃ zt_ : x_S, zt_ = x_flush z5 1 := ⟨_, rfl⟩
      rw [← ez7] at hP hD
      refine lv_aload_n hx hb d_M_finishSync_45 rfl (lv_at hl 1 rfl) ?_
      refine va_get (D := D) (ci := 4) (C := R_M) (T := T_M) (N := 7) hx hb hts in_M hown hK hP 0 x_hM rfl 0 (by decide) (hts _ gm_154) (fun _ h9 => h9) rfl d_M_finishSync_46 ?_
      refine lv_iload_n hx hb d_M_finishSync_49 rfl (lv_at hl 0 rfl) ?_
      refine x_top (show (1 : Int32) = nI 1 from rfl) ?_
      refine va_aldq (D := D) hx hb hK hP 1 1 x_hA rfl (x_in2 (by decide)) d_M_finishSync_50 ?_
      refine x_topv x_nf_1 ?_
      refine lv_iconst (v := 0) hx hb d_M_finishSync_51 (by decide) ?_
      refine va_put (D := D) (ci := 2) (v := .int 0) (ty := .boolean) (C := R_N) (T := T_N) (N := 8) hx hb hts in_N fy_N fy_N_ok n_N hown hK hP hD hS 7 x_hN1 rfl 5 (by decide) (hts _ gm_100) (fun _ h9 => h9) rfl (by decide +kernel) rfl rfl (Nat.le_of_ble_eq_true rfl) d_M_finishSync_52 (fun H locs hP hD hS => ?_)
      obtain ⟨z8, ez8⟩ : ∃ zt_ : x_S, zt_ = x_up z7 6 4 0 := ⟨_, rfl⟩
      have hP : va_P D vwCl (x_w cI cN ad z8) H := by rw [ez8, ← x_sN1 (i := 4) (by decide) 0]; exact hP
      have hD : va_D A (x_w cI cN ad z8) := by rw [ez8, ← x_sN1 (i := 4) (by decide) 0]; exact hD
      refine lv_aload_n hx hb d_M_finishSync_55 rfl (lv_at hl 1 rfl) ?_
      refine va_get (D := D) (ci := 4) (C := R_M) (T := T_M) (N := 7) hx hb hts in_M hown hK hP 0 x_hM rfl 0 (by decide) (hts _ gm_154) (fun _ h9 => h9) rfl d_M_finishSync_56 ?_
      refine lv_iload_n hx hb d_M_finishSync_59 rfl (lv_at hl 0 rfl) ?_
      refine x_top (show (1 : Int32) = nI 1 from rfl) ?_
      refine va_aldq (D := D) hx hb hK hP 1 1 x_hA rfl (x_in2 (by decide)) d_M_finishSync_60 ?_
      refine x_topv x_nf_1 ?_
      refine lv_iconst (v := 0) hx hb d_M_finishSync_61 (by decide) ?_
      refine va_put (D := D) (ci := 2) (v := .int 0) (ty := .int) (C := R_N) (T := T_N) (N := 8) hx hb hts in_N fy_N fy_N_ok n_N hown hK hP hD hS 7 x_hN1 rfl 6 (by decide) (hts _ gm_102) (fun _ h9 => h9) rfl (by decide +kernel) rfl rfl (Nat.le_of_ble_eq_true rfl) d_M_finishSync_62 (fun H locs hP hD hS => ?_)
      obtain ⟨z9, ez9⟩ : ∃ zt_ : x_S, zt_ = x_up z8 6 5 0 := ⟨_, rfl⟩
      have hP : va_P D vwCl (x_w cI cN ad z9) H := by rw [ez9, ← x_sN1 (i := 5) (by decide) 0]; exact hP
      have hD : va_D A (x_w cI cN ad z9) := by rw [ez9, ← x_sN1 (i := 5) (by decide) 0]; exact hD
      refine lv_iinc (v := 2) (lv' := [(1, .int 2), (0, .ref (ad 0))]) hx hb d_M_finishSync_65 hl (k := 0) rfl rfl (by decide) rfl (fun ls hl => ?_)
      refine lv_goto (tgt := 28) hx hb d_M_finishSync_68 (by decide) ?_
      refine lv_iload_n hx hb d_M_finishSync_28 rfl (lv_at hl 0 rfl) ?_
      refine lv_iconst (v := 2) hx hb d_M_finishSync_29 (by decide) ?_
      refine lv_icmp_ge (tgt := 71) hx hb d_M_finishSync_30 (by decide) (fun c10 => ?_) (fun c10 => ?_)
      · refine lv_aload_n hx hb d_M_finishSync_71 rfl (lv_at hl 1 rfl) ?_
        refine lv_iconst (v := 0) hx hb d_M_finishSync_72 (by decide) ?_
        refine va_put (D := D) (ci := 4) (v := .int 0) (ty := .boolean) (C := R_M) (T := T_M) (N := 7) hx hb hts in_M fy_M fy_M_ok n_M hown hK hP hD hS 0 x_hM rfl 5 (by decide) (hts _ gm_159) (fun _ h9 => h9) rfl (by decide +kernel) rfl rfl (Nat.le_of_ble_eq_true rfl) d_M_finishSync_73 (fun H locs hP hD hS => ?_)
        obtain ⟨z11, ez11⟩ : ∃ zt_ : x_S, zt_ = x_up z9 0 2 0 := ⟨_, rfl⟩
        have hP : va_P D vwCl (x_w cI cN ad z11) H := by rw [ez11, ← x_sM (i := 2) (by decide) 0]; exact hP
        have hD : va_D A (x_w cI cN ad z11) := by rw [ez11, ← x_sM (i := 2) (by decide) 0]; exact hD
        exact x_rv (w := x_w cI cN ad) (by subst ez1 ez3 ez4 ez5 ez7 ez8 ez9 ez11; first | (simp only [x_fin]; done) | rfl | (simp only [x_fin]; rfl)) hx hb hr hlk hP hD hS d_M_finishSync_76
      · exact (c10 (by decide)).elim
set_option maxHeartbeats 4000000 in
set_option maxRecDepth 100000 in
theorem c_M_copyExtent_ok (l : Launch) (D : va_G) (cI cN : ClassId) (ad : Nat → Nat) (z : x_S) (s0 : Nat) (hs0 : s0 < 2) (hs : z 0 3 = nI s0) (e0 : Nat) (he0 : e0 < 8) : x_C l y_M_copyExtent c_M_copyExtent 6 none { frames := 2, cells := 0, slots := 0, locals := 42 } D (x_ty cI cN) (x_w cI cN ad z) [.ref (ad 0), .int (nI e0)] (none) (x_w cI cN ad (x_cp z s0 e0)) := by
  refine x_C.of (by decide) (Nat.le_of_ble_eq_true rfl) ?_
  intro p e s m below meth c hx hb hr hml hts hown hlk A hA hK hS hP hD ls hl
  have hown : s.vm.findClass R_M = some m.cls := hown
  have hl : lv_has ls 6 [(0, .ref (ad 0)), (1, .int (nI e0))] := hl
  have lp : ∀ (n i : Nat) (y : x_S) (H : Heap) (locs : List Loc) (ls : Array Slot), i + n = e0 * 4 + 4 → x_cp z s0 e0 = x_cpL s0 n i y → va_P D vwCl (x_w cI cN ad y) H → va_D A (x_w cI cN ad y) → va_S A s.heap H locs → lv_has ls 6 [(5, .int (nI i)), (4, .int (nI (e0 * 4))), (3, .ref (ad (8 + (1 - s0)))), (2, .ref (ad (8 + s0))), (0, .ref (ad 0)), (1, .int (nI e0))] → W p l e { frames := 2, cells := 0, slots := 0, locals := 42 } s m [.ref (ad 0), .int (nI e0)].toArray below meth c H locs 0 0 (MQ below (x_Q (none) D (x_w cI cN ad (x_cp z s0 e0)) A) [.ref (ad 0), .int (nI e0)].toArray s 0 0 A) (F0 m 37 ls []) := by
    intro n
    induction n with
    | zero =>
      intro i y  H locs ls hn hI hP hD hS hl
      refine lv_iload hx hb d_M_copyExtent_37 (lv_at hl 0 rfl) ?_
      refine lv_iload hx hb d_M_copyExtent_39 (lv_at hl 1 rfl) ?_
      refine lv_iconst (v := 4) hx hb d_M_copyExtent_41 (by decide) ?_
      refine lv_iadd hx hb d_M_copyExtent_42 ?_
      refine x_top (show (nI (e0 * 4)) + 4 = nI (e0 * 4 + 4) from x_nadd (e0 * 4) 4) ?_
      refine lv_icmp_ge (tgt := 64) hx hb d_M_copyExtent_43 (by decide) (fun c1 => ?_) (fun c1 => ?_)
      · have c1 : (e0 * 4 + 4) ≤ i := (nI_leI (a := e0 * 4 + 4) (b := i) (by omega) (by omega)).mp c1
        exact x_rv (w := x_w cI cN ad) (by rw [hI]; rfl) hx hb hr hlk hP hD hS d_M_copyExtent_64
      · have c1 : ¬ (e0 * 4 + 4) ≤ i := fun h => c1 ((nI_leI (a := e0 * 4 + 4) (b := i) (by omega) (by omega)).mpr h)
        exact absurd (show e0 * 4 + 4 ≤ i by omega) c1
    | succ n ih =>
      intro i y  H locs ls hn hI hP hD hS hl
      have hi : i < 32 := by omega
      refine lv_iload hx hb d_M_copyExtent_37 (lv_at hl 0 rfl) ?_
      refine lv_iload hx hb d_M_copyExtent_39 (lv_at hl 1 rfl) ?_
      refine lv_iconst (v := 4) hx hb d_M_copyExtent_41 (by decide) ?_
      refine lv_iadd hx hb d_M_copyExtent_42 ?_
      refine x_top (show (nI (e0 * 4)) + 4 = nI (e0 * 4 + 4) from x_nadd (e0 * 4) 4) ?_
      refine lv_icmp_ge (tgt := 64) hx hb d_M_copyExtent_43 (by decide) (fun c2 => ?_) (fun c2 => ?_)
      · have c2 : (e0 * 4 + 4) ≤ i := (nI_leI (a := e0 * 4 + 4) (b := i) (by omega) (by omega)).mp c2
        exact absurd c2 (by omega)
      · have c2 : ¬ (e0 * 4 + 4) ≤ i := fun h => c2 ((nI_leI (a := e0 * 4 + 4) (b := i) (by omega) (by omega)).mpr h)
        refine lv_aload_n hx hb d_M_copyExtent_46 rfl (lv_at hl 2 rfl) ?_
        refine lv_iload hx hb d_M_copyExtent_47 (lv_at hl 0 rfl) ?_
        refine lv_aload_n hx hb d_M_copyExtent_49 rfl (lv_at hl 3 rfl) ?_
        refine lv_iload hx hb d_M_copyExtent_50 (lv_at hl 0 rfl) ?_
        refine x_V (rest := [.int (nI i), .ref (ad (8 + (1 - s0)))]) ⟨hx, hb, hml, hown, hts⟩ (c_D_held_ok l D cI cN ad y s0 hs0 i hi) gm_253 gm_254 gm_255 gm_31 gm_256 ⟨rfl, rfl⟩ hd_D_held ⟨Nat.le_of_ble_eq_true rfl, Nat.le_of_ble_eq_true rfl⟩ hK hP hD hS hA (va_recv hK hP (ci := 1) (q0 := (8 + s0)) rfl (x_hD hs0)) rfl hl.1 rfl (Nat.le_of_ble_eq_true rfl) d_M_copyExtent_52 ⟨Nat.le_of_ble_eq_true rfl, Nat.le_of_ble_eq_true rfl⟩ (fun H locs hP hD hS => ?_)
        refine lv_topi (fun r3 er3 => ?_)
        refine x_V (rest := []) ⟨hx, hb, hml, hown, hts⟩ (c_D_put_ok l D cI cN ad y (1 - s0) (x_1lt hs0) i hi r3) gm_227 gm_228 gm_229 gm_31 gm_230 ⟨rfl, rfl⟩ hd_D_put ⟨Nat.le_of_ble_eq_true rfl, Nat.le_of_ble_eq_true rfl⟩ hK hP hD hS hA (va_recv hK hP (ci := 1) (q0 := (8 + (1 - s0))) rfl (x_hD (x_1lt hs0))) rfl hl.1 rfl (Nat.le_of_ble_eq_true rfl) d_M_copyExtent_55 ⟨Nat.le_of_ble_eq_true rfl, Nat.le_of_ble_eq_true rfl⟩ (fun H locs hP hD hS => ?_)
        obtain ⟨z4, ez4⟩ : ∃ zt_ : x_S, zt_ = x_put y (1 - s0) i r3 := ⟨_, rfl⟩
        rw [← ez4] at hP hD
        refine lv_iinc (v := nI (i + 1)) (lv' := [(5, .int (nI (i + 1))), (4, .int (nI (e0 * 4))), (3, .ref (ad (8 + (1 - s0)))), (2, .ref (ad (8 + s0))), (0, .ref (ad 0)), (1, .int (nI e0))]) hx hb d_M_copyExtent_58 hl (k := 0) rfl (nI_1 _) (by decide) rfl (fun ls hl => ?_)
        refine lv_goto (tgt := 37) hx hb d_M_copyExtent_61 (by decide) ?_
        exact ih (i + 1) z4 H locs ls (by omega) (by subst er3 ez4; rw [hI]; simp only [x_cpL]) hP hD hS (lv_sub hl [0, 1, 2, 3, 4, 5] rfl)
  refine lv_aload_n hx hb d_M_copyExtent_0 rfl (lv_at hl 0 rfl) ?_
  refine va_get (D := D) (ci := 4) (C := R_M) (T := T_M) (N := 7) hx hb hts in_M hown hK hP 0 x_hM rfl 0 (by decide) (hts _ gm_154) (fun _ h9 => h9) rfl d_M_copyExtent_1 ?_
  refine lv_aload_n hx hb d_M_copyExtent_4 rfl (lv_at hl 0 rfl) ?_
  refine va_get (D := D) (ci := 4) (C := R_M) (T := T_M) (N := 7) hx hb hts in_M hown hK hP 0 x_hM rfl 6 (by decide) (hts _ gm_160) (fun _ h9 => h9) rfl d_M_copyExtent_5 ?_
  refine x_top (show z 0 3 = nI s0 by exact hs) ?_
  refine va_aldq (D := D) hx hb hK hP 1 1 x_hA rfl (x_in2 hs0) d_M_copyExtent_8 ?_
  refine x_topv (x_nf_at hs0) ?_
  refine va_get (D := D) (ci := 2) (C := R_N) (T := T_N) (N := 8) hx hb hts in_N hown hK hP (6 + s0) (x_hN hs0) rfl 0 (by decide) (hts _ gm_90) (fun _ h9 => h9) rfl d_M_copyExtent_9 ?_
  refine lv_astore_n (lv' := [(2, .ref (ad (8 + s0))), (0, .ref (ad 0)), (1, .int (nI e0))]) hx hb d_M_copyExtent_12 rfl hl (by decide) rfl (fun ls hl => ?_)
  refine lv_aload_n hx hb d_M_copyExtent_13 rfl (lv_at hl 1 rfl) ?_
  refine va_get (D := D) (ci := 4) (C := R_M) (T := T_M) (N := 7) hx hb hts in_M hown hK hP 0 x_hM rfl 0 (by decide) (hts _ gm_154) (fun _ h9 => h9) rfl d_M_copyExtent_14 ?_
  refine lv_iconst (v := 1) hx hb d_M_copyExtent_17 (by decide) ?_
  refine lv_aload_n hx hb d_M_copyExtent_18 rfl (lv_at hl 1 rfl) ?_
  refine va_get (D := D) (ci := 4) (C := R_M) (T := T_M) (N := 7) hx hb hts in_M hown hK hP 0 x_hM rfl 6 (by decide) (hts _ gm_160) (fun _ h9 => h9) rfl d_M_copyExtent_19 ?_
  refine x_top (show z 0 3 = nI s0 by exact hs) ?_
  refine lv_isub hx hb d_M_copyExtent_22 ?_
  refine x_top (x_1k hs0) ?_
  refine va_aldq (D := D) hx hb hK hP 1 1 x_hA rfl (x_in2 (x_1lt hs0)) d_M_copyExtent_23 ?_
  refine x_topv (x_nf_at (x_1lt hs0)) ?_
  refine va_get (D := D) (ci := 2) (C := R_N) (T := T_N) (N := 8) hx hb hts in_N hown hK hP (6 + (1 - s0)) (x_hN (x_1lt hs0)) rfl 0 (by decide) (hts _ gm_90) (fun _ h9 => h9) rfl d_M_copyExtent_24 ?_
  refine lv_astore_n (lv' := [(3, .ref (ad (8 + (1 - s0)))), (2, .ref (ad (8 + s0))), (0, .ref (ad 0)), (1, .int (nI e0))]) hx hb d_M_copyExtent_27 rfl hl (by decide) rfl (fun ls hl => ?_)
  refine lv_iload_n hx hb d_M_copyExtent_28 rfl (lv_at hl 3 rfl) ?_
  refine lv_iconst (v := 4) hx hb d_M_copyExtent_29 (by decide) ?_
  refine lv_imul hx hb d_M_copyExtent_30 ?_
  refine x_top (show (nI e0) * 4 = nI (e0 * 4) from x_nmul e0 4) ?_
  refine lv_istore (lv' := [(4, .int (nI (e0 * 4))), (3, .ref (ad (8 + (1 - s0)))), (2, .ref (ad (8 + s0))), (0, .ref (ad 0)), (1, .int (nI e0))]) hx hb d_M_copyExtent_31 hl (by decide) rfl (fun ls hl => ?_)
  refine lv_iload hx hb d_M_copyExtent_33 (lv_at hl 0 rfl) ?_
  refine lv_istore (lv' := [(5, .int (nI (e0 * 4))), (4, .int (nI (e0 * 4))), (3, .ref (ad (8 + (1 - s0)))), (2, .ref (ad (8 + s0))), (0, .ref (ad 0)), (1, .int (nI e0))]) hx hb d_M_copyExtent_35 hl (by decide) rfl (fun ls hl => ?_)
  exact lp 4 (e0 * 4) z _ _ ls (by omega) rfl hP hD hS (lv_sub hl [0, 1, 2, 3, 4, 5] rfl)
end
section
-- ===== 11.x4: a step of a commit, the journal
set_option maxHeartbeats 4000000 in
set_option maxRecDepth 100000 in
theorem c_M_doCommitStep_ok (l : Launch) (D : va_G) (cI cN : ClassId) (ad : Nat → Nat) (z : x_S) (k : Nat) (hk : k < 2) (n : Nat) (hn : n ≤ 3) (hz : z 2 0 = nI n) (hcell : ∀ i, i < n → ∃ b, b < 24 ∧ z 3 i = nI b) (t : Nat) (ht : t < 3 * n + 7) : x_C l y_M_doCommitStep c_M_doCommitStep 8 none { frames := 4, cells := 0, slots := 0, locals := 84 } D (x_ty cI cN) (x_w cI cN ad z) [.ref (ad 0), .int (nI k), .int (nI t)] (none) (x_w cI cN ad (x_step z k n t)) := by
  refine x_C.of (by decide) (Nat.le_of_ble_eq_true rfl) ?_
  intro p e s m below meth c hx hb hr hml hts hown hlk A hA hK hS hP hD ls hl
  have hown : s.vm.findClass R_M = some m.cls := hown
  have hl : lv_has ls 8 [(0, .ref (ad 0)), (1, .int (nI k)), (2, .int (nI t))] := hl
  refine lv_aload_n hx hb d_M_doCommitStep_0 rfl (lv_at hl 0 rfl) ?_
  refine va_get (D := D) (ci := 4) (C := R_M) (T := T_M) (N := 7) hx hb hts in_M hown hK hP 0 x_hM rfl 2 (by decide) (hts _ gm_156) (fun _ h9 => h9) rfl d_M_doCommitStep_1 ?_
  refine va_get (D := D) (ci := 0) (C := R_B) (T := T_B) (N := 3) hx hb hts in_B hown hK hP 3 x_hB rfl 2 (by decide) (hts _ gm_58) (fun _ h9 => h9) rfl d_M_doCommitStep_4 ?_
  refine x_top (show z 2 0 = nI n by exact hz) ?_
  refine lv_istore_n (lv' := [(3, .int (nI n)), (0, .ref (ad 0)), (1, .int (nI k)), (2, .int (nI t))]) hx hb d_M_doCommitStep_7 rfl hl (by decide) rfl (fun ls hl => ?_)
  refine lv_iconst (v := 3) hx hb d_M_doCommitStep_8 (by decide) ?_
  refine lv_iconst (v := 2) hx hb d_M_doCommitStep_9 (by decide) ?_
  refine lv_iload_n hx hb d_M_doCommitStep_10 rfl (lv_at hl 0 rfl) ?_
  refine lv_imul hx hb d_M_doCommitStep_11 ?_
  refine lv_iadd hx hb d_M_doCommitStep_12 ?_
  refine x_top (show 3 + (2 * (nI n)) = nI (3 + 2 * n) from x_n32 n) ?_
  refine lv_istore (lv' := [(4, .int (nI (3 + 2 * n))), (3, .int (nI n)), (0, .ref (ad 0)), (1, .int (nI k)), (2, .int (nI t))]) hx hb d_M_doCommitStep_13 hl (by decide) rfl (fun ls hl => ?_)
  refine lv_iload hx hb d_M_doCommitStep_15 (lv_at hl 0 rfl) ?_
  refine lv_iconst (v := 3) hx hb d_M_doCommitStep_17 (by decide) ?_
  refine lv_iadd hx hb d_M_doCommitStep_18 ?_
  refine x_top (show (nI (3 + 2 * n)) + 3 = nI (3 + 2 * n + 3) from x_nadd (3 + 2 * n) 3) ?_
  refine lv_istore (lv' := [(5, .int (nI (3 + 2 * n + 3))), (4, .int (nI (3 + 2 * n))), (3, .int (nI n)), (0, .ref (ad 0)), (1, .int (nI k)), (2, .int (nI t))]) hx hb d_M_doCommitStep_19 hl (by decide) rfl (fun ls hl => ?_)
  refine lv_iload_n hx hb d_M_doCommitStep_21 rfl (lv_at hl 5 rfl) ?_
  refine lv_if_eq (tgt := 44) hx hb d_M_doCommitStep_22 (by decide) (fun c1 => ?_) (fun c1 => ?_)
  · have c1 : t = 0 := (nI_eq (a := t) (b := 0) (by omega) (by omega)).mp c1
    refine lv_aload_n hx hb d_M_doCommitStep_44 rfl (lv_at hl 3 rfl) ?_
    refine lv_iload_n hx hb d_M_doCommitStep_45 rfl (lv_at hl 4 rfl) ?_
    refine x_V (rest := []) ⟨hx, hb, hml, hown, hts⟩ (c_M_flushBy_ok l D cI cN ad z k hk) gm_207 gm_209 gm_4 gm_28 gm_210 ⟨rfl, rfl⟩ hd_M_flushBy ⟨Nat.le_of_ble_eq_true rfl, Nat.le_of_ble_eq_true rfl⟩ hK hP hD hS hA (va_recv hK hP (ci := 4) (q0 := 0) rfl x_hM) rfl hl.1 rfl (Nat.le_of_ble_eq_true rfl) d_M_doCommitStep_46 ⟨Nat.le_of_ble_eq_true rfl, Nat.le_of_ble_eq_true rfl⟩ (fun H locs hP hD hS => ?_)
    obtain ⟨z2, ez2⟩ : ∃ zt_ : x_S, zt_ = x_fl z k := ⟨_, rfl⟩
    rw [← ez2] at hP hD
    refine lv_goto (tgt := 188) hx hb d_M_doCommitStep_49 (by decide) ?_
    exact x_rv (w := x_w cI cN ad) (by subst ez2; first | (simp only [x_step, if_pos c1]; done) | rfl | (simp only [x_step, if_pos c1]; rfl)) hx hb hr hlk hP hD hS d_M_doCommitStep_188
  · have c1 : ¬ t = 0 := fun h => c1 ((nI_eq (a := t) (b := 0) (by omega) (by omega)).mpr h)
    refine lv_iload_n hx hb d_M_doCommitStep_25 rfl (lv_at hl 5 rfl) ?_
    refine lv_iconst (v := 2) hx hb d_M_doCommitStep_26 (by decide) ?_
    refine lv_icmp_eq (tgt := 44) hx hb d_M_doCommitStep_27 (by decide) (fun c3 => ?_) (fun c3 => ?_)
    · have c3 : t = 2 := (nI_eq (a := t) (b := 2) (by omega) (by omega)).mp c3
      refine lv_aload_n hx hb d_M_doCommitStep_44 rfl (lv_at hl 3 rfl) ?_
      refine lv_iload_n hx hb d_M_doCommitStep_45 rfl (lv_at hl 4 rfl) ?_
      refine x_V (rest := []) ⟨hx, hb, hml, hown, hts⟩ (c_M_flushBy_ok l D cI cN ad z k hk) gm_207 gm_209 gm_4 gm_28 gm_210 ⟨rfl, rfl⟩ hd_M_flushBy ⟨Nat.le_of_ble_eq_true rfl, Nat.le_of_ble_eq_true rfl⟩ hK hP hD hS hA (va_recv hK hP (ci := 4) (q0 := 0) rfl x_hM) rfl hl.1 rfl (Nat.le_of_ble_eq_true rfl) d_M_doCommitStep_46 ⟨Nat.le_of_ble_eq_true rfl, Nat.le_of_ble_eq_true rfl⟩ (fun H locs hP hD hS => ?_)
      obtain ⟨z4, ez4⟩ : ∃ zt_ : x_S, zt_ = x_fl z k := ⟨_, rfl⟩
      rw [← ez4] at hP hD
      refine lv_goto (tgt := 188) hx hb d_M_doCommitStep_49 (by decide) ?_
      exact x_rv (w := x_w cI cN ad) (by subst ez4; first | (simp only [x_step, if_neg c1, if_pos c3]; done) | rfl | (simp only [x_step, if_neg c1, if_pos c3]; rfl)) hx hb hr hlk hP hD hS d_M_doCommitStep_188
    · have c3 : ¬ t = 2 := fun h => c3 ((nI_eq (a := t) (b := 2) (by omega) (by omega)).mpr h)
      refine lv_iload_n hx hb d_M_doCommitStep_30 rfl (lv_at hl 5 rfl) ?_
      refine lv_iload hx hb d_M_doCommitStep_31 (lv_at hl 1 rfl) ?_
      refine lv_icmp_eq (tgt := 44) hx hb d_M_doCommitStep_33 (by decide) (fun c5 => ?_) (fun c5 => ?_)
      · have c5 : t = (3 + 2 * n) := (nI_eq (a := t) (b := 3 + 2 * n) (by omega) (by omega)).mp c5
        refine lv_aload_n hx hb d_M_doCommitStep_44 rfl (lv_at hl 3 rfl) ?_
        refine lv_iload_n hx hb d_M_doCommitStep_45 rfl (lv_at hl 4 rfl) ?_
        refine x_V (rest := []) ⟨hx, hb, hml, hown, hts⟩ (c_M_flushBy_ok l D cI cN ad z k hk) gm_207 gm_209 gm_4 gm_28 gm_210 ⟨rfl, rfl⟩ hd_M_flushBy ⟨Nat.le_of_ble_eq_true rfl, Nat.le_of_ble_eq_true rfl⟩ hK hP hD hS hA (va_recv hK hP (ci := 4) (q0 := 0) rfl x_hM) rfl hl.1 rfl (Nat.le_of_ble_eq_true rfl) d_M_doCommitStep_46 ⟨Nat.le_of_ble_eq_true rfl, Nat.le_of_ble_eq_true rfl⟩ (fun H locs hP hD hS => ?_)
        obtain ⟨z6, ez6⟩ : ∃ zt_ : x_S, zt_ = x_fl z k := ⟨_, rfl⟩
        rw [← ez6] at hP hD
        refine lv_goto (tgt := 188) hx hb d_M_doCommitStep_49 (by decide) ?_
        exact x_rv (w := x_w cI cN ad) (by subst ez6; first | (simp only [x_step, if_neg c1, if_neg c3, if_pos c5]; done) | rfl | (simp only [x_step, if_neg c1, if_neg c3, if_pos c5]; rfl)) hx hb hr hlk hP hD hS d_M_doCommitStep_188
      · have c5 : ¬ t = (3 + 2 * n) := fun h => c5 ((nI_eq (a := t) (b := 3 + 2 * n) (by omega) (by omega)).mpr h)
        refine lv_iload_n hx hb d_M_doCommitStep_36 rfl (lv_at hl 5 rfl) ?_
        refine lv_iload hx hb d_M_doCommitStep_37 (lv_at hl 1 rfl) ?_
        refine lv_iconst (v := 2) hx hb d_M_doCommitStep_39 (by decide) ?_
        refine lv_iadd hx hb d_M_doCommitStep_40 ?_
        refine x_top (show (nI (3 + 2 * n)) + 2 = nI (3 + 2 * n + 2) from x_nadd (3 + 2 * n) 2) ?_
        refine lv_icmp_ne (tgt := 52) hx hb d_M_doCommitStep_41 (by decide) (fun c7 => ?_) (fun c7 => ?_)
        · have c7 : ¬ t = (3 + 2 * n + 2) := fun h => c7 ((nI_eq (a := t) (b := 3 + 2 * n + 2) (by omega) (by omega)).mpr h)
          refine lv_iload_n hx hb d_M_doCommitStep_52 rfl (lv_at hl 5 rfl) ?_
          refine lv_iconst (v := 1) hx hb d_M_doCommitStep_53 (by decide) ?_
          refine lv_icmp_ne (tgt := 68) hx hb d_M_doCommitStep_54 (by decide) (fun c8 => ?_) (fun c8 => ?_)
          · have c8 : ¬ t = 1 := fun h => c8 ((nI_eq (a := t) (b := 1) (by omega) (by omega)).mpr h)
            refine lv_iload_n hx hb d_M_doCommitStep_68 rfl (lv_at hl 5 rfl) ?_
            refine lv_iload hx hb d_M_doCommitStep_69 (lv_at hl 1 rfl) ?_
            refine lv_icmp_ge (tgt := 130) hx hb d_M_doCommitStep_71 (by decide) (fun c9 => ?_) (fun c9 => ?_)
            · have c9 : (3 + 2 * n) ≤ t := (nI_leI (a := 3 + 2 * n) (b := t) (by omega) (by omega)).mp c9
              refine lv_iload_n hx hb d_M_doCommitStep_130 rfl (lv_at hl 5 rfl) ?_
              refine lv_iload hx hb d_M_doCommitStep_131 (lv_at hl 1 rfl) ?_
              refine lv_iconst (v := 1) hx hb d_M_doCommitStep_133 (by decide) ?_
              refine lv_iadd hx hb d_M_doCommitStep_134 ?_
              refine x_top (show (nI (3 + 2 * n)) + 1 = nI (3 + 2 * n + 1) from x_nadd (3 + 2 * n) 1) ?_
              refine lv_icmp_ne (tgt := 149) hx hb d_M_doCommitStep_135 (by decide) (fun c10 => ?_) (fun c10 => ?_)
              · have c10 : ¬ t = (3 + 2 * n + 1) := fun h => c10 ((nI_eq (a := t) (b := 3 + 2 * n + 1) (by omega) (by omega)).mpr h)
                refine lv_iload_n hx hb d_M_doCommitStep_149 rfl (lv_at hl 5 rfl) ?_
                refine lv_iload hx hb d_M_doCommitStep_150 (lv_at hl 0 rfl) ?_
                refine lv_iload_n hx hb d_M_doCommitStep_152 rfl (lv_at hl 2 rfl) ?_
                refine lv_iadd hx hb d_M_doCommitStep_153 ?_
                refine x_top (show (nI (3 + 2 * n + 3)) + (nI n) = nI (3 + 2 * n + 3 + n) from x_nadd (3 + 2 * n + 3) n) ?_
                refine lv_icmp_ge (tgt := 188) hx hb d_M_doCommitStep_154 (by decide) (fun c11 => ?_) (fun c11 => ?_)
                · have c11 : (3 + 2 * n + 3 + n) ≤ t := (nI_leI (a := 3 + 2 * n + 3 + n) (b := t) (by omega) (by omega)).mp c11
                  exact x_rv (w := x_w cI cN ad) (by first | (simp only [x_step, if_neg c1, if_neg c3, if_neg c5, if_neg c7, if_neg c8, if_pos c9, if_neg c10, if_pos c11]; done) | rfl | (simp only [x_step, if_neg c1, if_neg c3, if_neg c5, if_neg c7, if_neg c8, if_pos c9, if_neg c10, if_pos c11]; rfl)) hx hb hr hlk hP hD hS d_M_doCommitStep_188
                · have c11 : ¬ (3 + 2 * n + 3 + n) ≤ t := fun h => c11 ((nI_leI (a := 3 + 2 * n + 3 + n) (b := t) (by omega) (by omega)).mpr h)
                  refine lv_iload_n hx hb d_M_doCommitStep_157 rfl (lv_at hl 5 rfl) ?_
                  refine lv_iload hx hb d_M_doCommitStep_158 (lv_at hl 0 rfl) ?_
                  refine lv_isub hx hb d_M_doCommitStep_160 ?_
                  refine x_top (show (nI t) - (nI (3 + 2 * n + 3)) = nI (t - (3 + 2 * n + 3)) from pk_sub (by omega)) ?_
                  refine lv_istore (lv' := [(6, .int (nI (t - (3 + 2 * n + 3)))), (5, .int (nI (3 + 2 * n + 3))), (4, .int (nI (3 + 2 * n))), (3, .int (nI n)), (0, .ref (ad 0)), (1, .int (nI k)), (2, .int (nI t))]) hx hb d_M_doCommitStep_161 hl (by decide) rfl (fun ls hl => ?_)
                  refine lv_aload_n hx hb d_M_doCommitStep_163 rfl (lv_at hl 4 rfl) ?_
                  refine lv_iload_n hx hb d_M_doCommitStep_164 rfl (lv_at hl 5 rfl) ?_
                  refine lv_aload_n hx hb d_M_doCommitStep_165 rfl (lv_at hl 4 rfl) ?_
                  refine va_get (D := D) (ci := 4) (C := R_M) (T := T_M) (N := 7) hx hb hts in_M hown hK hP 0 x_hM rfl 2 (by decide) (hts _ gm_156) (fun _ h9 => h9) rfl d_M_doCommitStep_166 ?_
                  refine va_get (D := D) (ci := 0) (C := R_B) (T := T_B) (N := 3) hx hb hts in_B hown hK hP 3 x_hB rfl 0 (by decide) (hts _ gm_54) (fun _ h9 => h9) rfl d_M_doCommitStep_169 ?_
                  refine lv_iload hx hb d_M_doCommitStep_172 (lv_at hl 0 rfl) ?_
                  refine va_iald (D := D) hx hb hK hP 4 0 x_hBc rfl (x_in3 (by omega)) d_M_doCommitStep_174 ?_
                  refine x_top (show z 3 (nI (t - (3 + 2 * n + 3))).toNatClampNeg = z 3 (t - (3 + 2 * n + 3)) by rw [x_cl3 (by omega)]) ?_
                  obtain ⟨cc, hcc, ec⟩ := hcell (t - (3 + 2 * n + 3)) (by omega)
                  refine x_top ec ?_
                  refine lv_aload_n hx hb d_M_doCommitStep_175 rfl (lv_at hl 4 rfl) ?_
                  refine va_get (D := D) (ci := 4) (C := R_M) (T := T_M) (N := 7) hx hb hts in_M hown hK hP 0 x_hM rfl 2 (by decide) (hts _ gm_156) (fun _ h9 => h9) rfl d_M_doCommitStep_176 ?_
                  refine va_get (D := D) (ci := 0) (C := R_B) (T := T_B) (N := 3) hx hb hts in_B hown hK hP 3 x_hB rfl 1 (by decide) (hts _ gm_56) (fun _ h9 => h9) rfl d_M_doCommitStep_179 ?_
                  refine lv_iload hx hb d_M_doCommitStep_182 (lv_at hl 0 rfl) ?_
                  refine va_iald (D := D) hx hb hK hP 5 0 x_hBv rfl (x_in3 (by omega)) d_M_doCommitStep_184 ?_
                  refine x_top (show z 4 (nI (t - (3 + 2 * n + 3))).toNatClampNeg = z 4 (t - (3 + 2 * n + 3)) by rw [x_cl3 (by omega)]) ?_
                  refine x_V (rest := []) ⟨hx, hb, hml, hown, hts⟩ (c_M_writeBy_ok l D cI cN ad z k hk cc (by omega) (z 4 (t - (3 + 2 * n + 3)))) gm_223 gm_225 gm_5 gm_28 gm_226 ⟨rfl, rfl⟩ hd_M_writeBy ⟨Nat.le_of_ble_eq_true rfl, Nat.le_of_ble_eq_true rfl⟩ hK hP hD hS hA (va_recv hK hP (ci := 4) (q0 := 0) rfl x_hM) rfl hl.1 rfl (Nat.le_of_ble_eq_true rfl) d_M_doCommitStep_185 ⟨Nat.le_of_ble_eq_true rfl, Nat.le_of_ble_eq_true rfl⟩ (fun H locs hP hD hS => ?_)
                  obtain ⟨z12, ez12⟩ : ∃ zt_ : x_S, zt_ = x_wr z k cc (z 4 (t - (3 + 2 * n + 3))) := ⟨_, rfl⟩
                  rw [← ez12] at hP hD
                  exact x_rv (w := x_w cI cN ad) (by subst ez12; first | (simp only [x_step, if_neg c1, if_neg c3, if_neg c5, if_neg c7, if_neg c8, if_pos c9, if_neg c10, if_neg c11, ec, x_cl32 (show cc < 32 by omega)]; done) | rfl | (simp only [x_step, if_neg c1, if_neg c3, if_neg c5, if_neg c7, if_neg c8, if_pos c9, if_neg c10, if_neg c11, ec, x_cl32 (show cc < 32 by omega)]; rfl)) hx hb hr hlk hP hD hS d_M_doCommitStep_188
              · have c10 : t = (3 + 2 * n + 1) := (nI_eq (a := t) (b := 3 + 2 * n + 1) (by omega) (by omega)).mp c10
                refine lv_aload_n hx hb d_M_doCommitStep_138 rfl (lv_at hl 3 rfl) ?_
                refine lv_iload_n hx hb d_M_doCommitStep_139 rfl (lv_at hl 4 rfl) ?_
                refine lv_bipush (v := 24) hx hb d_M_doCommitStep_140 (by decide) ?_
                refine x_top (show (24 : Int32) = nI 24 from rfl) ?_
                refine lv_iload_n hx hb d_M_doCommitStep_142 rfl (lv_at hl 2 rfl) ?_
                refine x_V (rest := []) ⟨hx, hb, hml, hown, hts⟩ (c_M_writeBy_ok l D cI cN ad z k hk 24 (by decide) (nI n)) gm_223 gm_225 gm_5 gm_28 gm_226 ⟨rfl, rfl⟩ hd_M_writeBy ⟨Nat.le_of_ble_eq_true rfl, Nat.le_of_ble_eq_true rfl⟩ hK hP hD hS hA (va_recv hK hP (ci := 4) (q0 := 0) rfl x_hM) rfl hl.1 rfl (Nat.le_of_ble_eq_true rfl) d_M_doCommitStep_143 ⟨Nat.le_of_ble_eq_true rfl, Nat.le_of_ble_eq_true rfl⟩ (fun H locs hP hD hS => ?_)
                obtain ⟨z13, ez13⟩ : ∃ zt_ : x_S, zt_ = x_wr z k 24 (nI n) := ⟨_, rfl⟩
                rw [← ez13] at hP hD
                refine lv_goto (tgt := 188) hx hb d_M_doCommitStep_146 (by decide) ?_
                exact x_rv (w := x_w cI cN ad) (by subst ez13; first | (simp only [x_step, if_neg c1, if_neg c3, if_neg c5, if_neg c7, if_neg c8, if_pos c9, if_pos c10]; done) | rfl | (simp only [x_step, if_neg c1, if_neg c3, if_neg c5, if_neg c7, if_neg c8, if_pos c9, if_pos c10]; rfl)) hx hb hr hlk hP hD hS d_M_doCommitStep_188
            · have c9 : ¬ (3 + 2 * n) ≤ t := fun h => c9 ((nI_leI (a := 3 + 2 * n) (b := t) (by omega) (by omega)).mpr h)
              refine lv_iload_n hx hb d_M_doCommitStep_74 rfl (lv_at hl 5 rfl) ?_
              refine lv_iconst (v := 3) hx hb d_M_doCommitStep_75 (by decide) ?_
              refine lv_isub hx hb d_M_doCommitStep_76 ?_
              refine x_top (show (nI t) - 3 = nI (t - 3) from pk_sub (b := 3) (by omega)) ?_
              refine lv_istore (lv' := [(6, .int (nI (t - 3))), (5, .int (nI (3 + 2 * n + 3))), (4, .int (nI (3 + 2 * n))), (3, .int (nI n)), (0, .ref (ad 0)), (1, .int (nI k)), (2, .int (nI t))]) hx hb d_M_doCommitStep_77 hl (by decide) rfl (fun ls hl => ?_)
              refine lv_iload hx hb d_M_doCommitStep_79 (lv_at hl 0 rfl) ?_
              refine lv_iconst (v := 2) hx hb d_M_doCommitStep_81 (by decide) ?_
              refine lv_irem hx hb d_M_doCommitStep_82 (by decide) ?_
              refine x_top (show (nI (t - 3)) - (nI (t - 3)) / 2 * 2 = nI ((t - 3) % 2) from pk_rem (d := 2) (by omega) (by decide) (by decide)) ?_
              refine lv_if_ne (tgt := 101) hx hb d_M_doCommitStep_83 (by decide) (fun c14 => ?_) (fun c14 => ?_)
              · have c14 : ¬ ((t - 3) % 2) = 0 := fun h => c14 ((nI_eq (a := (t - 3) % 2) (b := 0) (by omega) (by omega)).mpr h)
                refine lv_aload_n hx hb d_M_doCommitStep_101 rfl (lv_at hl 4 rfl) ?_
                refine va_get (D := D) (ci := 4) (C := R_M) (T := T_M) (N := 7) hx hb hts in_M hown hK hP 0 x_hM rfl 2 (by decide) (hts _ gm_156) (fun _ h9 => h9) rfl d_M_doCommitStep_102 ?_
                refine va_get (D := D) (ci := 0) (C := R_B) (T := T_B) (N := 3) hx hb hts in_B hown hK hP 3 x_hB rfl 1 (by decide) (hts _ gm_56) (fun _ h9 => h9) rfl d_M_doCommitStep_105 ?_
                refine lv_iload hx hb d_M_doCommitStep_108 (lv_at hl 0 rfl) ?_
                refine lv_iconst (v := 2) hx hb d_M_doCommitStep_110 (by decide) ?_
                refine lv_idiv hx hb d_M_doCommitStep_111 (by decide) ?_
                refine x_top (show (nI (t - 3)) / 2 = nI ((t - 3) / 2) from pk_div (d := 2) (by omega) (by decide) (by decide)) ?_
                refine va_iald (D := D) hx hb hK hP 5 0 x_hBv rfl (x_in3 (by omega)) d_M_doCommitStep_112 ?_
                refine x_top (show z 4 (nI ((t - 3) / 2)).toNatClampNeg = z 4 ((t - 3) / 2) by rw [x_cl3 (by omega)]) ?_
                refine lv_istore (lv' := [(7, .int (z 4 ((t - 3) / 2))), (6, .int (nI (t - 3))), (5, .int (nI (3 + 2 * n + 3))), (4, .int (nI (3 + 2 * n))), (3, .int (nI n)), (0, .ref (ad 0)), (1, .int (nI k)), (2, .int (nI t))]) hx hb d_M_doCommitStep_113 hl (by decide) rfl (fun ls hl => ?_)
                refine lv_aload_n hx hb d_M_doCommitStep_115 rfl (lv_at hl 5 rfl) ?_
                refine lv_iload_n hx hb d_M_doCommitStep_116 rfl (lv_at hl 6 rfl) ?_
                refine lv_bipush (v := 25) hx hb d_M_doCommitStep_117 (by decide) ?_
                refine lv_iload hx hb d_M_doCommitStep_119 (lv_at hl 1 rfl) ?_
                refine lv_iadd hx hb d_M_doCommitStep_121 ?_
                refine x_top (show 25 + (nI (t - 3)) = nI (25 + (t - 3)) from x_nadd 25 (t - 3)) ?_
                refine lv_iload hx hb d_M_doCommitStep_122 (lv_at hl 0 rfl) ?_
                refine x_V (rest := []) ⟨hx, hb, hml, hown, hts⟩ (c_M_writeBy_ok l D cI cN ad z k hk (25 + (t - 3)) (by omega) (z 4 ((t - 3) / 2))) gm_223 gm_225 gm_5 gm_28 gm_226 ⟨rfl, rfl⟩ hd_M_writeBy ⟨Nat.le_of_ble_eq_true rfl, Nat.le_of_ble_eq_true rfl⟩ hK hP hD hS hA (va_recv hK hP (ci := 4) (q0 := 0) rfl x_hM) rfl hl.1 rfl (Nat.le_of_ble_eq_true rfl) d_M_doCommitStep_124 ⟨Nat.le_of_ble_eq_true rfl, Nat.le_of_ble_eq_true rfl⟩ (fun H locs hP hD hS => ?_)
                obtain ⟨z15, ez15⟩ : ∃ zt_ : x_S, zt_ = x_wr z k (25 + (t - 3)) (z 4 ((t - 3) / 2)) := ⟨_, rfl⟩
                rw [← ez15] at hP hD
                refine lv_goto (tgt := 188) hx hb d_M_doCommitStep_127 (by decide) ?_
                exact x_rv (w := x_w cI cN ad) (by subst ez15; first | (simp only [x_step, if_neg c1, if_neg c3, if_neg c5, if_neg c7, if_neg c8, if_neg c9, if_neg c14]; done) | rfl | (simp only [x_step, if_neg c1, if_neg c3, if_neg c5, if_neg c7, if_neg c8, if_neg c9, if_neg c14]; rfl)) hx hb hr hlk hP hD hS d_M_doCommitStep_188
              · have c14 : ((t - 3) % 2) = 0 := (nI_eq (a := (t - 3) % 2) (b := 0) (by omega) (by omega)).mp c14
                refine lv_aload_n hx hb d_M_doCommitStep_86 rfl (lv_at hl 4 rfl) ?_
                refine va_get (D := D) (ci := 4) (C := R_M) (T := T_M) (N := 7) hx hb hts in_M hown hK hP 0 x_hM rfl 2 (by decide) (hts _ gm_156) (fun _ h9 => h9) rfl d_M_doCommitStep_87 ?_
                refine va_get (D := D) (ci := 0) (C := R_B) (T := T_B) (N := 3) hx hb hts in_B hown hK hP 3 x_hB rfl 0 (by decide) (hts _ gm_54) (fun _ h9 => h9) rfl d_M_doCommitStep_90 ?_
                refine lv_iload hx hb d_M_doCommitStep_93 (lv_at hl 0 rfl) ?_
                refine lv_iconst (v := 2) hx hb d_M_doCommitStep_95 (by decide) ?_
                refine lv_idiv hx hb d_M_doCommitStep_96 (by decide) ?_
                refine x_top (show (nI (t - 3)) / 2 = nI ((t - 3) / 2) from pk_div (d := 2) (by omega) (by decide) (by decide)) ?_
                refine va_iald (D := D) hx hb hK hP 4 0 x_hBc rfl (x_in3 (by omega)) d_M_doCommitStep_97 ?_
                refine x_top (show z 3 (nI ((t - 3) / 2)).toNatClampNeg = z 3 ((t - 3) / 2) by rw [x_cl3 (by omega)]) ?_
                refine lv_goto (tgt := 113) hx hb d_M_doCommitStep_98 (by decide) ?_
                refine lv_istore (lv' := [(7, .int (z 3 ((t - 3) / 2))), (6, .int (nI (t - 3))), (5, .int (nI (3 + 2 * n + 3))), (4, .int (nI (3 + 2 * n))), (3, .int (nI n)), (0, .ref (ad 0)), (1, .int (nI k)), (2, .int (nI t))]) hx hb d_M_doCommitStep_113 hl (by decide) rfl (fun ls hl => ?_)
                refine lv_aload_n hx hb d_M_doCommitStep_115 rfl (lv_at hl 5 rfl) ?_
                refine lv_iload_n hx hb d_M_doCommitStep_116 rfl (lv_at hl 6 rfl) ?_
                refine lv_bipush (v := 25) hx hb d_M_doCommitStep_117 (by decide) ?_
                refine lv_iload hx hb d_M_doCommitStep_119 (lv_at hl 1 rfl) ?_
                refine lv_iadd hx hb d_M_doCommitStep_121 ?_
                refine x_top (show 25 + (nI (t - 3)) = nI (25 + (t - 3)) from x_nadd 25 (t - 3)) ?_
                refine lv_iload hx hb d_M_doCommitStep_122 (lv_at hl 0 rfl) ?_
                refine x_V (rest := []) ⟨hx, hb, hml, hown, hts⟩ (c_M_writeBy_ok l D cI cN ad z k hk (25 + (t - 3)) (by omega) (z 3 ((t - 3) / 2))) gm_223 gm_225 gm_5 gm_28 gm_226 ⟨rfl, rfl⟩ hd_M_writeBy ⟨Nat.le_of_ble_eq_true rfl, Nat.le_of_ble_eq_true rfl⟩ hK hP hD hS hA (va_recv hK hP (ci := 4) (q0 := 0) rfl x_hM) rfl hl.1 rfl (Nat.le_of_ble_eq_true rfl) d_M_doCommitStep_124 ⟨Nat.le_of_ble_eq_true rfl, Nat.le_of_ble_eq_true rfl⟩ (fun H locs hP hD hS => ?_)
                obtain ⟨z16, ez16⟩ : ∃ zt_ : x_S, zt_ = x_wr z k (25 + (t - 3)) (z 3 ((t - 3) / 2)) := ⟨_, rfl⟩
                rw [← ez16] at hP hD
                refine lv_goto (tgt := 188) hx hb d_M_doCommitStep_127 (by decide) ?_
                exact x_rv (w := x_w cI cN ad) (by subst ez16; first | (simp only [x_step, if_neg c1, if_neg c3, if_neg c5, if_neg c7, if_neg c8, if_neg c9, if_pos c14]; done) | rfl | (simp only [x_step, if_neg c1, if_neg c3, if_neg c5, if_neg c7, if_neg c8, if_neg c9, if_pos c14]; rfl)) hx hb hr hlk hP hD hS d_M_doCommitStep_188
          · have c8 : t = 1 := (nI_eq (a := t) (b := 1) (by omega) (by omega)).mp c8
            refine lv_aload_n hx hb d_M_doCommitStep_57 rfl (lv_at hl 3 rfl) ?_
            refine lv_iload_n hx hb d_M_doCommitStep_58 rfl (lv_at hl 4 rfl) ?_
            refine lv_bipush (v := 24) hx hb d_M_doCommitStep_59 (by decide) ?_
            refine x_top (show (24 : Int32) = nI 24 from rfl) ?_
            refine lv_iconst (v := 0) hx hb d_M_doCommitStep_61 (by decide) ?_
            refine x_V (rest := []) ⟨hx, hb, hml, hown, hts⟩ (c_M_writeBy_ok l D cI cN ad z k hk 24 (by decide) 0) gm_223 gm_225 gm_5 gm_28 gm_226 ⟨rfl, rfl⟩ hd_M_writeBy ⟨Nat.le_of_ble_eq_true rfl, Nat.le_of_ble_eq_true rfl⟩ hK hP hD hS hA (va_recv hK hP (ci := 4) (q0 := 0) rfl x_hM) rfl hl.1 rfl (Nat.le_of_ble_eq_true rfl) d_M_doCommitStep_62 ⟨Nat.le_of_ble_eq_true rfl, Nat.le_of_ble_eq_true rfl⟩ (fun H locs hP hD hS => ?_)
            obtain ⟨z17, ez17⟩ : ∃ zt_ : x_S, zt_ = x_wr z k 24 0 := ⟨_, rfl⟩
            rw [← ez17] at hP hD
            refine lv_goto (tgt := 188) hx hb d_M_doCommitStep_65 (by decide) ?_
            exact x_rv (w := x_w cI cN ad) (by subst ez17; first | (simp only [x_step, if_neg c1, if_neg c3, if_neg c5, if_neg c7, if_pos c8]; done) | rfl | (simp only [x_step, if_neg c1, if_neg c3, if_neg c5, if_neg c7, if_pos c8]; rfl)) hx hb hr hlk hP hD hS d_M_doCommitStep_188
        · have c7 : t = (3 + 2 * n + 2) := (nI_eq (a := t) (b := 3 + 2 * n + 2) (by omega) (by omega)).mp c7
          refine lv_aload_n hx hb d_M_doCommitStep_44 rfl (lv_at hl 3 rfl) ?_
          refine lv_iload_n hx hb d_M_doCommitStep_45 rfl (lv_at hl 4 rfl) ?_
          refine x_V (rest := []) ⟨hx, hb, hml, hown, hts⟩ (c_M_flushBy_ok l D cI cN ad z k hk) gm_207 gm_209 gm_4 gm_28 gm_210 ⟨rfl, rfl⟩ hd_M_flushBy ⟨Nat.le_of_ble_eq_true rfl, Nat.le_of_ble_eq_true rfl⟩ hK hP hD hS hA (va_recv hK hP (ci := 4) (q0 := 0) rfl x_hM) rfl hl.1 rfl (Nat.le_of_ble_eq_true rfl) d_M_doCommitStep_46 ⟨Nat.le_of_ble_eq_true rfl, Nat.le_of_ble_eq_true rfl⟩ (fun H locs hP hD hS => ?_)
          obtain ⟨z18, ez18⟩ : ∃ zt_ : x_S, zt_ = x_fl z k := ⟨_, rfl⟩
          rw [← ez18] at hP hD
          refine lv_goto (tgt := 188) hx hb d_M_doCommitStep_49 (by decide) ?_
          exact x_rv (w := x_w cI cN ad) (by subst ez18; first | (simp only [x_step, if_neg c1, if_neg c3, if_neg c5, if_pos c7]; done) | rfl | (simp only [x_step, if_neg c1, if_neg c3, if_neg c5, if_pos c7]; rfl)) hx hb hr hlk hP hD hS d_M_doCommitStep_188
set_option maxHeartbeats 4000000 in
set_option maxRecDepth 100000 in
theorem c_M_redoJournal_ok (l : Launch) (D : va_G) (cI cN : ClassId) (ad : Nat → Nat) (z : x_S) (k : Nat) (hk : k < 2) : x_C l y_M_redoJournal c_M_redoJournal 6 (some .int) { frames := 2, cells := 0, slots := 0, locals := 45 } D (x_ty cI cN) (x_w cI cN ad z) [.ref (ad 0), .int (nI k)] (some (.int (x_redo z k).1)) (x_w cI cN ad (x_redo z k).2) := by
  refine x_C.of (by decide) (Nat.le_of_ble_eq_true rfl) ?_
  intro p e s m below meth c hx hb hr hml hts hown hlk A hA hK hS hP hD ls hl
  have hown : s.vm.findClass R_M = some m.cls := hown
  have hl : lv_has ls 6 [(0, .ref (ad 0)), (1, .int (nI k))] := hl
  have lpo : ∀ e0 : Nat, 1 ≤ e0 → e0 ≤ 3 → x_held z k 24 = nI e0 → ∀ (H : Heap) (locs : List Loc) (ls : Array Slot), va_P D vwCl (x_w cI cN ad z) H → va_D A (x_w cI cN ad z) → va_S A s.heap H locs → lv_has ls 6 [(4, .int (nI 0)), (3, .int (nI e0)), (2, .ref (ad (8 + k))), (0, .ref (ad 0)), (1, .int (nI k))] → W p l e { frames := 2, cells := 0, slots := 0, locals := 45 } s m [.ref (ad 0), .int (nI k)].toArray below meth c H locs 0 0 (MQ below (x_Q (some (.int (x_redo z k).1)) D (x_w cI cN ad (x_redo z k).2) A) [.ref (ad 0), .int (nI k)].toArray s 0 0 A) (F0 m 32 ls []) := by
    intro e0 he1 he3 he
    have lp : ∀ (n i : Nat) (y : x_S) (H : Heap) (locs : List Loc) (ls : Array Slot), i + n = e0 → x_redo z k = (nI e0, x_redoL k n i y) → va_P D vwCl (x_w cI cN ad y) H → va_D A (x_w cI cN ad y) → va_S A s.heap H locs → lv_has ls 6 [(4, .int (nI i)), (3, .int (nI e0)), (2, .ref (ad (8 + k))), (0, .ref (ad 0)), (1, .int (nI k))] → W p l e { frames := 2, cells := 0, slots := 0, locals := 45 } s m [.ref (ad 0), .int (nI k)].toArray below meth c H locs 0 0 (MQ below (x_Q (some (.int (x_redo z k).1)) D (x_w cI cN ad (x_redo z k).2) A) [.ref (ad 0), .int (nI k)].toArray s 0 0 A) (F0 m 32 ls []) := by
      intro n
      induction n with
      | zero =>
        intro i y  H locs ls hn hI hP hD hS hl
        refine lv_iload hx hb d_M_redoJournal_32 (lv_at hl 0 rfl) ?_
        refine lv_iload_n hx hb d_M_redoJournal_34 rfl (lv_at hl 1 rfl) ?_
        refine lv_icmp_ge (tgt := 85) hx hb d_M_redoJournal_35 (by decide) (fun c1 => ?_) (fun c1 => ?_)
        · have c1 : e0 ≤ i := (nI_leI (a := e0) (b := i) (by omega) (by omega)).mp c1
          refine lv_iload_n hx hb d_M_redoJournal_85 rfl (lv_at hl 1 rfl) ?_
          exact x_ri (w := x_w cI cN ad) (by rw [hI]; rfl) hx hb hr hlk hP hD hS d_M_redoJournal_86
        · have c1 : ¬ e0 ≤ i := fun h => c1 ((nI_leI (a := e0) (b := i) (by omega) (by omega)).mpr h)
          exact absurd (show e0 ≤ i by omega) c1
      | succ n ih =>
        intro i y  H locs ls hn hI hP hD hS hl
        refine lv_iload hx hb d_M_redoJournal_32 (lv_at hl 0 rfl) ?_
        refine lv_iload_n hx hb d_M_redoJournal_34 rfl (lv_at hl 1 rfl) ?_
        refine lv_icmp_ge (tgt := 85) hx hb d_M_redoJournal_35 (by decide) (fun c2 => ?_) (fun c2 => ?_)
        · have c2 : e0 ≤ i := (nI_leI (a := e0) (b := i) (by omega) (by omega)).mp c2
          exact absurd c2 (by omega)
        · have c2 : ¬ e0 ≤ i := fun h => c2 ((nI_leI (a := e0) (b := i) (by omega) (by omega)).mpr h)
          refine lv_aload_n hx hb d_M_redoJournal_38 rfl (lv_at hl 2 rfl) ?_
          refine lv_bipush (v := 25) hx hb d_M_redoJournal_39 (by decide) ?_
          refine lv_iconst (v := 2) hx hb d_M_redoJournal_41 (by decide) ?_
          refine lv_iload hx hb d_M_redoJournal_42 (lv_at hl 0 rfl) ?_
          refine lv_imul hx hb d_M_redoJournal_44 ?_
          refine lv_iadd hx hb d_M_redoJournal_45 ?_
          refine x_top (show 25 + (2 * (nI i)) = nI (25 + 2 * i) by rw [show (2 : Int32) * nI i = nI (2 * i) from x_nmul 2 i]; exact x_nadd 25 (2 * i)) ?_
          refine x_V (rest := []) ⟨hx, hb, hml, hown, hts⟩ (c_D_held_ok l D cI cN ad y k hk (25 + 2 * i) (by omega)) gm_253 gm_254 gm_255 gm_31 gm_256 ⟨rfl, rfl⟩ hd_D_held ⟨Nat.le_of_ble_eq_true rfl, Nat.le_of_ble_eq_true rfl⟩ hK hP hD hS hA (va_recv hK hP (ci := 1) (q0 := (8 + k)) rfl (x_hD hk)) rfl hl.1 rfl (Nat.le_of_ble_eq_true rfl) d_M_redoJournal_46 ⟨Nat.le_of_ble_eq_true rfl, Nat.le_of_ble_eq_true rfl⟩ (fun H locs hP hD hS => ?_)
          refine lv_topi (fun r3 er3 => ?_)
          refine lv_istore (lv' := [(5, .int r3), (4, .int (nI i)), (3, .int (nI e0)), (2, .ref (ad (8 + k))), (0, .ref (ad 0)), (1, .int (nI k))]) hx hb d_M_redoJournal_49 hl (by decide) rfl (fun ls hl => ?_)
          refine lv_iload hx hb d_M_redoJournal_51 (lv_at hl 0 rfl) ?_
          refine x_T (rest := []) ⟨hx, hb, hml, hown, hts⟩ (c_M_isCell_ok l D cI cN ad y r3) gm_180 gm_181 gm_28 gm_182 ⟨rfl, rfl⟩ hd_M_isCell ⟨Nat.le_of_ble_eq_true rfl, Nat.le_of_ble_eq_true rfl⟩ hK hP hD hS hA rfl hl.1 rfl (Nat.le_of_ble_eq_true rfl) d_M_redoJournal_53 ⟨Nat.le_of_ble_eq_true rfl, Nat.le_of_ble_eq_true rfl⟩ (fun H locs hP hD hS => ?_)
          refine lv_topi (fun r4 er4 => ?_)
          refine lv_if_eq (tgt := 79) hx hb d_M_redoJournal_56 (by decide) (fun c5 => ?_) (fun c5 => ?_)
          · refine lv_iinc (v := nI (i + 1)) (lv' := [(4, .int (nI (i + 1))), (5, .int r3), (3, .int (nI e0)), (2, .ref (ad (8 + k))), (0, .ref (ad 0)), (1, .int (nI k))]) hx hb d_M_redoJournal_79 hl (k := 1) rfl (nI_1 _) (by decide) rfl (fun ls hl => ?_)
            refine lv_goto (tgt := 32) hx hb d_M_redoJournal_82 (by decide) ?_
            exact ih (i + 1) y H locs ls (by omega) (by subst er3 er4; rw [hI]; simp only [x_redoL, x_redoB, if_neg c2, if_pos c5]) hP hD hS (lv_sub hl [0, 2, 3, 4, 5] rfl)
          · obtain ⟨cc, hcc, ec⟩ := x_cellE (c := r3) (by subst er4; exact c5)
            subst ec
            refine lv_aload_n hx hb d_M_redoJournal_59 rfl (lv_at hl 4 rfl) ?_
            refine lv_iload_n hx hb d_M_redoJournal_60 rfl (lv_at hl 5 rfl) ?_
            refine lv_iload hx hb d_M_redoJournal_61 (lv_at hl 0 rfl) ?_
            refine lv_aload_n hx hb d_M_redoJournal_63 rfl (lv_at hl 3 rfl) ?_
            refine lv_bipush (v := 25) hx hb d_M_redoJournal_64 (by decide) ?_
            refine lv_iconst (v := 2) hx hb d_M_redoJournal_66 (by decide) ?_
            refine lv_iload hx hb d_M_redoJournal_67 (lv_at hl 1 rfl) ?_
            refine lv_imul hx hb d_M_redoJournal_69 ?_
            refine lv_iadd hx hb d_M_redoJournal_70 ?_
            refine x_top (show 25 + (2 * (nI i)) = nI (25 + 2 * i) by rw [show (2 : Int32) * nI i = nI (2 * i) from x_nmul 2 i]; exact x_nadd 25 (2 * i)) ?_
            refine lv_iconst (v := 1) hx hb d_M_redoJournal_71 (by decide) ?_
            refine lv_iadd hx hb d_M_redoJournal_72 ?_
            refine x_top (show (nI (25 + 2 * i)) + 1 = nI (25 + 2 * i + 1) from x_nadd (25 + 2 * i) 1) ?_
            refine x_V (rest := [.int (nI cc), .int (nI k), .ref (ad 0)]) ⟨hx, hb, hml, hown, hts⟩ (c_D_held_ok l D cI cN ad y k hk (25 + 2 * i + 1) (by omega)) gm_253 gm_254 gm_255 gm_31 gm_256 ⟨rfl, rfl⟩ hd_D_held ⟨Nat.le_of_ble_eq_true rfl, Nat.le_of_ble_eq_true rfl⟩ hK hP hD hS hA (va_recv hK hP (ci := 1) (q0 := (8 + k)) rfl (x_hD hk)) rfl hl.1 rfl (Nat.le_of_ble_eq_true rfl) d_M_redoJournal_73 ⟨Nat.le_of_ble_eq_true rfl, Nat.le_of_ble_eq_true rfl⟩ (fun H locs hP hD hS => ?_)
            refine lv_topi (fun r6 er6 => ?_)
            refine x_V (rest := []) ⟨hx, hb, hml, hown, hts⟩ (c_M_writeBy_ok l D cI cN ad y k hk cc (by omega) r6) gm_223 gm_225 gm_5 gm_28 gm_226 ⟨rfl, rfl⟩ hd_M_writeBy ⟨Nat.le_of_ble_eq_true rfl, Nat.le_of_ble_eq_true rfl⟩ hK hP hD hS hA (va_recv hK hP (ci := 4) (q0 := 0) rfl x_hM) rfl hl.1 rfl (Nat.le_of_ble_eq_true rfl) d_M_redoJournal_76 ⟨Nat.le_of_ble_eq_true rfl, Nat.le_of_ble_eq_true rfl⟩ (fun H locs hP hD hS => ?_)
            obtain ⟨z7, ez7⟩ : ∃ zt_ : x_S, zt_ = x_wr y k cc r6 := ⟨_, rfl⟩
            rw [← ez7] at hP hD
            refine lv_iinc (v := nI (i + 1)) (lv' := [(4, .int (nI (i + 1))), (5, .int (nI cc)), (3, .int (nI e0)), (2, .ref (ad (8 + k))), (0, .ref (ad 0)), (1, .int (nI k))]) hx hb d_M_redoJournal_79 hl (k := 1) rfl (nI_1 _) (by decide) rfl (fun ls hl => ?_)
            refine lv_goto (tgt := 32) hx hb d_M_redoJournal_82 (by decide) ?_
            exact ih (i + 1) z7 H locs ls (by omega) (by subst er4 er6 ez7; rw [hI]; simp only [x_redoL, x_redoB, if_neg c2, if_neg c5, ← er3, x_cl32 (show cc < 32 by omega)]) hP hD hS (lv_sub hl [0, 2, 3, 4, 5] rfl)
    intro H locs ls hP hD hS hl
    refine lp e0 0 z H locs ls (by omega) ?_ hP hD hS hl
    unfold x_redo
    rw [he, if_neg (show ¬ nI e0 < 1 from nI_nlt (b := 1) he1 (by omega)), if_pos (show nI e0 ≤ 3 from nI_le (b := 3) he3 (by decide)), nI_clamp (by omega)]
  refine lv_aload_n hx hb d_M_redoJournal_0 rfl (lv_at hl 0 rfl) ?_
  refine va_get (D := D) (ci := 4) (C := R_M) (T := T_M) (N := 7) hx hb hts in_M hown hK hP 0 x_hM rfl 0 (by decide) (hts _ gm_154) (fun _ h9 => h9) rfl d_M_redoJournal_1 ?_
  refine lv_iload_n hx hb d_M_redoJournal_4 rfl (lv_at hl 1 rfl) ?_
  refine va_aldq (D := D) hx hb hK hP 1 1 x_hA rfl (x_in2 hk) d_M_redoJournal_5 ?_
  refine x_topv (x_nf_at hk) ?_
  refine va_get (D := D) (ci := 2) (C := R_N) (T := T_N) (N := 8) hx hb hts in_N hown hK hP (6 + k) (x_hN hk) rfl 0 (by decide) (hts _ gm_90) (fun _ h9 => h9) rfl d_M_redoJournal_6 ?_
  refine lv_astore_n (lv' := [(2, .ref (ad (8 + k))), (0, .ref (ad 0)), (1, .int (nI k))]) hx hb d_M_redoJournal_9 rfl hl (by decide) rfl (fun ls hl => ?_)
  refine lv_aload_n hx hb d_M_redoJournal_10 rfl (lv_at hl 0 rfl) ?_
  refine lv_bipush (v := 24) hx hb d_M_redoJournal_11 (by decide) ?_
  refine x_top (show (24 : Int32) = nI 24 from rfl) ?_
  refine x_V (rest := []) ⟨hx, hb, hml, hown, hts⟩ (c_D_held_ok l D cI cN ad z k hk 24 (by decide)) gm_253 gm_254 gm_255 gm_31 gm_256 ⟨rfl, rfl⟩ hd_D_held ⟨Nat.le_of_ble_eq_true rfl, Nat.le_of_ble_eq_true rfl⟩ hK hP hD hS hA (va_recv hK hP (ci := 1) (q0 := (8 + k)) rfl (x_hD hk)) rfl hl.1 rfl (Nat.le_of_ble_eq_true rfl) d_M_redoJournal_13 ⟨Nat.le_of_ble_eq_true rfl, Nat.le_of_ble_eq_true rfl⟩ (fun H locs hP hD hS => ?_)
  refine lv_topi (fun r8 er8 => ?_)
  refine lv_istore_n (lv' := [(3, .int r8), (2, .ref (ad (8 + k))), (0, .ref (ad 0)), (1, .int (nI k))]) hx hb d_M_redoJournal_16 rfl hl (by decide) rfl (fun ls hl => ?_)
  refine lv_iload_n hx hb d_M_redoJournal_17 rfl (lv_at hl 0 rfl) ?_
  refine lv_iconst (v := 1) hx hb d_M_redoJournal_18 (by decide) ?_
  refine lv_icmp_lt (tgt := 27) hx hb d_M_redoJournal_19 (by decide) (fun c9 => ?_) (fun c9 => ?_)
  · refine lv_iconst (v := 0) hx hb d_M_redoJournal_27 (by decide) ?_
    exact x_ri (w := x_w cI cN ad) (by subst er8; first | (simp only [x_redo, if_pos c9]; done) | rfl | (simp only [x_redo, if_pos c9]; rfl)) hx hb hr hlk hP hD hS d_M_redoJournal_28
  · refine lv_iload_n hx hb d_M_redoJournal_22 rfl (lv_at hl 0 rfl) ?_
    refine lv_iconst (v := 3) hx hb d_M_redoJournal_23 (by decide) ?_
    refine lv_icmp_le (tgt := 29) hx hb d_M_redoJournal_24 (by decide) (fun c10 => ?_) (fun c10 => ?_)
    · obtain ⟨e0, he1, he3, ee⟩ := x_oneTo3 c9 c10
      subst ee
      refine lv_iconst (v := 0) hx hb d_M_redoJournal_29 (by decide) ?_
      refine lv_istore (lv' := [(4, .int 0), (3, .int (nI e0)), (2, .ref (ad (8 + k))), (0, .ref (ad 0)), (1, .int (nI k))]) hx hb d_M_redoJournal_30 hl (by decide) rfl (fun ls hl => ?_)
      exact lpo e0 he1 he3 er8.symm _ _ ls hP hD hS (lv_sub hl [0, 1, 2, 3, 4] rfl)
    · refine lv_iconst (v := 0) hx hb d_M_redoJournal_27 (by decide) ?_
      exact x_ri (w := x_w cI cN ad) (by subst er8; first | (simp only [x_redo, if_neg c9, if_neg c10]; done) | rfl | (simp only [x_redo, if_neg c9, if_neg c10]; rfl)) hx hb hr hlk hP hD hS d_M_redoJournal_28
end
section
-- ===== 12.xspec3: the public calls of the class; n is the batch's size
def x_stage (z : x_S) (n : Nat) (a v : Int32) : Int32 × x_S := if x_isCell a = 0 then (-1, z) else if x_findP z = 2 then (-1, z) else if n = 3 then (-2, z) else (x_app z n a v 2 0, x_app z n a v)
def x_cell (z : x_S) (a : Int32) : Int64 := if x_isCell a = 0 then -1000000000000 else if x_findP z = 2 then -1000000000000 else (x_held z (x_findP z).toNatClampNeg a.toNatClampNeg).toInt64
def x_crash (z : x_S) (a keep : Int32) : Int32 × x_S := if x_isNode a = 0 then (-1, z) else if z (5 + a.toNatClampNeg) 0 = 0 then (-1, z) else (0, x_bring z a.toNatClampNeg keep)
def x_restart (z : x_S) (a : Int32) : Int32 × x_S := if x_isNode a = 0 then (-1, z) else if z (5 + a.toNatClampNeg) 0 = 0 then (0, x_up z (5 + a.toNatClampNeg) 0 1) else (-1, z)
def x_swap (z : x_S) (a : Int32) : Int32 × x_S := if x_isNode a = 0 then (-1, z) else if z (5 + a.toNatClampNeg) 0 = 0 then (0, x_renew z a.toNatClampNeg) else (-1, z)
def x_line (z : x_S) (u : Int32) : Int32 × x_S := if u = 0 then (0, x_disc (x_up z 0 0 u)) else (0, x_up z 0 0 u)
def x_wline (z : x_S) (a u : Int32) : Int32 × x_S := if x_isNode a = 0 then (-1, z) else (0, x_up z (5 + a.toNatClampNeg) 6 u)
def x_conn3 (z : x_S) : Int32 × x_S :=
  let z1 := x_up z 0 3 (x_choose z)
  let s := (x_choose z).toNatClampNeg
  let z2 := x_up z1 0 1 1
  if x_diff z1 s = 0 then (x_bc (x_diff z1 s), x_fin z2 s) else (x_bc (x_diff z1 s), x_start z2 s (x_diff z1 s))
def x_connect (z : x_S) : Int32 × x_S := if z 0 1 = 0 then (if z 0 0 = 0 then (-1, z) else if z 5 0 = 0 then (-1, z) else if z 6 0 = 0 then (-1, z) else if z 5 2 = 0 then (if z 6 2 = 0 then (-6, z) else x_conn3 z) else x_conn3 z) else (-1, z)
def x_prom2 (z : x_S) (k : Nat) (al : Bool) : Int32 × x_S :=
  let z1 := x_lend (x_up (x_sec z (1 - k)) (5 + k) 1 1) (nI k)
  if al then x_redo (x_fl (x_goAl z1 k) k) k else if x_unp z1 k = 0 then x_redo (x_fl z1 k) k else x_redo (x_fl (x_goAl z1 k) k) k
def x_promote (z : x_S) (a f : Int32) : Int32 × x_S := if x_isNode a = 0 then (-1, z) else
  let k := a.toNatClampNeg
  if x_may z k = 0 then (-1, z) else if x_lent z (nI (1 - k)) = 0 then (if z (5 + k) 2 = 0 then (-6, z) else if z (5 + k) 2 = z 1 1 then x_prom2 z k false else if f = 0 then (-5, z) else x_prom2 z k true) else (-4, z)
def x_demote (z : x_S) (a : Int32) : Int32 × x_S := if x_isNode a = 0 then (-1, z) else if z (5 + a.toNatClampNeg) 1 = 0 then (-1, z) else if x_sec z a.toNatClampNeg 1 3 = a then (0, x_up (x_sec z a.toNatClampNeg) 1 3 2) else (0, x_sec z a.toNatClampNeg)
def x_rnw (z : x_S) : Int32 × x_S := if x_findP z = 2 then (-1, z) else if z (5 + (x_findP z).toNatClampNeg) 6 = 0 then (-1, z) else (x_ext z 1 4, x_ext z)
def x_tick (z : x_S) (b : Int32) : Int32 × x_S := if b < 0 then (-1, z) else if b ≤ 100 then
    (let z1 := x_up z 1 2 (z 1 2 + b)
     if x_run z1 = 0 then (let z2 := x_sec (x_sec (x_up z1 1 3 2) 0) 1; (z2 1 2, z2)) else (z1 1 2, z1)) else (-1, z)
def x_block (z : x_S) (a b f : Int32) : Int64 := if x_isNode a = 0 then -1000000000000 else if b < 0 then -1000000000000 else if b < 32 then (if f = 0 then (x_held z a.toNatClampNeg b.toNatClampNeg).toInt64 else (z (7 + a.toNatClampNeg) b.toNatClampNeg).toInt64) else -1000000000000
def x_node (z : x_S) (a w : Int32) : Int32 := if x_isNode a = 0 then -1 else
  let k := a.toNatClampNeg
  if w = 0 then x_num (z (5 + k) 0) else if w = 1 then x_num (z (5 + k) 1) else if w = 2 then z (5 + k) 2 else if w = 3 then z (5 + k) 3 else if w = 4 then x_num (z (5 + k) 4) else if w = 5 then z (5 + k) 5 else if w = 6 then x_bc (z (5 + k) 7) else if w = 7 then x_num (z (5 + k) 6) else -1
def x_mirror (z : x_S) (w : Int32) : Int32 := if w = 0 then x_num (z 0 1) else if w = 1 then (if z 0 2 = 0 then 2 else z 0 3) else if w = 2 then z 1 1 else if w = 3 then z 1 3 else if w = 4 then (if z 1 3 = 2 then 0 else z 1 4) else if w = 5 then z 2 0 else if w = 6 then x_num (z 0 0) else -1
theorem x_sw (n : Nat) (w : Int32) : (w.toInt < 0 ∨ ((n : Int) - 1) < w.toInt) ∨ ∃ j, j < n ∧ w = nI j := by
  rcases Int.lt_or_le w.toInt 0 with h | h
  · exact Or.inl (Or.inl h)
  · rcases Int.lt_or_le ((n : Int) - 1) w.toInt with h2 | h2
    · exact Or.inl (Or.inr h2)
    · have h0 : ¬ w < 0 := fun q => by
        rw [Int32.lt_iff_toInt_lt, Int32.toInt_zero] at q
        omega
      obtain ⟨j, hj, rfl⟩ := nI_of h0
      rw [nI_toInt hj] at h2
      exact Or.inr ⟨j, by omega, rfl⟩
theorem x_findE {z : x_S} {r : Int32} (e : r = x_findP z) (h : ¬ r = 2) : ∃ k : Nat, k < 2 ∧ r = nI k := by
  subst e
  unfold x_findP at h ⊢
  by_cases h0 : z 5 1 = 0
  · by_cases h1 : z 6 1 = 0
    · simp [h0, h1] at h
    · exact ⟨1, by decide, by rw [if_pos h0, if_neg h1]; rfl⟩
  · exact ⟨0, by decide, by rw [if_neg h0]; rfl⟩
theorem x_chooseE (z : x_S) : ∃ k : Nat, k < 2 ∧ x_choose z = nI k := by
  unfold x_choose
  by_cases h0 : z 5 2 = z 6 2
  · by_cases h1 : z 6 1 = 0
    · exact ⟨0, by decide, by rw [if_pos h0, if_pos h1]; rfl⟩
    · exact ⟨1, by decide, by rw [if_pos h0, if_neg h1]; rfl⟩
  · by_cases h1 : z 5 2 ≤ z 6 2
    · exact ⟨1, by decide, by rw [if_neg h0, if_pos h1]; rfl⟩
    · exact ⟨0, by decide, by rw [if_neg h0, if_neg h1]; rfl⟩
theorem x_b32E {b : Int32} (h0 : ¬ b < 0) (h1 : b < 32) : ∃ j : Nat, j < 32 ∧ b = nI j := by
  rcases pk_ix b (n := 32) (by decide) with q | q | q
  · exact absurd q h0
  · exact absurd (show (32 : Int32) ≤ b from q) (Int32.not_le.mpr h1)
  · exact q
end
section
-- ===== 13.x5: the public calls
set_option maxHeartbeats 4000000 in
set_option maxRecDepth 100000 in
theorem c_M_stage_ok (l : Launch) (D : va_G) (cI cN : ClassId) (ad : Nat → Nat) (z : x_S) (n : Nat) (hn : n ≤ 3) (hz : z 2 0 = nI n) (a v : Int32) : x_C l y_M_stage c_M_stage 3 (some .int) { frames := 1, cells := 0, slots := 0, locals := 22 } D (x_ty cI cN) (x_w cI cN ad z) [.ref (ad 0), .int a, .int v] (some (.int (x_stage z n a v).1)) (x_w cI cN ad (x_stage z n a v).2) := by
  refine x_C.of (by decide) (Nat.le_of_ble_eq_true rfl) ?_
  intro p e s m below meth c hx hb hr hml hts hown hlk A hA hK hS hP hD ls hl
  have hown : s.vm.findClass R_M = some m.cls := hown
  have hl : lv_has ls 3 [(0, .ref (ad 0)), (1, .int a), (2, .int v)] := hl
  refine lv_iload_n hx hb d_M_stage_0 rfl (lv_at hl 1 rfl) ?_
  refine x_T (rest := []) ⟨hx, hb, hml, hown, hts⟩ (c_M_isCell_ok l D cI cN ad z a) gm_180 gm_181 gm_28 gm_182 ⟨rfl, rfl⟩ hd_M_isCell ⟨Nat.le_of_ble_eq_true rfl, Nat.le_of_ble_eq_true rfl⟩ hK hP hD hS hA rfl hl.1 rfl (Nat.le_of_ble_eq_true rfl) d_M_stage_1 ⟨Nat.le_of_ble_eq_true rfl, Nat.le_of_ble_eq_true rfl⟩ (fun H locs hP hD hS => ?_)
  refine lv_topi (fun r1 er1 => ?_)
  refine lv_if_eq (tgt := 15) hx hb d_M_stage_4 (by decide) (fun c2 => ?_) (fun c2 => ?_)
  · refine lv_iconst (v := (-1)) hx hb d_M_stage_15 (by decide) ?_
    exact x_ri (w := x_w cI cN ad) (by subst er1; first | (simp only [x_stage, if_pos c2]; done) | rfl | (simp only [x_stage, if_pos c2]; rfl)) hx hb hr hlk hP hD hS d_M_stage_16
  · refine lv_aload_n hx hb d_M_stage_7 rfl (lv_at hl 0 rfl) ?_
    refine x_V (rest := []) ⟨hx, hb, hml, hown, hts⟩ (c_M_findPrimary_ok l D cI cN ad z) gm_183 gm_185 gm_0 gm_28 gm_186 ⟨rfl, rfl⟩ hd_M_findPrimary ⟨Nat.le_of_ble_eq_true rfl, Nat.le_of_ble_eq_true rfl⟩ hK hP hD hS hA (va_recv hK hP (ci := 4) (q0 := 0) rfl x_hM) rfl hl.1 rfl (Nat.le_of_ble_eq_true rfl) d_M_stage_8 ⟨Nat.le_of_ble_eq_true rfl, Nat.le_of_ble_eq_true rfl⟩ (fun H locs hP hD hS => ?_)
    refine lv_topi (fun r3 er3 => ?_)
    refine lv_iconst (v := 2) hx hb d_M_stage_11 (by decide) ?_
    refine lv_icmp_ne (tgt := 17) hx hb d_M_stage_12 (by decide) (fun c4 => ?_) (fun c4 => ?_)
    · refine lv_aload_n hx hb d_M_stage_17 rfl (lv_at hl 0 rfl) ?_
      refine va_get (D := D) (ci := 4) (C := R_M) (T := T_M) (N := 7) hx hb hts in_M hown hK hP 0 x_hM rfl 2 (by decide) (hts _ gm_156) (fun _ h9 => h9) rfl d_M_stage_18 ?_
      refine va_get (D := D) (ci := 0) (C := R_B) (T := T_B) (N := 3) hx hb hts in_B hown hK hP 3 x_hB rfl 2 (by decide) (hts _ gm_58) (fun _ h9 => h9) rfl d_M_stage_21 ?_
      refine x_top (show z 2 0 = nI n by subst er1 er3; exact hz) ?_
      refine lv_iconst (v := 3) hx hb d_M_stage_24 (by decide) ?_
      refine lv_icmp_ne (tgt := 31) hx hb d_M_stage_25 (by decide) (fun c5 => ?_) (fun c5 => ?_)
      · have c5 : ¬ n = 3 := fun h => c5 ((nI_eq (a := n) (b := 3) (by omega) (by omega)).mpr h)
        refine lv_aload_n hx hb d_M_stage_31 rfl (lv_at hl 0 rfl) ?_
        refine va_get (D := D) (ci := 4) (C := R_M) (T := T_M) (N := 7) hx hb hts in_M hown hK hP 0 x_hM rfl 2 (by decide) (hts _ gm_156) (fun _ h9 => h9) rfl d_M_stage_32 ?_
        refine lv_iload_n hx hb d_M_stage_35 rfl (lv_at hl 1 rfl) ?_
        refine lv_iload_n hx hb d_M_stage_36 rfl (lv_at hl 2 rfl) ?_
        refine x_V (rest := []) ⟨hx, hb, hml, hown, hts⟩ (c_B_append_ok l D cI cN ad z n hn hz a v) gm_187 gm_188 gm_189 gm_29 gm_190 ⟨rfl, rfl⟩ hd_B_append ⟨Nat.le_of_ble_eq_true rfl, Nat.le_of_ble_eq_true rfl⟩ hK hP hD hS hA (va_recv hK hP (ci := 0) (q0 := 3) rfl x_hB) rfl hl.1 rfl (Nat.le_of_ble_eq_true rfl) d_M_stage_37 ⟨Nat.le_of_ble_eq_true rfl, Nat.le_of_ble_eq_true rfl⟩ (fun H locs hP hD hS => ?_)
        obtain ⟨z6, ez6⟩ : ∃ zt_ : x_S, zt_ = x_app z n a v := ⟨_, rfl⟩
        rw [← ez6] at hP hD
        refine lv_aload_n hx hb d_M_stage_40 rfl (lv_at hl 0 rfl) ?_
        refine va_get (D := D) (ci := 4) (C := R_M) (T := T_M) (N := 7) hx hb hts in_M hown hK hP 0 x_hM rfl 2 (by decide) (hts _ gm_156) (fun _ h9 => h9) rfl d_M_stage_41 ?_
        refine va_get (D := D) (ci := 0) (C := R_B) (T := T_B) (N := 3) hx hb hts in_B hown hK hP 3 x_hB rfl 2 (by decide) (hts _ gm_58) (fun _ h9 => h9) rfl d_M_stage_44 ?_
        exact x_ri (w := x_w cI cN ad) (by subst er1 er3 ez6; first | (simp only [x_stage, if_neg c2, if_neg c4, if_neg c5]; done) | rfl | (simp only [x_stage, if_neg c2, if_neg c4, if_neg c5]; rfl)) hx hb hr hlk hP hD hS d_M_stage_47
      · have c5 : n = 3 := (nI_eq (a := n) (b := 3) (by omega) (by omega)).mp c5
        refine lv_bipush (v := (-2)) hx hb d_M_stage_28 (by decide) ?_
        exact x_ri (w := x_w cI cN ad) (by subst er1 er3; first | (simp only [x_stage, if_neg c2, if_neg c4, if_pos c5]; done) | rfl | (simp only [x_stage, if_neg c2, if_neg c4, if_pos c5]; rfl)) hx hb hr hlk hP hD hS d_M_stage_30
    · refine lv_iconst (v := (-1)) hx hb d_M_stage_15 (by decide) ?_
      exact x_ri (w := x_w cI cN ad) (by subst er1 er3; first | (simp only [x_stage, if_neg c2, if_pos c4]; done) | rfl | (simp only [x_stage, if_neg c2, if_pos c4]; rfl)) hx hb hr hlk hP hD hS d_M_stage_16
set_option maxHeartbeats 4000000 in
set_option maxRecDepth 100000 in
theorem c_M_cell_ok (l : Launch) (D : va_G) (cI cN : ClassId) (ad : Nat → Nat) (z : x_S) (a : Int32) : x_C l y_M_cell c_M_cell 3 (some .long) { frames := 2, cells := 0, slots := 0, locals := 42 } D (x_ty cI cN) (x_w cI cN ad z) [.ref (ad 0), .int a] (some (.long (x_cell z a))) (x_w cI cN ad z) := by
  refine x_C.of (by decide) (Nat.le_of_ble_eq_true rfl) ?_
  intro p e s m below meth c hx hb hr hml hts hown hlk A hA hK hS hP hD ls hl
  have hown : s.vm.findClass R_M = some m.cls := hown
  have hl : lv_has ls 3 [(0, .ref (ad 0)), (1, .int a)] := hl
  refine lv_aload_n hx hb d_M_cell_0 rfl (lv_at hl 0 rfl) ?_
  refine x_V (rest := []) ⟨hx, hb, hml, hown, hts⟩ (c_M_findPrimary_ok l D cI cN ad z) gm_183 gm_185 gm_0 gm_28 gm_186 ⟨rfl, rfl⟩ hd_M_findPrimary ⟨Nat.le_of_ble_eq_true rfl, Nat.le_of_ble_eq_true rfl⟩ hK hP hD hS hA (va_recv hK hP (ci := 4) (q0 := 0) rfl x_hM) rfl hl.1 rfl (Nat.le_of_ble_eq_true rfl) d_M_cell_1 ⟨Nat.le_of_ble_eq_true rfl, Nat.le_of_ble_eq_true rfl⟩ (fun H locs hP hD hS => ?_)
  refine lv_topi (fun r1 er1 => ?_)
  refine lv_istore_n (lv' := [(2, .int r1), (0, .ref (ad 0)), (1, .int a)]) hx hb d_M_cell_4 rfl hl (by decide) rfl (fun ls hl => ?_)
  refine lv_iload_n hx hb d_M_cell_5 rfl (lv_at hl 2 rfl) ?_
  refine x_T (rest := []) ⟨hx, hb, hml, hown, hts⟩ (c_M_isCell_ok l D cI cN ad z a) gm_180 gm_181 gm_28 gm_182 ⟨rfl, rfl⟩ hd_M_isCell ⟨Nat.le_of_ble_eq_true rfl, Nat.le_of_ble_eq_true rfl⟩ hK hP hD hS hA rfl hl.1 rfl (Nat.le_of_ble_eq_true rfl) d_M_cell_6 ⟨Nat.le_of_ble_eq_true rfl, Nat.le_of_ble_eq_true rfl⟩ (fun H locs hP hD hS => ?_)
  refine lv_topi (fun r2 er2 => ?_)
  refine lv_if_eq (tgt := 17) hx hb d_M_cell_9 (by decide) (fun c3 => ?_) (fun c3 => ?_)
  · refine lv_ldc2 (v := (-1000000000000)) hx hb hown (hts (.constantLong R_M 85 (-1000000000000)) gm_252) d_M_cell_17 ?_
    exact x_rl (by subst er1 er2; first | (simp only [x_cell, if_pos c3]; done) | rfl | (simp only [x_cell, if_pos c3]; rfl)) hx hb hr hlk hP hD hS d_M_cell_20
  · obtain ⟨bb, hbb, eb⟩ := x_cellE (c := a) (by rw [← er2]; exact c3)
    subst eb
    refine lv_iload_n hx hb d_M_cell_12 rfl (lv_at hl 0 rfl) ?_
    refine lv_iconst (v := 2) hx hb d_M_cell_13 (by decide) ?_
    refine lv_icmp_ne (tgt := 21) hx hb d_M_cell_14 (by decide) (fun c4 => ?_) (fun c4 => ?_)
    · obtain ⟨k, hk, ek⟩ := x_findE er1 c4
      subst ek
      refine lv_aload_n hx hb d_M_cell_21 rfl (lv_at hl 1 rfl) ?_
      refine va_get (D := D) (ci := 4) (C := R_M) (T := T_M) (N := 7) hx hb hts in_M hown hK hP 0 x_hM rfl 0 (by decide) (hts _ gm_154) (fun _ h9 => h9) rfl d_M_cell_22 ?_
      refine lv_iload_n hx hb d_M_cell_25 rfl (lv_at hl 0 rfl) ?_
      refine va_aldq (D := D) hx hb hK hP 1 1 x_hA rfl (x_in2 hk) d_M_cell_26 ?_
      refine x_topv (x_nf_at hk) ?_
      refine va_get (D := D) (ci := 2) (C := R_N) (T := T_N) (N := 8) hx hb hts in_N hown hK hP (6 + k) (x_hN hk) rfl 0 (by decide) (hts _ gm_90) (fun _ h9 => h9) rfl d_M_cell_27 ?_
      refine lv_iload_n hx hb d_M_cell_30 rfl (lv_at hl 2 rfl) ?_
      refine x_V (rest := []) ⟨hx, hb, hml, hown, hts⟩ (c_D_held_ok l D cI cN ad z k hk bb (by omega)) gm_253 gm_254 gm_255 gm_31 gm_256 ⟨rfl, rfl⟩ hd_D_held ⟨Nat.le_of_ble_eq_true rfl, Nat.le_of_ble_eq_true rfl⟩ hK hP hD hS hA (va_recv hK hP (ci := 1) (q0 := (8 + k)) rfl (x_hD hk)) rfl hl.1 rfl (Nat.le_of_ble_eq_true rfl) d_M_cell_31 ⟨Nat.le_of_ble_eq_true rfl, Nat.le_of_ble_eq_true rfl⟩ (fun H locs hP hD hS => ?_)
      refine lv_topi (fun r5 er5 => ?_)
      refine lv_i2l (v := r5.toInt64) hx hb d_M_cell_34 rfl ?_
      exact x_rl (by subst er2 er5; first | (simp only [x_cell, if_neg c3, if_neg c4, x_cl32 (show bb < 32 by omega), ← er1, x_cl hk]; done) | rfl | (simp only [x_cell, if_neg c3, if_neg c4, x_cl32 (show bb < 32 by omega), ← er1, x_cl hk]; rfl)) hx hb hr hlk hP hD hS d_M_cell_35
    · refine lv_ldc2 (v := (-1000000000000)) hx hb hown (hts (.constantLong R_M 85 (-1000000000000)) gm_252) d_M_cell_17 ?_
      exact x_rl (by subst er1 er2; first | (simp only [x_cell, if_neg c3, if_pos c4, x_cl32 (show bb < 32 by omega)]; done) | rfl | (simp only [x_cell, if_neg c3, if_pos c4, x_cl32 (show bb < 32 by omega)]; rfl)) hx hb hr hlk hP hD hS d_M_cell_20
set_option maxHeartbeats 4000000 in
set_option maxRecDepth 100000 in
theorem c_M_crash_ok (l : Launch) (D : va_G) (cI cN : ClassId) (ad : Nat → Nat) (z : x_S) (a keep : Int32) : x_C l y_M_crash c_M_crash 3 (some .int) { frames := 3, cells := 0, slots := 0, locals := 66 } D (x_ty cI cN) (x_w cI cN ad z) [.ref (ad 0), .int a, .int keep] (some (.int (x_crash z a keep).1)) (x_w cI cN ad (x_crash z a keep).2) := by
  refine x_C.of (by decide) (Nat.le_of_ble_eq_true rfl) ?_
  intro p e s m below meth c hx hb hr hml hts hown hlk A hA hK hS hP hD ls hl
  have hown : s.vm.findClass R_M = some m.cls := hown
  have hl : lv_has ls 3 [(0, .ref (ad 0)), (1, .int a), (2, .int keep)] := hl
  refine lv_iload_n hx hb d_M_crash_0 rfl (lv_at hl 1 rfl) ?_
  refine x_T (rest := []) ⟨hx, hb, hml, hown, hts⟩ (c_M_isNode_ok l D cI cN ad z a) gm_261 gm_262 gm_28 gm_263 ⟨rfl, rfl⟩ hd_M_isNode ⟨Nat.le_of_ble_eq_true rfl, Nat.le_of_ble_eq_true rfl⟩ hK hP hD hS hA rfl hl.1 rfl (Nat.le_of_ble_eq_true rfl) d_M_crash_1 ⟨Nat.le_of_ble_eq_true rfl, Nat.le_of_ble_eq_true rfl⟩ (fun H locs hP hD hS => ?_)
  refine lv_topi (fun r1 er1 => ?_)
  refine lv_if_eq (tgt := 19) hx hb d_M_crash_4 (by decide) (fun c2 => ?_) (fun c2 => ?_)
  · refine lv_iconst (v := (-1)) hx hb d_M_crash_19 (by decide) ?_
    exact x_ri (w := x_w cI cN ad) (by subst er1; first | (simp only [x_crash, if_pos c2]; done) | rfl | (simp only [x_crash, if_pos c2]; rfl)) hx hb hr hlk hP hD hS d_M_crash_20
  · obtain ⟨k, hk, ek⟩ := x_nodeE (c := a) (by rw [← er1]; exact c2)
    subst ek
    refine lv_aload_n hx hb d_M_crash_7 rfl (lv_at hl 0 rfl) ?_
    refine va_get (D := D) (ci := 4) (C := R_M) (T := T_M) (N := 7) hx hb hts in_M hown hK hP 0 x_hM rfl 0 (by decide) (hts _ gm_154) (fun _ h9 => h9) rfl d_M_crash_8 ?_
    refine lv_iload_n hx hb d_M_crash_11 rfl (lv_at hl 1 rfl) ?_
    refine va_aldq (D := D) hx hb hK hP 1 1 x_hA rfl (x_in2 hk) d_M_crash_12 ?_
    refine x_topv (x_nf_at hk) ?_
    refine va_get (D := D) (ci := 2) (C := R_N) (T := T_N) (N := 8) hx hb hts in_N hown hK hP (6 + k) (x_hN hk) rfl 1 (by decide) (hts _ gm_92) (fun _ h9 => h9) rfl d_M_crash_13 ?_
    refine lv_if_ne (tgt := 21) hx hb d_M_crash_16 (by decide) (fun c3 => ?_) (fun c3 => ?_)
    · refine lv_aload_n hx hb d_M_crash_21 rfl (lv_at hl 0 rfl) ?_
      refine lv_iload_n hx hb d_M_crash_22 rfl (lv_at hl 1 rfl) ?_
      refine lv_iload_n hx hb d_M_crash_23 rfl (lv_at hl 2 rfl) ?_
      refine x_V (rest := []) ⟨hx, hb, hml, hown, hts⟩ (c_M_bringDown_ok l D cI cN ad z k hk keep) gm_231 gm_233 gm_6 gm_28 gm_234 ⟨rfl, rfl⟩ hd_M_bringDown ⟨Nat.le_of_ble_eq_true rfl, Nat.le_of_ble_eq_true rfl⟩ hK hP hD hS hA (va_recv hK hP (ci := 4) (q0 := 0) rfl x_hM) rfl hl.1 rfl (Nat.le_of_ble_eq_true rfl) d_M_crash_24 ⟨Nat.le_of_ble_eq_true rfl, Nat.le_of_ble_eq_true rfl⟩ (fun H locs hP hD hS => ?_)
      obtain ⟨z4, ez4⟩ : ∃ zt_ : x_S, zt_ = x_bring z k keep := ⟨_, rfl⟩
      rw [← ez4] at hP hD
      refine lv_iconst (v := 0) hx hb d_M_crash_27 (by decide) ?_
      exact x_ri (w := x_w cI cN ad) (by subst er1 ez4; first | (simp only [x_crash, if_neg c2, if_neg c3, x_cl hk]; done) | rfl | (simp only [x_crash, if_neg c2, if_neg c3, x_cl hk]; rfl)) hx hb hr hlk hP hD hS d_M_crash_28
    · refine lv_iconst (v := (-1)) hx hb d_M_crash_19 (by decide) ?_
      exact x_ri (w := x_w cI cN ad) (by subst er1; first | (simp only [x_crash, if_neg c2, if_pos c3, x_cl hk]; done) | rfl | (simp only [x_crash, if_neg c2, if_pos c3, x_cl hk]; rfl)) hx hb hr hlk hP hD hS d_M_crash_20
set_option maxHeartbeats 4000000 in
set_option maxRecDepth 100000 in
theorem c_M_restart_ok (l : Launch) (D : va_G) (cI cN : ClassId) (ad : Nat → Nat) (z : x_S) (a : Int32) : x_C l y_M_restart c_M_restart 2 (some .int) { frames := 1, cells := 0, slots := 0, locals := 20 } D (x_ty cI cN) (x_w cI cN ad z) [.ref (ad 0), .int a] (some (.int (x_restart z a).1)) (x_w cI cN ad (x_restart z a).2) := by
  refine x_C.of (by decide) (Nat.le_of_ble_eq_true rfl) ?_
  intro p e s m below meth c hx hb hr hml hts hown hlk A hA hK hS hP hD ls hl
  have hown : s.vm.findClass R_M = some m.cls := hown
  have hl : lv_has ls 2 [(0, .ref (ad 0)), (1, .int a)] := hl
  refine lv_iload_n hx hb d_M_restart_0 rfl (lv_at hl 1 rfl) ?_
  refine x_T (rest := []) ⟨hx, hb, hml, hown, hts⟩ (c_M_isNode_ok l D cI cN ad z a) gm_261 gm_262 gm_28 gm_263 ⟨rfl, rfl⟩ hd_M_isNode ⟨Nat.le_of_ble_eq_true rfl, Nat.le_of_ble_eq_true rfl⟩ hK hP hD hS hA rfl hl.1 rfl (Nat.le_of_ble_eq_true rfl) d_M_restart_1 ⟨Nat.le_of_ble_eq_true rfl, Nat.le_of_ble_eq_true rfl⟩ (fun H locs hP hD hS => ?_)
  refine lv_topi (fun r1 er1 => ?_)
  refine lv_if_eq (tgt := 19) hx hb d_M_restart_4 (by decide) (fun c2 => ?_) (fun c2 => ?_)
  · refine lv_iconst (v := (-1)) hx hb d_M_restart_19 (by decide) ?_
    exact x_ri (w := x_w cI cN ad) (by subst er1; first | (simp only [x_restart, if_pos c2]; done) | rfl | (simp only [x_restart, if_pos c2]; rfl)) hx hb hr hlk hP hD hS d_M_restart_20
  · obtain ⟨k, hk, ek⟩ := x_nodeE (c := a) (by rw [← er1]; exact c2)
    subst ek
    refine lv_aload_n hx hb d_M_restart_7 rfl (lv_at hl 0 rfl) ?_
    refine va_get (D := D) (ci := 4) (C := R_M) (T := T_M) (N := 7) hx hb hts in_M hown hK hP 0 x_hM rfl 0 (by decide) (hts _ gm_154) (fun _ h9 => h9) rfl d_M_restart_8 ?_
    refine lv_iload_n hx hb d_M_restart_11 rfl (lv_at hl 1 rfl) ?_
    refine va_aldq (D := D) hx hb hK hP 1 1 x_hA rfl (x_in2 hk) d_M_restart_12 ?_
    refine x_topv (x_nf_at hk) ?_
    refine va_get (D := D) (ci := 2) (C := R_N) (T := T_N) (N := 8) hx hb hts in_N hown hK hP (6 + k) (x_hN hk) rfl 1 (by decide) (hts _ gm_92) (fun _ h9 => h9) rfl d_M_restart_13 ?_
    refine lv_if_eq (tgt := 21) hx hb d_M_restart_16 (by decide) (fun c3 => ?_) (fun c3 => ?_)
    · refine lv_aload_n hx hb d_M_restart_21 rfl (lv_at hl 0 rfl) ?_
      refine va_get (D := D) (ci := 4) (C := R_M) (T := T_M) (N := 7) hx hb hts in_M hown hK hP 0 x_hM rfl 0 (by decide) (hts _ gm_154) (fun _ h9 => h9) rfl d_M_restart_22 ?_
      refine lv_iload_n hx hb d_M_restart_25 rfl (lv_at hl 1 rfl) ?_
      refine va_aldq (D := D) hx hb hK hP 1 1 x_hA rfl (x_in2 hk) d_M_restart_26 ?_
      refine x_topv (x_nf_at hk) ?_
      refine lv_iconst (v := 1) hx hb d_M_restart_27 (by decide) ?_
      refine va_put (D := D) (ci := 2) (v := .int 1) (ty := .boolean) (C := R_N) (T := T_N) (N := 8) hx hb hts in_N fy_N fy_N_ok n_N hown hK hP hD hS (6 + k) (x_hN hk) rfl 1 (by decide) (hts _ gm_92) (fun _ h9 => h9) rfl (by decide +kernel) rfl rfl (Nat.le_of_ble_eq_true rfl) d_M_restart_28 (fun H locs hP hD hS => ?_)
      obtain ⟨z4, ez4⟩ : ∃ zt_ : x_S, zt_ = x_up z (5 + k) 0 1 := ⟨_, rfl⟩
      have hP : va_P D vwCl (x_w cI cN ad z4) H := by rw [ez4, ← x_sN (i := 0) hk (by decide) 1]; exact hP
      have hD : va_D A (x_w cI cN ad z4) := by rw [ez4, ← x_sN (i := 0) hk (by decide) 1]; exact hD
      refine lv_iconst (v := 0) hx hb d_M_restart_31 (by decide) ?_
      exact x_ri (w := x_w cI cN ad) (by subst er1 ez4; first | (simp only [x_restart, if_neg c2, if_pos c3, x_cl hk]; done) | rfl | (simp only [x_restart, if_neg c2, if_pos c3, x_cl hk]; rfl)) hx hb hr hlk hP hD hS d_M_restart_32
    · refine lv_iconst (v := (-1)) hx hb d_M_restart_19 (by decide) ?_
      exact x_ri (w := x_w cI cN ad) (by subst er1; first | (simp only [x_restart, if_neg c2, if_neg c3, x_cl hk]; done) | rfl | (simp only [x_restart, if_neg c2, if_neg c3, x_cl hk]; rfl)) hx hb hr hlk hP hD hS d_M_restart_20
set_option maxHeartbeats 4000000 in
set_option maxRecDepth 100000 in
theorem c_M_swap_ok (l : Launch) (D : va_G) (cI cN : ClassId) (ad : Nat → Nat) (z : x_S) (a : Int32) : x_C l y_M_swap c_M_swap 2 (some .int) { frames := 3, cells := 0, slots := 0, locals := 63 } D (x_ty cI cN) (x_w cI cN ad z) [.ref (ad 0), .int a] (some (.int (x_swap z a).1)) (x_w cI cN ad (x_swap z a).2) := by
  refine x_C.of (by decide) (Nat.le_of_ble_eq_true rfl) ?_
  intro p e s m below meth c hx hb hr hml hts hown hlk A hA hK hS hP hD ls hl
  have hown : s.vm.findClass R_M = some m.cls := hown
  have hl : lv_has ls 2 [(0, .ref (ad 0)), (1, .int a)] := hl
  refine lv_iload_n hx hb d_M_swap_0 rfl (lv_at hl 1 rfl) ?_
  refine x_T (rest := []) ⟨hx, hb, hml, hown, hts⟩ (c_M_isNode_ok l D cI cN ad z a) gm_261 gm_262 gm_28 gm_263 ⟨rfl, rfl⟩ hd_M_isNode ⟨Nat.le_of_ble_eq_true rfl, Nat.le_of_ble_eq_true rfl⟩ hK hP hD hS hA rfl hl.1 rfl (Nat.le_of_ble_eq_true rfl) d_M_swap_1 ⟨Nat.le_of_ble_eq_true rfl, Nat.le_of_ble_eq_true rfl⟩ (fun H locs hP hD hS => ?_)
  refine lv_topi (fun r1 er1 => ?_)
  refine lv_if_eq (tgt := 19) hx hb d_M_swap_4 (by decide) (fun c2 => ?_) (fun c2 => ?_)
  · refine lv_iconst (v := (-1)) hx hb d_M_swap_19 (by decide) ?_
    exact x_ri (w := x_w cI cN ad) (by subst er1; first | (simp only [x_swap, if_pos c2]; done) | rfl | (simp only [x_swap, if_pos c2]; rfl)) hx hb hr hlk hP hD hS d_M_swap_20
  · obtain ⟨k, hk, ek⟩ := x_nodeE (c := a) (by rw [← er1]; exact c2)
    subst ek
    refine lv_aload_n hx hb d_M_swap_7 rfl (lv_at hl 0 rfl) ?_
    refine va_get (D := D) (ci := 4) (C := R_M) (T := T_M) (N := 7) hx hb hts in_M hown hK hP 0 x_hM rfl 0 (by decide) (hts _ gm_154) (fun _ h9 => h9) rfl d_M_swap_8 ?_
    refine lv_iload_n hx hb d_M_swap_11 rfl (lv_at hl 1 rfl) ?_
    refine va_aldq (D := D) hx hb hK hP 1 1 x_hA rfl (x_in2 hk) d_M_swap_12 ?_
    refine x_topv (x_nf_at hk) ?_
    refine va_get (D := D) (ci := 2) (C := R_N) (T := T_N) (N := 8) hx hb hts in_N hown hK hP (6 + k) (x_hN hk) rfl 1 (by decide) (hts _ gm_92) (fun _ h9 => h9) rfl d_M_swap_13 ?_
    refine lv_if_eq (tgt := 21) hx hb d_M_swap_16 (by decide) (fun c3 => ?_) (fun c3 => ?_)
    · refine lv_aload_n hx hb d_M_swap_21 rfl (lv_at hl 0 rfl) ?_
      refine va_get (D := D) (ci := 4) (C := R_M) (T := T_M) (N := 7) hx hb hts in_M hown hK hP 0 x_hM rfl 0 (by decide) (hts _ gm_154) (fun _ h9 => h9) rfl d_M_swap_22 ?_
      refine lv_iload_n hx hb d_M_swap_25 rfl (lv_at hl 1 rfl) ?_
      refine va_aldq (D := D) hx hb hK hP 1 1 x_hA rfl (x_in2 hk) d_M_swap_26 ?_
      refine x_topv (x_nf_at hk) ?_
      refine x_V (rest := []) ⟨hx, hb, hml, hown, hts⟩ (c_N_renewDisk_ok l D cI cN ad z k hk) gm_272 gm_273 gm_274 gm_30 gm_275 ⟨rfl, rfl⟩ hd_N_renewDisk ⟨Nat.le_of_ble_eq_true rfl, Nat.le_of_ble_eq_true rfl⟩ hK hP hD hS hA (va_recv hK hP (ci := 2) (q0 := (6 + k)) rfl (x_hN hk)) rfl hl.1 rfl (Nat.le_of_ble_eq_true rfl) d_M_swap_27 ⟨Nat.le_of_ble_eq_true rfl, Nat.le_of_ble_eq_true rfl⟩ (fun H locs hP hD hS => ?_)
      obtain ⟨z4, ez4⟩ : ∃ zt_ : x_S, zt_ = x_renew z k := ⟨_, rfl⟩
      rw [← ez4] at hP hD
      refine lv_iconst (v := 0) hx hb d_M_swap_30 (by decide) ?_
      exact x_ri (w := x_w cI cN ad) (by subst er1 ez4; first | (simp only [x_swap, if_neg c2, if_pos c3, x_cl hk]; done) | rfl | (simp only [x_swap, if_neg c2, if_pos c3, x_cl hk]; rfl)) hx hb hr hlk hP hD hS d_M_swap_31
    · refine lv_iconst (v := (-1)) hx hb d_M_swap_19 (by decide) ?_
      exact x_ri (w := x_w cI cN ad) (by subst er1; first | (simp only [x_swap, if_neg c2, if_neg c3, x_cl hk]; done) | rfl | (simp only [x_swap, if_neg c2, if_neg c3, x_cl hk]; rfl)) hx hb hr hlk hP hD hS d_M_swap_20
set_option maxHeartbeats 4000000 in
set_option maxRecDepth 100000 in
theorem c_M_line_ok (l : Launch) (D : va_G) (cI cN : ClassId) (ad : Nat → Nat) (z : x_S) (u : Int32) (hu : u = 0 ∨ u = 1) : x_C l y_M_line c_M_line 2 (some .int) { frames := 1, cells := 0, slots := 0, locals := 20 } D (x_ty cI cN) (x_w cI cN ad z) [.ref (ad 0), .int u] (some (.int (x_line z u).1)) (x_w cI cN ad (x_line z u).2) := by
  refine x_C.of (by decide) (Nat.le_of_ble_eq_true rfl) ?_
  intro p e s m below meth c hx hb hr hml hts hown hlk A hA hK hS hP hD ls hl
  have hown : s.vm.findClass R_M = some m.cls := hown
  have hl : lv_has ls 2 [(0, .ref (ad 0)), (1, .int u)] := hl
  refine lv_aload_n hx hb d_M_line_0 rfl (lv_at hl 0 rfl) ?_
  refine lv_iload_n hx hb d_M_line_1 rfl (lv_at hl 1 rfl) ?_
  refine va_put (D := D) (ci := 4) (v := .int u) (ty := .boolean) (C := R_M) (T := T_M) (N := 7) hx hb hts in_M fy_M fy_M_ok n_M hown hK hP hD hS 0 x_hM rfl 3 (by decide) (hts _ gm_157) (fun _ h9 => h9) rfl (by decide +kernel) (x_nb hu) (x_fb hu) (Nat.le_of_ble_eq_true rfl) d_M_line_2 (fun H locs hP hD hS => ?_)
  obtain ⟨z1, ez1⟩ : ∃ zt_ : x_S, zt_ = x_up z 0 0 u := ⟨_, rfl⟩
  have hP : va_P D vwCl (x_w cI cN ad z1) H := by rw [ez1, ← x_sM (i := 0) (by decide) u]; exact hP
  have hD : va_D A (x_w cI cN ad z1) := by rw [ez1, ← x_sM (i := 0) (by decide) u]; exact hD
  refine lv_iload_n hx hb d_M_line_5 rfl (lv_at hl 1 rfl) ?_
  refine lv_if_ne (tgt := 13) hx hb d_M_line_6 (by decide) (fun c2 => ?_) (fun c2 => ?_)
  · refine lv_iconst (v := 0) hx hb d_M_line_13 (by decide) ?_
    exact x_ri (w := x_w cI cN ad) (by subst ez1; first | (simp only [x_line, if_neg c2]; done) | rfl | (simp only [x_line, if_neg c2]; rfl)) hx hb hr hlk hP hD hS d_M_line_14
  · refine lv_aload_n hx hb d_M_line_9 rfl (lv_at hl 0 rfl) ?_
    refine x_V (rest := []) ⟨hx, hb, hml, hown, hts⟩ (c_M_disconnect_ok l D cI cN ad z1) gm_244 gm_246 gm_8 gm_28 gm_247 ⟨rfl, rfl⟩ hd_M_disconnect ⟨Nat.le_of_ble_eq_true rfl, Nat.le_of_ble_eq_true rfl⟩ hK hP hD hS hA (va_recv hK hP (ci := 4) (q0 := 0) rfl x_hM) rfl hl.1 rfl (Nat.le_of_ble_eq_true rfl) d_M_line_10 ⟨Nat.le_of_ble_eq_true rfl, Nat.le_of_ble_eq_true rfl⟩ (fun H locs hP hD hS => ?_)
    obtain ⟨z3, ez3⟩ : ∃ zt_ : x_S, zt_ = x_disc z1 := ⟨_, rfl⟩
    rw [← ez3] at hP hD
    refine lv_iconst (v := 0) hx hb d_M_line_13 (by decide) ?_
    exact x_ri (w := x_w cI cN ad) (by subst ez1 ez3; first | (simp only [x_line, if_pos c2]; done) | rfl | (simp only [x_line, if_pos c2]; rfl)) hx hb hr hlk hP hD hS d_M_line_14
set_option maxHeartbeats 4000000 in
set_option maxRecDepth 100000 in
theorem c_M_witnessLine_ok (l : Launch) (D : va_G) (cI cN : ClassId) (ad : Nat → Nat) (z : x_S) (a u : Int32) (hu : u = 0 ∨ u = 1) : x_C l y_M_witnessLine c_M_witnessLine 3 (some .int) { frames := 1, cells := 0, slots := 0, locals := 20 } D (x_ty cI cN) (x_w cI cN ad z) [.ref (ad 0), .int a, .int u] (some (.int (x_wline z a u).1)) (x_w cI cN ad (x_wline z a u).2) := by
  refine x_C.of (by decide) (Nat.le_of_ble_eq_true rfl) ?_
  intro p e s m below meth c hx hb hr hml hts hown hlk A hA hK hS hP hD ls hl
  have hown : s.vm.findClass R_M = some m.cls := hown
  have hl : lv_has ls 3 [(0, .ref (ad 0)), (1, .int a), (2, .int u)] := hl
  refine lv_iload_n hx hb d_M_witnessLine_0 rfl (lv_at hl 1 rfl) ?_
  refine x_T (rest := []) ⟨hx, hb, hml, hown, hts⟩ (c_M_isNode_ok l D cI cN ad z a) gm_261 gm_262 gm_28 gm_263 ⟨rfl, rfl⟩ hd_M_isNode ⟨Nat.le_of_ble_eq_true rfl, Nat.le_of_ble_eq_true rfl⟩ hK hP hD hS hA rfl hl.1 rfl (Nat.le_of_ble_eq_true rfl) d_M_witnessLine_1 ⟨Nat.le_of_ble_eq_true rfl, Nat.le_of_ble_eq_true rfl⟩ (fun H locs hP hD hS => ?_)
  refine lv_topi (fun r1 er1 => ?_)
  refine lv_if_ne (tgt := 9) hx hb d_M_witnessLine_4 (by decide) (fun c2 => ?_) (fun c2 => ?_)
  · obtain ⟨k, hk, ek⟩ := x_nodeE (c := a) (by rw [← er1]; exact c2)
    subst ek
    refine lv_aload_n hx hb d_M_witnessLine_9 rfl (lv_at hl 0 rfl) ?_
    refine va_get (D := D) (ci := 4) (C := R_M) (T := T_M) (N := 7) hx hb hts in_M hown hK hP 0 x_hM rfl 0 (by decide) (hts _ gm_154) (fun _ h9 => h9) rfl d_M_witnessLine_10 ?_
    refine lv_iload_n hx hb d_M_witnessLine_13 rfl (lv_at hl 1 rfl) ?_
    refine va_aldq (D := D) hx hb hK hP 1 1 x_hA rfl (x_in2 hk) d_M_witnessLine_14 ?_
    refine x_topv (x_nf_at hk) ?_
    refine lv_iload_n hx hb d_M_witnessLine_15 rfl (lv_at hl 2 rfl) ?_
    refine va_put (D := D) (ci := 2) (v := .int u) (ty := .boolean) (C := R_N) (T := T_N) (N := 8) hx hb hts in_N fy_N fy_N_ok n_N hown hK hP hD hS (6 + k) (x_hN hk) rfl 7 (by decide) (hts _ gm_104) (fun _ h9 => h9) rfl (by decide +kernel) (x_nb hu) (x_fb hu) (Nat.le_of_ble_eq_true rfl) d_M_witnessLine_16 (fun H locs hP hD hS => ?_)
    obtain ⟨z3, ez3⟩ : ∃ zt_ : x_S, zt_ = x_up z (5 + k) 6 u := ⟨_, rfl⟩
    have hP : va_P D vwCl (x_w cI cN ad z3) H := by rw [ez3, ← x_sN (i := 6) hk (by decide) u]; exact hP
    have hD : va_D A (x_w cI cN ad z3) := by rw [ez3, ← x_sN (i := 6) hk (by decide) u]; exact hD
    refine lv_iconst (v := 0) hx hb d_M_witnessLine_19 (by decide) ?_
    exact x_ri (w := x_w cI cN ad) (by subst er1 ez3; first | (simp only [x_wline, if_neg c2, x_cl hk]; done) | rfl | (simp only [x_wline, if_neg c2, x_cl hk]; rfl)) hx hb hr hlk hP hD hS d_M_witnessLine_20
  · refine lv_iconst (v := (-1)) hx hb d_M_witnessLine_7 (by decide) ?_
    exact x_ri (w := x_w cI cN ad) (by subst er1; first | (simp only [x_wline, if_pos c2]; done) | rfl | (simp only [x_wline, if_pos c2]; rfl)) hx hb hr hlk hP hD hS d_M_witnessLine_8
set_option maxHeartbeats 4000000 in
set_option maxRecDepth 100000 in
theorem c_M_demote_ok (l : Launch) (D : va_G) (cI cN : ClassId) (ad : Nat → Nat) (z : x_S) (a : Int32) : x_C l y_M_demote c_M_demote 2 (some .int) { frames := 1, cells := 0, slots := 0, locals := 21 } D (x_ty cI cN) (x_w cI cN ad z) [.ref (ad 0), .int a] (some (.int (x_demote z a).1)) (x_w cI cN ad (x_demote z a).2) := by
  refine x_C.of (by decide) (Nat.le_of_ble_eq_true rfl) ?_
  intro p e s m below meth c hx hb hr hml hts hown hlk A hA hK hS hP hD ls hl
  have hown : s.vm.findClass R_M = some m.cls := hown
  have hl : lv_has ls 2 [(0, .ref (ad 0)), (1, .int a)] := hl
  refine lv_iload_n hx hb d_M_demote_0 rfl (lv_at hl 1 rfl) ?_
  refine x_T (rest := []) ⟨hx, hb, hml, hown, hts⟩ (c_M_isNode_ok l D cI cN ad z a) gm_261 gm_262 gm_28 gm_263 ⟨rfl, rfl⟩ hd_M_isNode ⟨Nat.le_of_ble_eq_true rfl, Nat.le_of_ble_eq_true rfl⟩ hK hP hD hS hA rfl hl.1 rfl (Nat.le_of_ble_eq_true rfl) d_M_demote_1 ⟨Nat.le_of_ble_eq_true rfl, Nat.le_of_ble_eq_true rfl⟩ (fun H locs hP hD hS => ?_)
  refine lv_topi (fun r1 er1 => ?_)
  refine lv_if_eq (tgt := 19) hx hb d_M_demote_4 (by decide) (fun c2 => ?_) (fun c2 => ?_)
  · refine lv_iconst (v := (-1)) hx hb d_M_demote_19 (by decide) ?_
    exact x_ri (w := x_w cI cN ad) (by subst er1; first | (simp only [x_demote, if_pos c2]; done) | rfl | (simp only [x_demote, if_pos c2]; rfl)) hx hb hr hlk hP hD hS d_M_demote_20
  · obtain ⟨k, hk, ek⟩ := x_nodeE (c := a) (by rw [← er1]; exact c2)
    subst ek
    refine lv_aload_n hx hb d_M_demote_7 rfl (lv_at hl 0 rfl) ?_
    refine va_get (D := D) (ci := 4) (C := R_M) (T := T_M) (N := 7) hx hb hts in_M hown hK hP 0 x_hM rfl 0 (by decide) (hts _ gm_154) (fun _ h9 => h9) rfl d_M_demote_8 ?_
    refine lv_iload_n hx hb d_M_demote_11 rfl (lv_at hl 1 rfl) ?_
    refine va_aldq (D := D) hx hb hK hP 1 1 x_hA rfl (x_in2 hk) d_M_demote_12 ?_
    refine x_topv (x_nf_at hk) ?_
    refine va_get (D := D) (ci := 2) (C := R_N) (T := T_N) (N := 8) hx hb hts in_N hown hK hP (6 + k) (x_hN hk) rfl 2 (by decide) (hts _ gm_94) (fun _ h9 => h9) rfl d_M_demote_13 ?_
    refine lv_if_ne (tgt := 21) hx hb d_M_demote_16 (by decide) (fun c3 => ?_) (fun c3 => ?_)
    · refine lv_aload_n hx hb d_M_demote_21 rfl (lv_at hl 0 rfl) ?_
      refine lv_iload_n hx hb d_M_demote_22 rfl (lv_at hl 1 rfl) ?_
      refine x_V (rest := []) ⟨hx, hb, hml, hown, hts⟩ (c_M_makeSecondary_ok l D cI cN ad z k hk) gm_240 gm_242 gm_7 gm_28 gm_243 ⟨rfl, rfl⟩ hd_M_makeSecondary ⟨Nat.le_of_ble_eq_true rfl, Nat.le_of_ble_eq_true rfl⟩ hK hP hD hS hA (va_recv hK hP (ci := 4) (q0 := 0) rfl x_hM) rfl hl.1 rfl (Nat.le_of_ble_eq_true rfl) d_M_demote_23 ⟨Nat.le_of_ble_eq_true rfl, Nat.le_of_ble_eq_true rfl⟩ (fun H locs hP hD hS => ?_)
      obtain ⟨z4, ez4⟩ : ∃ zt_ : x_S, zt_ = x_sec z k := ⟨_, rfl⟩
      rw [← ez4] at hP hD
      refine lv_aload_n hx hb d_M_demote_26 rfl (lv_at hl 0 rfl) ?_
      refine va_get (D := D) (ci := 4) (C := R_M) (T := T_M) (N := 7) hx hb hts in_M hown hK hP 0 x_hM rfl 1 (by decide) (hts _ gm_155) (fun _ h9 => h9) rfl d_M_demote_27 ?_
      refine va_get (D := D) (ci := 3) (C := R_T) (T := T_T) (N := 5) hx hb hts in_T hown hK hP 2 x_hT rfl 3 (by decide) (hts _ gm_140) (fun _ h9 => h9) rfl d_M_demote_30 ?_
      refine lv_iload_n hx hb d_M_demote_33 rfl (lv_at hl 1 rfl) ?_
      refine lv_icmp_ne (tgt := 45) hx hb d_M_demote_34 (by decide) (fun c5 => ?_) (fun c5 => ?_)
      · refine lv_iconst (v := 0) hx hb d_M_demote_45 (by decide) ?_
        exact x_ri (w := x_w cI cN ad) (by subst er1 ez4; first | (simp only [x_demote, if_neg c2, if_neg c3, if_neg c5, x_cl hk]; done) | rfl | (simp only [x_demote, if_neg c2, if_neg c3, if_neg c5, x_cl hk]; rfl)) hx hb hr hlk hP hD hS d_M_demote_46
      · refine lv_aload_n hx hb d_M_demote_37 rfl (lv_at hl 0 rfl) ?_
        refine va_get (D := D) (ci := 4) (C := R_M) (T := T_M) (N := 7) hx hb hts in_M hown hK hP 0 x_hM rfl 1 (by decide) (hts _ gm_155) (fun _ h9 => h9) rfl d_M_demote_38 ?_
        refine lv_iconst (v := 2) hx hb d_M_demote_41 (by decide) ?_
        refine va_put (D := D) (ci := 3) (v := .int 2) (ty := .int) (C := R_T) (T := T_T) (N := 5) hx hb hts in_T fy_T fy_T_ok n_T hown hK hP hD hS 2 x_hT rfl 3 (by decide) (hts _ gm_140) (fun _ h9 => h9) rfl (by decide +kernel) rfl rfl (Nat.le_of_ble_eq_true rfl) d_M_demote_42 (fun H locs hP hD hS => ?_)
        obtain ⟨z6, ez6⟩ : ∃ zt_ : x_S, zt_ = x_up z4 1 3 2 := ⟨_, rfl⟩
        have hP : va_P D vwCl (x_w cI cN ad z6) H := by rw [ez6, ← x_sT (i := 3) (by decide) 2]; exact hP
        have hD : va_D A (x_w cI cN ad z6) := by rw [ez6, ← x_sT (i := 3) (by decide) 2]; exact hD
        refine lv_iconst (v := 0) hx hb d_M_demote_45 (by decide) ?_
        exact x_ri (w := x_w cI cN ad) (by subst er1 ez4 ez6; first | (simp only [x_demote, if_neg c2, if_neg c3, if_pos c5, x_cl hk]; done) | rfl | (simp only [x_demote, if_neg c2, if_neg c3, if_pos c5, x_cl hk]; rfl)) hx hb hr hlk hP hD hS d_M_demote_46
    · refine lv_iconst (v := (-1)) hx hb d_M_demote_19 (by decide) ?_
      exact x_ri (w := x_w cI cN ad) (by subst er1; first | (simp only [x_demote, if_neg c2, if_pos c3, x_cl hk]; done) | rfl | (simp only [x_demote, if_neg c2, if_pos c3, x_cl hk]; rfl)) hx hb hr hlk hP hD hS d_M_demote_20
set_option maxHeartbeats 4000000 in
set_option maxRecDepth 100000 in
theorem c_M_renew_ok (l : Launch) (D : va_G) (cI cN : ClassId) (ad : Nat → Nat) (z : x_S)  : x_C l y_M_renew c_M_renew 2 (some .int) { frames := 1, cells := 0, slots := 0, locals := 20 } D (x_ty cI cN) (x_w cI cN ad z) [.ref (ad 0)] (some (.int (x_rnw z).1)) (x_w cI cN ad (x_rnw z).2) := by
  refine x_C.of (by decide) (Nat.le_of_ble_eq_true rfl) ?_
  intro p e s m below meth c hx hb hr hml hts hown hlk A hA hK hS hP hD ls hl
  have hown : s.vm.findClass R_M = some m.cls := hown
  have hl : lv_has ls 2 [(0, .ref (ad 0))] := hl
  refine lv_aload_n hx hb d_M_renew_0 rfl (lv_at hl 0 rfl) ?_
  refine x_V (rest := []) ⟨hx, hb, hml, hown, hts⟩ (c_M_findPrimary_ok l D cI cN ad z) gm_183 gm_185 gm_0 gm_28 gm_186 ⟨rfl, rfl⟩ hd_M_findPrimary ⟨Nat.le_of_ble_eq_true rfl, Nat.le_of_ble_eq_true rfl⟩ hK hP hD hS hA (va_recv hK hP (ci := 4) (q0 := 0) rfl x_hM) rfl hl.1 rfl (Nat.le_of_ble_eq_true rfl) d_M_renew_1 ⟨Nat.le_of_ble_eq_true rfl, Nat.le_of_ble_eq_true rfl⟩ (fun H locs hP hD hS => ?_)
  refine lv_topi (fun r1 er1 => ?_)
  refine lv_istore_n (lv' := [(1, .int r1), (0, .ref (ad 0))]) hx hb d_M_renew_4 rfl hl (by decide) rfl (fun ls hl => ?_)
  refine lv_iload_n hx hb d_M_renew_5 rfl (lv_at hl 0 rfl) ?_
  refine lv_iconst (v := 2) hx hb d_M_renew_6 (by decide) ?_
  refine lv_icmp_eq (tgt := 22) hx hb d_M_renew_7 (by decide) (fun c2 => ?_) (fun c2 => ?_)
  · refine lv_iconst (v := (-1)) hx hb d_M_renew_22 (by decide) ?_
    exact x_ri (w := x_w cI cN ad) (by subst er1; first | (simp only [x_rnw, if_pos c2]; done) | rfl | (simp only [x_rnw, if_pos c2]; rfl)) hx hb hr hlk hP hD hS d_M_renew_23
  · obtain ⟨k, hk, ek⟩ := x_findE er1 c2
    subst ek
    refine lv_aload_n hx hb d_M_renew_10 rfl (lv_at hl 1 rfl) ?_
    refine va_get (D := D) (ci := 4) (C := R_M) (T := T_M) (N := 7) hx hb hts in_M hown hK hP 0 x_hM rfl 0 (by decide) (hts _ gm_154) (fun _ h9 => h9) rfl d_M_renew_11 ?_
    refine lv_iload_n hx hb d_M_renew_14 rfl (lv_at hl 0 rfl) ?_
    refine va_aldq (D := D) hx hb hK hP 1 1 x_hA rfl (x_in2 hk) d_M_renew_15 ?_
    refine x_topv (x_nf_at hk) ?_
    refine va_get (D := D) (ci := 2) (C := R_N) (T := T_N) (N := 8) hx hb hts in_N hown hK hP (6 + k) (x_hN hk) rfl 7 (by decide) (hts _ gm_104) (fun _ h9 => h9) rfl d_M_renew_16 ?_
    refine lv_if_ne (tgt := 24) hx hb d_M_renew_19 (by decide) (fun c3 => ?_) (fun c3 => ?_)
    · refine lv_aload_n hx hb d_M_renew_24 rfl (lv_at hl 1 rfl) ?_
      refine va_get (D := D) (ci := 4) (C := R_M) (T := T_M) (N := 7) hx hb hts in_M hown hK hP 0 x_hM rfl 1 (by decide) (hts _ gm_155) (fun _ h9 => h9) rfl d_M_renew_25 ?_
      refine x_V (rest := []) ⟨hx, hb, hml, hown, hts⟩ (c_T_extendLease_ok l D cI cN ad z) gm_365 gm_350 gm_351 gm_32 gm_352 ⟨rfl, rfl⟩ hd_T_extendLease ⟨Nat.le_of_ble_eq_true rfl, Nat.le_of_ble_eq_true rfl⟩ hK hP hD hS hA (va_recv hK hP (ci := 3) (q0 := 2) rfl x_hT) rfl hl.1 rfl (Nat.le_of_ble_eq_true rfl) d_M_renew_28 ⟨Nat.le_of_ble_eq_true rfl, Nat.le_of_ble_eq_true rfl⟩ (fun H locs hP hD hS => ?_)
      obtain ⟨z4, ez4⟩ : ∃ zt_ : x_S, zt_ = x_ext z := ⟨_, rfl⟩
      rw [← ez4] at hP hD
      refine lv_aload_n hx hb d_M_renew_31 rfl (lv_at hl 1 rfl) ?_
      refine va_get (D := D) (ci := 4) (C := R_M) (T := T_M) (N := 7) hx hb hts in_M hown hK hP 0 x_hM rfl 1 (by decide) (hts _ gm_155) (fun _ h9 => h9) rfl d_M_renew_32 ?_
      refine va_get (D := D) (ci := 3) (C := R_T) (T := T_T) (N := 5) hx hb hts in_T hown hK hP 2 x_hT rfl 4 (by decide) (hts _ gm_142) (fun _ h9 => h9) rfl d_M_renew_35 ?_
      exact x_ri (w := x_w cI cN ad) (by subst ez4; first | (simp only [x_rnw, if_neg c2, if_neg c3, ← er1, x_cl hk]; done) | rfl | (simp only [x_rnw, if_neg c2, if_neg c3, ← er1, x_cl hk]; rfl)) hx hb hr hlk hP hD hS d_M_renew_38
    · refine lv_iconst (v := (-1)) hx hb d_M_renew_22 (by decide) ?_
      exact x_ri (w := x_w cI cN ad) (by first | (simp only [x_rnw, if_neg c2, if_pos c3, ← er1, x_cl hk]; done) | rfl | (simp only [x_rnw, if_neg c2, if_pos c3, ← er1, x_cl hk]; rfl)) hx hb hr hlk hP hD hS d_M_renew_23
set_option maxHeartbeats 4000000 in
set_option maxRecDepth 100000 in
theorem c_M_tick_ok (l : Launch) (D : va_G) (cI cN : ClassId) (ad : Nat → Nat) (z : x_S) (b : Int32) : x_C l y_M_tick c_M_tick 2 (some .int) { frames := 1, cells := 0, slots := 0, locals := 21 } D (x_ty cI cN) (x_w cI cN ad z) [.ref (ad 0), .int b] (some (.int (x_tick z b).1)) (x_w cI cN ad (x_tick z b).2) := by
  refine x_C.of (by decide) (Nat.le_of_ble_eq_true rfl) ?_
  intro p e s m below meth c hx hb hr hml hts hown hlk A hA hK hS hP hD ls hl
  have hown : s.vm.findClass R_M = some m.cls := hown
  have hl : lv_has ls 2 [(0, .ref (ad 0)), (1, .int b)] := hl
  refine lv_iload_n hx hb d_M_tick_0 rfl (lv_at hl 1 rfl) ?_
  refine lv_if_lt (tgt := 10) hx hb d_M_tick_1 (by decide) (fun c1 => ?_) (fun c1 => ?_)
  · refine lv_iconst (v := (-1)) hx hb d_M_tick_10 (by decide) ?_
    exact x_ri (w := x_w cI cN ad) (by first | (simp only [x_tick, if_pos c1]; done) | rfl | (simp only [x_tick, if_pos c1]; rfl)) hx hb hr hlk hP hD hS d_M_tick_11
  · refine lv_iload_n hx hb d_M_tick_4 rfl (lv_at hl 1 rfl) ?_
    refine lv_bipush (v := 100) hx hb d_M_tick_5 (by decide) ?_
    refine lv_icmp_le (tgt := 12) hx hb d_M_tick_7 (by decide) (fun c2 => ?_) (fun c2 => ?_)
    · refine lv_aload_n hx hb d_M_tick_12 rfl (lv_at hl 0 rfl) ?_
      refine va_get (D := D) (ci := 4) (C := R_M) (T := T_M) (N := 7) hx hb hts in_M hown hK hP 0 x_hM rfl 1 (by decide) (hts _ gm_155) (fun _ h9 => h9) rfl d_M_tick_13 ?_
      refine lv_dup hx hb d_M_tick_16 rfl ?_
      refine va_get (D := D) (ci := 3) (C := R_T) (T := T_T) (N := 5) hx hb hts in_T hown hK hP 2 x_hT rfl 2 (by decide) (hts _ gm_138) (fun _ h9 => h9) rfl d_M_tick_17 ?_
      refine lv_iload_n hx hb d_M_tick_20 rfl (lv_at hl 1 rfl) ?_
      refine lv_iadd hx hb d_M_tick_21 ?_
      refine va_put (D := D) (ci := 3) (v := .int ((z 1 2) + b)) (ty := .int) (C := R_T) (T := T_T) (N := 5) hx hb hts in_T fy_T fy_T_ok n_T hown hK hP hD hS 2 x_hT rfl 2 (by decide) (hts _ gm_138) (fun _ h9 => h9) rfl (by decide +kernel) rfl rfl (Nat.le_of_ble_eq_true rfl) d_M_tick_22 (fun H locs hP hD hS => ?_)
      obtain ⟨z3, ez3⟩ : ∃ zt_ : x_S, zt_ = x_up z 1 2 ((z 1 2) + b) := ⟨_, rfl⟩
      have hP : va_P D vwCl (x_w cI cN ad z3) H := by rw [ez3, ← x_sT (i := 2) (by decide) ((z 1 2) + b)]; exact hP
      have hD : va_D A (x_w cI cN ad z3) := by rw [ez3, ← x_sT (i := 2) (by decide) ((z 1 2) + b)]; exact hD
      refine lv_aload_n hx hb d_M_tick_25 rfl (lv_at hl 0 rfl) ?_
      refine va_get (D := D) (ci := 4) (C := R_M) (T := T_M) (N := 7) hx hb hts in_M hown hK hP 0 x_hM rfl 1 (by decide) (hts _ gm_155) (fun _ h9 => h9) rfl d_M_tick_26 ?_
      refine x_V (rest := []) ⟨hx, hb, hml, hown, hts⟩ (c_T_isRunning_ok l D cI cN ad z3) gm_370 gm_342 gm_343 gm_32 gm_344 ⟨rfl, rfl⟩ hd_T_isRunning ⟨Nat.le_of_ble_eq_true rfl, Nat.le_of_ble_eq_true rfl⟩ hK hP hD hS hA (va_recv hK hP (ci := 3) (q0 := 2) rfl x_hT) rfl hl.1 rfl (Nat.le_of_ble_eq_true rfl) d_M_tick_29 ⟨Nat.le_of_ble_eq_true rfl, Nat.le_of_ble_eq_true rfl⟩ (fun H locs hP hD hS => ?_)
      refine lv_topi (fun r4 er4 => ?_)
      refine lv_if_ne (tgt := 53) hx hb d_M_tick_32 (by decide) (fun c5 => ?_) (fun c5 => ?_)
      · refine lv_aload_n hx hb d_M_tick_53 rfl (lv_at hl 0 rfl) ?_
        refine va_get (D := D) (ci := 4) (C := R_M) (T := T_M) (N := 7) hx hb hts in_M hown hK hP 0 x_hM rfl 1 (by decide) (hts _ gm_155) (fun _ h9 => h9) rfl d_M_tick_54 ?_
        refine va_get (D := D) (ci := 3) (C := R_T) (T := T_T) (N := 5) hx hb hts in_T hown hK hP 2 x_hT rfl 2 (by decide) (hts _ gm_138) (fun _ h9 => h9) rfl d_M_tick_57 ?_
        exact x_ri (w := x_w cI cN ad) (by subst ez3 er4; first | (simp only [x_tick, if_neg c1, if_pos c2, if_neg c5]; done) | rfl | (simp only [x_tick, if_neg c1, if_pos c2, if_neg c5]; rfl)) hx hb hr hlk hP hD hS d_M_tick_60
      · refine lv_aload_n hx hb d_M_tick_35 rfl (lv_at hl 0 rfl) ?_
        refine va_get (D := D) (ci := 4) (C := R_M) (T := T_M) (N := 7) hx hb hts in_M hown hK hP 0 x_hM rfl 1 (by decide) (hts _ gm_155) (fun _ h9 => h9) rfl d_M_tick_36 ?_
        refine lv_iconst (v := 2) hx hb d_M_tick_39 (by decide) ?_
        refine va_put (D := D) (ci := 3) (v := .int 2) (ty := .int) (C := R_T) (T := T_T) (N := 5) hx hb hts in_T fy_T fy_T_ok n_T hown hK hP hD hS 2 x_hT rfl 3 (by decide) (hts _ gm_140) (fun _ h9 => h9) rfl (by decide +kernel) rfl rfl (Nat.le_of_ble_eq_true rfl) d_M_tick_40 (fun H locs hP hD hS => ?_)
        obtain ⟨z6, ez6⟩ : ∃ zt_ : x_S, zt_ = x_up z3 1 3 2 := ⟨_, rfl⟩
        have hP : va_P D vwCl (x_w cI cN ad z6) H := by rw [ez6, ← x_sT (i := 3) (by decide) 2]; exact hP
        have hD : va_D A (x_w cI cN ad z6) := by rw [ez6, ← x_sT (i := 3) (by decide) 2]; exact hD
        refine lv_aload_n hx hb d_M_tick_43 rfl (lv_at hl 0 rfl) ?_
        refine lv_iconst (v := 0) hx hb d_M_tick_44 (by decide) ?_
        refine x_top (show (0 : Int32) = nI 0 from rfl) ?_
        refine x_V (rest := []) ⟨hx, hb, hml, hown, hts⟩ (c_M_makeSecondary_ok l D cI cN ad z6 0 (by decide)) gm_240 gm_242 gm_7 gm_28 gm_243 ⟨rfl, rfl⟩ hd_M_makeSecondary ⟨Nat.le_of_ble_eq_true rfl, Nat.le_of_ble_eq_true rfl⟩ hK hP hD hS hA (va_recv hK hP (ci := 4) (q0 := 0) rfl x_hM) rfl hl.1 rfl (Nat.le_of_ble_eq_true rfl) d_M_tick_45 ⟨Nat.le_of_ble_eq_true rfl, Nat.le_of_ble_eq_true rfl⟩ (fun H locs hP hD hS => ?_)
        obtain ⟨z7, ez7⟩ : ∃ zt_ : x_S, zt_ = x_sec z6 0 := ⟨_, rfl⟩
        rw [← ez7] at hP hD
        refine lv_aload_n hx hb d_M_tick_48 rfl (lv_at hl 0 rfl) ?_
        refine lv_iconst (v := 1) hx hb d_M_tick_49 (by decide) ?_
        refine x_top (show (1 : Int32) = nI 1 from rfl) ?_
        refine x_V (rest := []) ⟨hx, hb, hml, hown, hts⟩ (c_M_makeSecondary_ok l D cI cN ad z7 1 (by decide)) gm_240 gm_242 gm_7 gm_28 gm_243 ⟨rfl, rfl⟩ hd_M_makeSecondary ⟨Nat.le_of_ble_eq_true rfl, Nat.le_of_ble_eq_true rfl⟩ hK hP hD hS hA (va_recv hK hP (ci := 4) (q0 := 0) rfl x_hM) rfl hl.1 rfl (Nat.le_of_ble_eq_true rfl) d_M_tick_50 ⟨Nat.le_of_ble_eq_true rfl, Nat.le_of_ble_eq_true rfl⟩ (fun H locs hP hD hS => ?_)
        obtain ⟨z8, ez8⟩ : ∃ zt_ : x_S, zt_ = x_sec z7 1 := ⟨_, rfl⟩
        rw [← ez8] at hP hD
        refine lv_aload_n hx hb d_M_tick_53 rfl (lv_at hl 0 rfl) ?_
        refine va_get (D := D) (ci := 4) (C := R_M) (T := T_M) (N := 7) hx hb hts in_M hown hK hP 0 x_hM rfl 1 (by decide) (hts _ gm_155) (fun _ h9 => h9) rfl d_M_tick_54 ?_
        refine va_get (D := D) (ci := 3) (C := R_T) (T := T_T) (N := 5) hx hb hts in_T hown hK hP 2 x_hT rfl 2 (by decide) (hts _ gm_138) (fun _ h9 => h9) rfl d_M_tick_57 ?_
        exact x_ri (w := x_w cI cN ad) (by subst ez3 er4 ez6 ez7 ez8; first | (simp only [x_tick, if_neg c1, if_pos c2, if_pos c5]; done) | rfl | (simp only [x_tick, if_neg c1, if_pos c2, if_pos c5]; rfl)) hx hb hr hlk hP hD hS d_M_tick_60
    · refine lv_iconst (v := (-1)) hx hb d_M_tick_10 (by decide) ?_
      exact x_ri (w := x_w cI cN ad) (by first | (simp only [x_tick, if_neg c1, if_neg c2]; done) | rfl | (simp only [x_tick, if_neg c1, if_neg c2]; rfl)) hx hb hr hlk hP hD hS d_M_tick_11
set_option maxHeartbeats 4000000 in
set_option maxRecDepth 100000 in
theorem c_M_block_ok (l : Launch) (D : va_G) (cI cN : ClassId) (ad : Nat → Nat) (z : x_S) (a b f : Int32) : x_C l y_M_block c_M_block 5 (some .long) { frames := 2, cells := 0, slots := 0, locals := 42 } D (x_ty cI cN) (x_w cI cN ad z) [.ref (ad 0), .int a, .int b, .int f] (some (.long (x_block z a b f))) (x_w cI cN ad z) := by
  refine x_C.of (by decide) (Nat.le_of_ble_eq_true rfl) ?_
  intro p e s m below meth c hx hb hr hml hts hown hlk A hA hK hS hP hD ls hl
  have hown : s.vm.findClass R_M = some m.cls := hown
  have hl : lv_has ls 5 [(0, .ref (ad 0)), (1, .int a), (2, .int b), (3, .int f)] := hl
  refine lv_iload_n hx hb d_M_block_0 rfl (lv_at hl 1 rfl) ?_
  refine x_T (rest := []) ⟨hx, hb, hml, hown, hts⟩ (c_M_isNode_ok l D cI cN ad z a) gm_261 gm_262 gm_28 gm_263 ⟨rfl, rfl⟩ hd_M_isNode ⟨Nat.le_of_ble_eq_true rfl, Nat.le_of_ble_eq_true rfl⟩ hK hP hD hS hA rfl hl.1 rfl (Nat.le_of_ble_eq_true rfl) d_M_block_1 ⟨Nat.le_of_ble_eq_true rfl, Nat.le_of_ble_eq_true rfl⟩ (fun H locs hP hD hS => ?_)
  refine lv_topi (fun r1 er1 => ?_)
  refine lv_if_eq (tgt := 17) hx hb d_M_block_4 (by decide) (fun c2 => ?_) (fun c2 => ?_)
  · refine lv_ldc2 (v := (-1000000000000)) hx hb hown (hts (.constantLong R_M 85 (-1000000000000)) gm_252) d_M_block_17 ?_
    exact x_rl (by subst er1; first | (simp only [x_block, if_pos c2]; done) | rfl | (simp only [x_block, if_pos c2]; rfl)) hx hb hr hlk hP hD hS d_M_block_20
  · obtain ⟨k, hk, ek⟩ := x_nodeE (c := a) (by rw [← er1]; exact c2)
    subst ek
    refine lv_iload_n hx hb d_M_block_7 rfl (lv_at hl 2 rfl) ?_
    refine lv_if_lt (tgt := 17) hx hb d_M_block_8 (by decide) (fun c3 => ?_) (fun c3 => ?_)
    · refine lv_ldc2 (v := (-1000000000000)) hx hb hown (hts (.constantLong R_M 85 (-1000000000000)) gm_252) d_M_block_17 ?_
      exact x_rl (by subst er1; first | (simp only [x_block, if_neg c2, if_pos c3, x_cl hk]; done) | rfl | (simp only [x_block, if_neg c2, if_pos c3, x_cl hk]; rfl)) hx hb hr hlk hP hD hS d_M_block_20
    · refine lv_iload_n hx hb d_M_block_11 rfl (lv_at hl 2 rfl) ?_
      refine lv_bipush (v := 32) hx hb d_M_block_12 (by decide) ?_
      refine lv_icmp_lt (tgt := 21) hx hb d_M_block_14 (by decide) (fun c4 => ?_) (fun c4 => ?_)
      · obtain ⟨bb, hbb, eb⟩ := x_b32E c3 c4
        subst eb
        refine lv_aload_n hx hb d_M_block_21 rfl (lv_at hl 0 rfl) ?_
        refine va_get (D := D) (ci := 4) (C := R_M) (T := T_M) (N := 7) hx hb hts in_M hown hK hP 0 x_hM rfl 0 (by decide) (hts _ gm_154) (fun _ h9 => h9) rfl d_M_block_22 ?_
        refine lv_iload_n hx hb d_M_block_25 rfl (lv_at hl 1 rfl) ?_
        refine va_aldq (D := D) hx hb hK hP 1 1 x_hA rfl (x_in2 hk) d_M_block_26 ?_
        refine x_topv (x_nf_at hk) ?_
        refine va_get (D := D) (ci := 2) (C := R_N) (T := T_N) (N := 8) hx hb hts in_N hown hK hP (6 + k) (x_hN hk) rfl 0 (by decide) (hts _ gm_90) (fun _ h9 => h9) rfl d_M_block_27 ?_
        refine lv_astore (lv' := [(4, .ref (ad (8 + k))), (0, .ref (ad 0)), (1, .int (nI k)), (2, .int (nI bb)), (3, .int f)]) hx hb d_M_block_30 hl (by decide) rfl (fun ls hl => ?_)
        refine lv_iload_n hx hb d_M_block_32 rfl (lv_at hl 4 rfl) ?_
        refine lv_if_eq (tgt := 47) hx hb d_M_block_33 (by decide) (fun c5 => ?_) (fun c5 => ?_)
        · refine lv_aload hx hb d_M_block_47 (lv_at hl 0 rfl) ?_
          refine lv_iload_n hx hb d_M_block_49 rfl (lv_at hl 3 rfl) ?_
          refine x_V (rest := []) ⟨hx, hb, hml, hown, hts⟩ (c_D_held_ok l D cI cN ad z k hk bb hbb) gm_253 gm_254 gm_255 gm_31 gm_256 ⟨rfl, rfl⟩ hd_D_held ⟨Nat.le_of_ble_eq_true rfl, Nat.le_of_ble_eq_true rfl⟩ hK hP hD hS hA (va_recv hK hP (ci := 1) (q0 := (8 + k)) rfl (x_hD hk)) rfl hl.1 rfl (Nat.le_of_ble_eq_true rfl) d_M_block_50 ⟨Nat.le_of_ble_eq_true rfl, Nat.le_of_ble_eq_true rfl⟩ (fun H locs hP hD hS => ?_)
          refine lv_topi (fun r6 er6 => ?_)
          refine lv_i2l (v := r6.toInt64) hx hb d_M_block_53 rfl ?_
          exact x_rl (by subst er1 er6; first | (simp only [x_block, if_neg c2, if_neg c3, if_pos c4, if_pos c5, x_cl hk, x_cl32 hbb]; done) | rfl | (simp only [x_block, if_neg c2, if_neg c3, if_pos c4, if_pos c5, x_cl hk, x_cl32 hbb]; rfl)) hx hb hr hlk hP hD hS d_M_block_54
        · refine lv_aload hx hb d_M_block_36 (lv_at hl 0 rfl) ?_
          refine va_get (D := D) (ci := 1) (C := R_D) (T := T_D) (N := 3) hx hb hts in_D hown hK hP (8 + k) (x_hD hk) rfl 0 (by decide) (hts _ gm_79) (fun _ h9 => h9) rfl d_M_block_38 ?_
          refine lv_iload_n hx hb d_M_block_41 rfl (lv_at hl 3 rfl) ?_
          refine va_iald (D := D) hx hb hK hP (10 + k) 0 (x_hS hk) rfl (x_in32 hbb) d_M_block_42 ?_
          refine x_top (show z (7 + k) (nI bb).toNatClampNeg = z (7 + k) bb by rw [x_cl32 hbb]) ?_
          refine lv_i2l (v := (z (7 + k) bb).toInt64) hx hb d_M_block_43 rfl ?_
          refine lv_goto (tgt := 54) hx hb d_M_block_44 (by decide) ?_
          exact x_rl (by subst er1; first | (simp only [x_block, if_neg c2, if_neg c3, if_pos c4, if_neg c5, x_cl hk, x_cl32 hbb]; done) | rfl | (simp only [x_block, if_neg c2, if_neg c3, if_pos c4, if_neg c5, x_cl hk, x_cl32 hbb]; rfl)) hx hb hr hlk hP hD hS d_M_block_54
      · refine lv_ldc2 (v := (-1000000000000)) hx hb hown (hts (.constantLong R_M 85 (-1000000000000)) gm_252) d_M_block_17 ?_
        exact x_rl (by subst er1; first | (simp only [x_block, if_neg c2, if_neg c3, if_neg c4, x_cl hk]; done) | rfl | (simp only [x_block, if_neg c2, if_neg c3, if_neg c4, x_cl hk]; rfl)) hx hb hr hlk hP hD hS d_M_block_20
set_option maxHeartbeats 4000000 in
set_option maxRecDepth 100000 in
theorem c_M_node_ok (l : Launch) (D : va_G) (cI cN : ClassId) (ad : Nat → Nat) (z : x_S) (a w : Int32) : x_C l y_M_node c_M_node 4 (some .int) { frames := 2, cells := 0, slots := 0, locals := 40 } D (x_ty cI cN) (x_w cI cN ad z) [.ref (ad 0), .int a, .int w] (some (.int (x_node z a w))) (x_w cI cN ad z) := by
  refine x_C.of (by decide) (Nat.le_of_ble_eq_true rfl) ?_
  intro p e s m below meth c hx hb hr hml hts hown hlk A hA hK hS hP hD ls hl
  have hown : s.vm.findClass R_M = some m.cls := hown
  have hl : lv_has ls 4 [(0, .ref (ad 0)), (1, .int a), (2, .int w)] := hl
  refine lv_iload_n hx hb d_M_node_0 rfl (lv_at hl 1 rfl) ?_
  refine x_T (rest := []) ⟨hx, hb, hml, hown, hts⟩ (c_M_isNode_ok l D cI cN ad z a) gm_261 gm_262 gm_28 gm_263 ⟨rfl, rfl⟩ hd_M_isNode ⟨Nat.le_of_ble_eq_true rfl, Nat.le_of_ble_eq_true rfl⟩ hK hP hD hS hA rfl hl.1 rfl (Nat.le_of_ble_eq_true rfl) d_M_node_1 ⟨Nat.le_of_ble_eq_true rfl, Nat.le_of_ble_eq_true rfl⟩ (fun H locs hP hD hS => ?_)
  refine lv_topi (fun r1 er1 => ?_)
  refine lv_if_ne (tgt := 9) hx hb d_M_node_4 (by decide) (fun c2 => ?_) (fun c2 => ?_)
  · obtain ⟨k, hk, ek⟩ := x_nodeE (c := a) (by rw [← er1]; exact c2)
    subst ek
    refine lv_aload_n hx hb d_M_node_9 rfl (lv_at hl 0 rfl) ?_
    refine va_get (D := D) (ci := 4) (C := R_M) (T := T_M) (N := 7) hx hb hts in_M hown hK hP 0 x_hM rfl 0 (by decide) (hts _ gm_154) (fun _ h9 => h9) rfl d_M_node_10 ?_
    refine lv_iload_n hx hb d_M_node_13 rfl (lv_at hl 1 rfl) ?_
    refine va_aldq (D := D) hx hb hK hP 1 1 x_hA rfl (x_in2 hk) d_M_node_14 ?_
    refine x_topv (x_nf_at hk) ?_
    refine lv_astore_n (lv' := [(3, .ref (ad (6 + k))), (0, .ref (ad 0)), (1, .int (nI k)), (2, .int w)]) hx hb d_M_node_15 rfl hl (by decide) rfl (fun ls hl => ?_)
    refine lv_iload_n hx hb d_M_node_16 rfl (lv_at hl 3 rfl) ?_
    rcases x_sw 8 w with hsw | ⟨jj, hjj, ejj⟩
    · refine lv_tableOut (tgt := 119) hx hb d_M_node_17 hsw (by decide) ?_
      have hne0 : ¬ w = 0 := by rintro rfl; revert hsw; decide
      have hne1 : ¬ w = 1 := by rintro rfl; revert hsw; decide
      have hne2 : ¬ w = 2 := by rintro rfl; revert hsw; decide
      have hne3 : ¬ w = 3 := by rintro rfl; revert hsw; decide
      have hne4 : ¬ w = 4 := by rintro rfl; revert hsw; decide
      have hne5 : ¬ w = 5 := by rintro rfl; revert hsw; decide
      have hne6 : ¬ w = 6 := by rintro rfl; revert hsw; decide
      have hne7 : ¬ w = 7 := by rintro rfl; revert hsw; decide
      refine lv_iconst (v := (-1)) hx hb d_M_node_119 (by decide) ?_
      exact x_rp (by subst er1; first | (simp only [x_node, if_neg c2, if_neg hne0, if_neg hne1, if_neg hne2, if_neg hne3, if_neg hne4, if_neg hne5, if_neg hne6, if_neg hne7, x_cl hk]; done) | rfl | (simp only [x_node, if_neg c2, if_neg hne0, if_neg hne1, if_neg hne2, if_neg hne3, if_neg hne4, if_neg hne5, if_neg hne6, if_neg hne7, x_cl hk]; rfl)) hx hb hr hlk hP hD hS d_M_node_120
    · subst ejj
      match jj, hjj with
      | 0, _ =>
        refine lv_tableIn (off := 47) (tgt := 64) hx hb d_M_node_17 (by decide) (by decide) rfl (by decide) ?_
        refine lv_aload_n hx hb d_M_node_64 rfl (lv_at hl 0 rfl) ?_
        refine va_get (D := D) (ci := 2) (C := R_N) (T := T_N) (N := 8) hx hb hts in_N hown hK hP (6 + k) (x_hN hk) rfl 1 (by decide) (hts _ gm_92) (fun _ h9 => h9) rfl d_M_node_65 ?_
        refine x_T (rest := []) ⟨hx, hb, hml, hown, hts⟩ (c_M_asNumber_ok l D cI cN ad z (z (5 + k) 0)) gm_379 gm_380 gm_28 gm_381 ⟨rfl, rfl⟩ hd_M_asNumber ⟨Nat.le_of_ble_eq_true rfl, Nat.le_of_ble_eq_true rfl⟩ hK hP hD hS hA rfl hl.1 rfl (Nat.le_of_ble_eq_true rfl) d_M_node_68 ⟨Nat.le_of_ble_eq_true rfl, Nat.le_of_ble_eq_true rfl⟩ (fun H locs hP hD hS => ?_)
        refine lv_topi (fun r3 er3 => ?_)
        exact x_rp (by subst er1 er3; first | (simp only [x_node, if_neg c2, if_pos (by decide : nI 0 = 0), x_cl hk]; done) | rfl | (simp only [x_node, if_neg c2, if_pos (by decide : nI 0 = 0), x_cl hk]; rfl)) hx hb hr hlk hP hD hS d_M_node_71
      | 1, _ =>
        refine lv_tableIn (off := 55) (tgt := 72) hx hb d_M_node_17 (by decide) (by decide) rfl (by decide) ?_
        refine lv_aload_n hx hb d_M_node_72 rfl (lv_at hl 0 rfl) ?_
        refine va_get (D := D) (ci := 2) (C := R_N) (T := T_N) (N := 8) hx hb hts in_N hown hK hP (6 + k) (x_hN hk) rfl 2 (by decide) (hts _ gm_94) (fun _ h9 => h9) rfl d_M_node_73 ?_
        refine x_T (rest := []) ⟨hx, hb, hml, hown, hts⟩ (c_M_asNumber_ok l D cI cN ad z (z (5 + k) 1)) gm_379 gm_380 gm_28 gm_381 ⟨rfl, rfl⟩ hd_M_asNumber ⟨Nat.le_of_ble_eq_true rfl, Nat.le_of_ble_eq_true rfl⟩ hK hP hD hS hA rfl hl.1 rfl (Nat.le_of_ble_eq_true rfl) d_M_node_76 ⟨Nat.le_of_ble_eq_true rfl, Nat.le_of_ble_eq_true rfl⟩ (fun H locs hP hD hS => ?_)
        refine lv_topi (fun r4 er4 => ?_)
        exact x_rp (by subst er1 er4; first | (simp only [x_node, if_neg c2, if_neg (by decide : ¬ nI 1 = 0), if_pos (by decide : nI 1 = 1), x_cl hk]; done) | rfl | (simp only [x_node, if_neg c2, if_neg (by decide : ¬ nI 1 = 0), if_pos (by decide : nI 1 = 1), x_cl hk]; rfl)) hx hb hr hlk hP hD hS d_M_node_79
      | 2, _ =>
        refine lv_tableIn (off := 63) (tgt := 80) hx hb d_M_node_17 (by decide) (by decide) rfl (by decide) ?_
        refine lv_aload_n hx hb d_M_node_80 rfl (lv_at hl 0 rfl) ?_
        refine va_get (D := D) (ci := 2) (C := R_N) (T := T_N) (N := 8) hx hb hts in_N hown hK hP (6 + k) (x_hN hk) rfl 3 (by decide) (hts _ gm_96) (fun _ h9 => h9) rfl d_M_node_81 ?_
        exact x_rp (by subst er1; first | (simp only [x_node, if_neg c2, if_neg (by decide : ¬ nI 2 = 0), if_neg (by decide : ¬ nI 2 = 1), if_pos (by decide : nI 2 = 2), x_cl hk]; done) | rfl | (simp only [x_node, if_neg c2, if_neg (by decide : ¬ nI 2 = 0), if_neg (by decide : ¬ nI 2 = 1), if_pos (by decide : nI 2 = 2), x_cl hk]; rfl)) hx hb hr hlk hP hD hS d_M_node_84
      | 3, _ =>
        refine lv_tableIn (off := 68) (tgt := 85) hx hb d_M_node_17 (by decide) (by decide) rfl (by decide) ?_
        refine lv_aload_n hx hb d_M_node_85 rfl (lv_at hl 0 rfl) ?_
        refine va_get (D := D) (ci := 2) (C := R_N) (T := T_N) (N := 8) hx hb hts in_N hown hK hP (6 + k) (x_hN hk) rfl 4 (by decide) (hts _ gm_98) (fun _ h9 => h9) rfl d_M_node_86 ?_
        exact x_rp (by subst er1; first | (simp only [x_node, if_neg c2, if_neg (by decide : ¬ nI 3 = 0), if_neg (by decide : ¬ nI 3 = 1), if_neg (by decide : ¬ nI 3 = 2), if_pos (by decide : nI 3 = 3), x_cl hk]; done) | rfl | (simp only [x_node, if_neg c2, if_neg (by decide : ¬ nI 3 = 0), if_neg (by decide : ¬ nI 3 = 1), if_neg (by decide : ¬ nI 3 = 2), if_pos (by decide : nI 3 = 3), x_cl hk]; rfl)) hx hb hr hlk hP hD hS d_M_node_89
      | 4, _ =>
        refine lv_tableIn (off := 73) (tgt := 90) hx hb d_M_node_17 (by decide) (by decide) rfl (by decide) ?_
        refine lv_aload_n hx hb d_M_node_90 rfl (lv_at hl 0 rfl) ?_
        refine va_get (D := D) (ci := 2) (C := R_N) (T := T_N) (N := 8) hx hb hts in_N hown hK hP (6 + k) (x_hN hk) rfl 5 (by decide) (hts _ gm_100) (fun _ h9 => h9) rfl d_M_node_91 ?_
        refine x_T (rest := []) ⟨hx, hb, hml, hown, hts⟩ (c_M_asNumber_ok l D cI cN ad z (z (5 + k) 4)) gm_379 gm_380 gm_28 gm_381 ⟨rfl, rfl⟩ hd_M_asNumber ⟨Nat.le_of_ble_eq_true rfl, Nat.le_of_ble_eq_true rfl⟩ hK hP hD hS hA rfl hl.1 rfl (Nat.le_of_ble_eq_true rfl) d_M_node_94 ⟨Nat.le_of_ble_eq_true rfl, Nat.le_of_ble_eq_true rfl⟩ (fun H locs hP hD hS => ?_)
        refine lv_topi (fun r5 er5 => ?_)
        exact x_rp (by subst er1 er5; first | (simp only [x_node, if_neg c2, if_neg (by decide : ¬ nI 4 = 0), if_neg (by decide : ¬ nI 4 = 1), if_neg (by decide : ¬ nI 4 = 2), if_neg (by decide : ¬ nI 4 = 3), if_pos (by decide : nI 4 = 4), x_cl hk]; done) | rfl | (simp only [x_node, if_neg c2, if_neg (by decide : ¬ nI 4 = 0), if_neg (by decide : ¬ nI 4 = 1), if_neg (by decide : ¬ nI 4 = 2), if_neg (by decide : ¬ nI 4 = 3), if_pos (by decide : nI 4 = 4), x_cl hk]; rfl)) hx hb hr hlk hP hD hS d_M_node_97
      | 5, _ =>
        refine lv_tableIn (off := 81) (tgt := 98) hx hb d_M_node_17 (by decide) (by decide) rfl (by decide) ?_
        refine lv_aload_n hx hb d_M_node_98 rfl (lv_at hl 0 rfl) ?_
        refine va_get (D := D) (ci := 2) (C := R_N) (T := T_N) (N := 8) hx hb hts in_N hown hK hP (6 + k) (x_hN hk) rfl 6 (by decide) (hts _ gm_102) (fun _ h9 => h9) rfl d_M_node_99 ?_
        exact x_rp (by subst er1; first | (simp only [x_node, if_neg c2, if_neg (by decide : ¬ nI 5 = 0), if_neg (by decide : ¬ nI 5 = 1), if_neg (by decide : ¬ nI 5 = 2), if_neg (by decide : ¬ nI 5 = 3), if_neg (by decide : ¬ nI 5 = 4), if_pos (by decide : nI 5 = 5), x_cl hk]; done) | rfl | (simp only [x_node, if_neg c2, if_neg (by decide : ¬ nI 5 = 0), if_neg (by decide : ¬ nI 5 = 1), if_neg (by decide : ¬ nI 5 = 2), if_neg (by decide : ¬ nI 5 = 3), if_neg (by decide : ¬ nI 5 = 4), if_pos (by decide : nI 5 = 5), x_cl hk]; rfl)) hx hb hr hlk hP hD hS d_M_node_102
      | 6, _ =>
        refine lv_tableIn (off := 86) (tgt := 103) hx hb d_M_node_17 (by decide) (by decide) rfl (by decide) ?_
        refine lv_aload_n hx hb d_M_node_103 rfl (lv_at hl 0 rfl) ?_
        refine va_get (D := D) (ci := 2) (C := R_N) (T := T_N) (N := 8) hx hb hts in_N hown hK hP (6 + k) (x_hN hk) rfl 0 (by decide) (hts _ gm_90) (fun _ h9 => h9) rfl d_M_node_104 ?_
        refine x_V (rest := []) ⟨hx, hb, hml, hown, hts⟩ (c_D_countCached_ok l D cI cN ad z k hk) gm_382 gm_383 gm_384 gm_31 gm_385 ⟨rfl, rfl⟩ hd_D_countCached ⟨Nat.le_of_ble_eq_true rfl, Nat.le_of_ble_eq_true rfl⟩ hK hP hD hS hA (va_recv hK hP (ci := 1) (q0 := (8 + k)) rfl (x_hD hk)) rfl hl.1 rfl (Nat.le_of_ble_eq_true rfl) d_M_node_107 ⟨Nat.le_of_ble_eq_true rfl, Nat.le_of_ble_eq_true rfl⟩ (fun H locs hP hD hS => ?_)
        refine lv_topi (fun r6 er6 => ?_)
        exact x_rp (by subst er1 er6; first | (simp only [x_node, if_neg c2, if_neg (by decide : ¬ nI 6 = 0), if_neg (by decide : ¬ nI 6 = 1), if_neg (by decide : ¬ nI 6 = 2), if_neg (by decide : ¬ nI 6 = 3), if_neg (by decide : ¬ nI 6 = 4), if_neg (by decide : ¬ nI 6 = 5), if_pos (by decide : nI 6 = 6), x_cl hk]; done) | rfl | (simp only [x_node, if_neg c2, if_neg (by decide : ¬ nI 6 = 0), if_neg (by decide : ¬ nI 6 = 1), if_neg (by decide : ¬ nI 6 = 2), if_neg (by decide : ¬ nI 6 = 3), if_neg (by decide : ¬ nI 6 = 4), if_neg (by decide : ¬ nI 6 = 5), if_pos (by decide : nI 6 = 6), x_cl hk]; rfl)) hx hb hr hlk hP hD hS d_M_node_110
      | 7, _ =>
        refine lv_tableIn (off := 94) (tgt := 111) hx hb d_M_node_17 (by decide) (by decide) rfl (by decide) ?_
        refine lv_aload_n hx hb d_M_node_111 rfl (lv_at hl 0 rfl) ?_
        refine va_get (D := D) (ci := 2) (C := R_N) (T := T_N) (N := 8) hx hb hts in_N hown hK hP (6 + k) (x_hN hk) rfl 7 (by decide) (hts _ gm_104) (fun _ h9 => h9) rfl d_M_node_112 ?_
        refine x_T (rest := []) ⟨hx, hb, hml, hown, hts⟩ (c_M_asNumber_ok l D cI cN ad z (z (5 + k) 6)) gm_379 gm_380 gm_28 gm_381 ⟨rfl, rfl⟩ hd_M_asNumber ⟨Nat.le_of_ble_eq_true rfl, Nat.le_of_ble_eq_true rfl⟩ hK hP hD hS hA rfl hl.1 rfl (Nat.le_of_ble_eq_true rfl) d_M_node_115 ⟨Nat.le_of_ble_eq_true rfl, Nat.le_of_ble_eq_true rfl⟩ (fun H locs hP hD hS => ?_)
        refine lv_topi (fun r7 er7 => ?_)
        exact x_rp (by subst er1 er7; first | (simp only [x_node, if_neg c2, if_neg (by decide : ¬ nI 7 = 0), if_neg (by decide : ¬ nI 7 = 1), if_neg (by decide : ¬ nI 7 = 2), if_neg (by decide : ¬ nI 7 = 3), if_neg (by decide : ¬ nI 7 = 4), if_neg (by decide : ¬ nI 7 = 5), if_neg (by decide : ¬ nI 7 = 6), if_pos (by decide : nI 7 = 7), x_cl hk]; done) | rfl | (simp only [x_node, if_neg c2, if_neg (by decide : ¬ nI 7 = 0), if_neg (by decide : ¬ nI 7 = 1), if_neg (by decide : ¬ nI 7 = 2), if_neg (by decide : ¬ nI 7 = 3), if_neg (by decide : ¬ nI 7 = 4), if_neg (by decide : ¬ nI 7 = 5), if_neg (by decide : ¬ nI 7 = 6), if_pos (by decide : nI 7 = 7), x_cl hk]; rfl)) hx hb hr hlk hP hD hS d_M_node_118
      | jj + 8, h => exact absurd h (by omega)
  · refine lv_iconst (v := (-1)) hx hb d_M_node_7 (by decide) ?_
    exact x_rp (by subst er1; first | (simp only [x_node, if_pos c2]; done) | rfl | (simp only [x_node, if_pos c2]; rfl)) hx hb hr hlk hP hD hS d_M_node_8
set_option maxHeartbeats 4000000 in
set_option maxRecDepth 100000 in
theorem c_M_mirror_ok (l : Launch) (D : va_G) (cI cN : ClassId) (ad : Nat → Nat) (z : x_S) (w : Int32) : x_C l y_M_mirror c_M_mirror 2 (some .int) { frames := 1, cells := 0, slots := 0, locals := 20 } D (x_ty cI cN) (x_w cI cN ad z) [.ref (ad 0), .int w] (some (.int (x_mirror z w))) (x_w cI cN ad z) := by
  refine x_C.of (by decide) (Nat.le_of_ble_eq_true rfl) ?_
  intro p e s m below meth c hx hb hr hml hts hown hlk A hA hK hS hP hD ls hl
  have hown : s.vm.findClass R_M = some m.cls := hown
  have hl : lv_has ls 2 [(0, .ref (ad 0)), (1, .int w)] := hl
  refine lv_iload_n hx hb d_M_mirror_0 rfl (lv_at hl 1 rfl) ?_
  rcases x_sw 7 w with hsw | ⟨jj, hjj, ejj⟩
  · refine lv_tableOut (tgt := 123) hx hb d_M_mirror_1 hsw (by decide) ?_
    have hne0 : ¬ w = 0 := by rintro rfl; revert hsw; decide
    have hne1 : ¬ w = 1 := by rintro rfl; revert hsw; decide
    have hne2 : ¬ w = 2 := by rintro rfl; revert hsw; decide
    have hne3 : ¬ w = 3 := by rintro rfl; revert hsw; decide
    have hne4 : ¬ w = 4 := by rintro rfl; revert hsw; decide
    have hne5 : ¬ w = 5 := by rintro rfl; revert hsw; decide
    have hne6 : ¬ w = 6 := by rintro rfl; revert hsw; decide
    refine lv_iconst (v := (-1)) hx hb d_M_mirror_123 (by decide) ?_
    exact x_rp (by first | (simp only [x_mirror, if_neg hne0, if_neg hne1, if_neg hne2, if_neg hne3, if_neg hne4, if_neg hne5, if_neg hne6]; done) | rfl | (simp only [x_mirror, if_neg hne0, if_neg hne1, if_neg hne2, if_neg hne3, if_neg hne4, if_neg hne5, if_neg hne6]; rfl)) hx hb hr hlk hP hD hS d_M_mirror_124
  · subst ejj
    match jj, hjj with
    | 0, _ =>
      refine lv_tableIn (off := 43) (tgt := 44) hx hb d_M_mirror_1 (by decide) (by decide) rfl (by decide) ?_
      refine lv_aload_n hx hb d_M_mirror_44 rfl (lv_at hl 0 rfl) ?_
      refine va_get (D := D) (ci := 4) (C := R_M) (T := T_M) (N := 7) hx hb hts in_M hown hK hP 0 x_hM rfl 4 (by decide) (hts _ gm_158) (fun _ h9 => h9) rfl d_M_mirror_45 ?_
      refine x_T (rest := []) ⟨hx, hb, hml, hown, hts⟩ (c_M_asNumber_ok l D cI cN ad z (z 0 1)) gm_379 gm_380 gm_28 gm_381 ⟨rfl, rfl⟩ hd_M_asNumber ⟨Nat.le_of_ble_eq_true rfl, Nat.le_of_ble_eq_true rfl⟩ hK hP hD hS hA rfl hl.1 rfl (Nat.le_of_ble_eq_true rfl) d_M_mirror_48 ⟨Nat.le_of_ble_eq_true rfl, Nat.le_of_ble_eq_true rfl⟩ (fun H locs hP hD hS => ?_)
      refine lv_topi (fun r1 er1 => ?_)
      exact x_rp (by subst er1; first | (simp only [x_mirror, if_pos (by decide : nI 0 = 0)]; done) | rfl | (simp only [x_mirror, if_pos (by decide : nI 0 = 0)]; rfl)) hx hb hr hlk hP hD hS d_M_mirror_51
    | 1, _ =>
      refine lv_tableIn (off := 51) (tgt := 52) hx hb d_M_mirror_1 (by decide) (by decide) rfl (by decide) ?_
      refine lv_aload_n hx hb d_M_mirror_52 rfl (lv_at hl 0 rfl) ?_
      refine va_get (D := D) (ci := 4) (C := R_M) (T := T_M) (N := 7) hx hb hts in_M hown hK hP 0 x_hM rfl 5 (by decide) (hts _ gm_159) (fun _ h9 => h9) rfl d_M_mirror_53 ?_
      refine lv_if_eq (tgt := 66) hx hb d_M_mirror_56 (by decide) (fun c2 => ?_) (fun c2 => ?_)
      · refine lv_iconst (v := 2) hx hb d_M_mirror_66 (by decide) ?_
        exact x_rp (by first | (simp only [x_mirror, if_neg (by decide : ¬ nI 1 = 0), if_pos (by decide : nI 1 = 1), if_pos c2]; done) | rfl | (simp only [x_mirror, if_neg (by decide : ¬ nI 1 = 0), if_pos (by decide : nI 1 = 1), if_pos c2]; rfl)) hx hb hr hlk hP hD hS d_M_mirror_67
      · refine lv_aload_n hx hb d_M_mirror_59 rfl (lv_at hl 0 rfl) ?_
        refine va_get (D := D) (ci := 4) (C := R_M) (T := T_M) (N := 7) hx hb hts in_M hown hK hP 0 x_hM rfl 6 (by decide) (hts _ gm_160) (fun _ h9 => h9) rfl d_M_mirror_60 ?_
        refine lv_goto (tgt := 67) hx hb d_M_mirror_63 (by decide) ?_
        exact x_rp (by first | (simp only [x_mirror, if_neg (by decide : ¬ nI 1 = 0), if_pos (by decide : nI 1 = 1), if_neg c2]; done) | rfl | (simp only [x_mirror, if_neg (by decide : ¬ nI 1 = 0), if_pos (by decide : nI 1 = 1), if_neg c2]; rfl)) hx hb hr hlk hP hD hS d_M_mirror_67
    | 2, _ =>
      refine lv_tableIn (off := 67) (tgt := 68) hx hb d_M_mirror_1 (by decide) (by decide) rfl (by decide) ?_
      refine lv_aload_n hx hb d_M_mirror_68 rfl (lv_at hl 0 rfl) ?_
      refine va_get (D := D) (ci := 4) (C := R_M) (T := T_M) (N := 7) hx hb hts in_M hown hK hP 0 x_hM rfl 1 (by decide) (hts _ gm_155) (fun _ h9 => h9) rfl d_M_mirror_69 ?_
      refine va_get (D := D) (ci := 3) (C := R_T) (T := T_T) (N := 5) hx hb hts in_T hown hK hP 2 x_hT rfl 1 (by decide) (hts _ gm_136) (fun _ h9 => h9) rfl d_M_mirror_72 ?_
      exact x_rp (by first | (simp only [x_mirror, if_neg (by decide : ¬ nI 2 = 0), if_neg (by decide : ¬ nI 2 = 1), if_pos (by decide : nI 2 = 2)]; done) | rfl | (simp only [x_mirror, if_neg (by decide : ¬ nI 2 = 0), if_neg (by decide : ¬ nI 2 = 1), if_pos (by decide : nI 2 = 2)]; rfl)) hx hb hr hlk hP hD hS d_M_mirror_75
    | 3, _ =>
      refine lv_tableIn (off := 75) (tgt := 76) hx hb d_M_mirror_1 (by decide) (by decide) rfl (by decide) ?_
      refine lv_aload_n hx hb d_M_mirror_76 rfl (lv_at hl 0 rfl) ?_
      refine va_get (D := D) (ci := 4) (C := R_M) (T := T_M) (N := 7) hx hb hts in_M hown hK hP 0 x_hM rfl 1 (by decide) (hts _ gm_155) (fun _ h9 => h9) rfl d_M_mirror_77 ?_
      refine va_get (D := D) (ci := 3) (C := R_T) (T := T_T) (N := 5) hx hb hts in_T hown hK hP 2 x_hT rfl 3 (by decide) (hts _ gm_140) (fun _ h9 => h9) rfl d_M_mirror_80 ?_
      exact x_rp (by first | (simp only [x_mirror, if_neg (by decide : ¬ nI 3 = 0), if_neg (by decide : ¬ nI 3 = 1), if_neg (by decide : ¬ nI 3 = 2), if_pos (by decide : nI 3 = 3)]; done) | rfl | (simp only [x_mirror, if_neg (by decide : ¬ nI 3 = 0), if_neg (by decide : ¬ nI 3 = 1), if_neg (by decide : ¬ nI 3 = 2), if_pos (by decide : nI 3 = 3)]; rfl)) hx hb hr hlk hP hD hS d_M_mirror_83
    | 4, _ =>
      refine lv_tableIn (off := 83) (tgt := 84) hx hb d_M_mirror_1 (by decide) (by decide) rfl (by decide) ?_
      refine lv_aload_n hx hb d_M_mirror_84 rfl (lv_at hl 0 rfl) ?_
      refine va_get (D := D) (ci := 4) (C := R_M) (T := T_M) (N := 7) hx hb hts in_M hown hK hP 0 x_hM rfl 1 (by decide) (hts _ gm_155) (fun _ h9 => h9) rfl d_M_mirror_85 ?_
      refine va_get (D := D) (ci := 3) (C := R_T) (T := T_T) (N := 5) hx hb hts in_T hown hK hP 2 x_hT rfl 3 (by decide) (hts _ gm_140) (fun _ h9 => h9) rfl d_M_mirror_88 ?_
      refine lv_iconst (v := 2) hx hb d_M_mirror_91 (by decide) ?_
      refine lv_icmp_ne (tgt := 99) hx hb d_M_mirror_92 (by decide) (fun c3 => ?_) (fun c3 => ?_)
      · refine lv_aload_n hx hb d_M_mirror_99 rfl (lv_at hl 0 rfl) ?_
        refine va_get (D := D) (ci := 4) (C := R_M) (T := T_M) (N := 7) hx hb hts in_M hown hK hP 0 x_hM rfl 1 (by decide) (hts _ gm_155) (fun _ h9 => h9) rfl d_M_mirror_100 ?_
        refine va_get (D := D) (ci := 3) (C := R_T) (T := T_T) (N := 5) hx hb hts in_T hown hK hP 2 x_hT rfl 4 (by decide) (hts _ gm_142) (fun _ h9 => h9) rfl d_M_mirror_103 ?_
        exact x_rp (by first | (simp only [x_mirror, if_neg (by decide : ¬ nI 4 = 0), if_neg (by decide : ¬ nI 4 = 1), if_neg (by decide : ¬ nI 4 = 2), if_neg (by decide : ¬ nI 4 = 3), if_pos (by decide : nI 4 = 4), if_neg c3]; done) | rfl | (simp only [x_mirror, if_neg (by decide : ¬ nI 4 = 0), if_neg (by decide : ¬ nI 4 = 1), if_neg (by decide : ¬ nI 4 = 2), if_neg (by decide : ¬ nI 4 = 3), if_pos (by decide : nI 4 = 4), if_neg c3]; rfl)) hx hb hr hlk hP hD hS d_M_mirror_106
      · refine lv_iconst (v := 0) hx hb d_M_mirror_95 (by decide) ?_
        refine lv_goto (tgt := 106) hx hb d_M_mirror_96 (by decide) ?_
        exact x_rp (by first | (simp only [x_mirror, if_neg (by decide : ¬ nI 4 = 0), if_neg (by decide : ¬ nI 4 = 1), if_neg (by decide : ¬ nI 4 = 2), if_neg (by decide : ¬ nI 4 = 3), if_pos (by decide : nI 4 = 4), if_pos c3]; done) | rfl | (simp only [x_mirror, if_neg (by decide : ¬ nI 4 = 0), if_neg (by decide : ¬ nI 4 = 1), if_neg (by decide : ¬ nI 4 = 2), if_neg (by decide : ¬ nI 4 = 3), if_pos (by decide : nI 4 = 4), if_pos c3]; rfl)) hx hb hr hlk hP hD hS d_M_mirror_106
    | 5, _ =>
      refine lv_tableIn (off := 106) (tgt := 107) hx hb d_M_mirror_1 (by decide) (by decide) rfl (by decide) ?_
      refine lv_aload_n hx hb d_M_mirror_107 rfl (lv_at hl 0 rfl) ?_
      refine va_get (D := D) (ci := 4) (C := R_M) (T := T_M) (N := 7) hx hb hts in_M hown hK hP 0 x_hM rfl 2 (by decide) (hts _ gm_156) (fun _ h9 => h9) rfl d_M_mirror_108 ?_
      refine va_get (D := D) (ci := 0) (C := R_B) (T := T_B) (N := 3) hx hb hts in_B hown hK hP 3 x_hB rfl 2 (by decide) (hts _ gm_58) (fun _ h9 => h9) rfl d_M_mirror_111 ?_
      exact x_rp (by first | (simp only [x_mirror, if_neg (by decide : ¬ nI 5 = 0), if_neg (by decide : ¬ nI 5 = 1), if_neg (by decide : ¬ nI 5 = 2), if_neg (by decide : ¬ nI 5 = 3), if_neg (by decide : ¬ nI 5 = 4), if_pos (by decide : nI 5 = 5)]; done) | rfl | (simp only [x_mirror, if_neg (by decide : ¬ nI 5 = 0), if_neg (by decide : ¬ nI 5 = 1), if_neg (by decide : ¬ nI 5 = 2), if_neg (by decide : ¬ nI 5 = 3), if_neg (by decide : ¬ nI 5 = 4), if_pos (by decide : nI 5 = 5)]; rfl)) hx hb hr hlk hP hD hS d_M_mirror_114
    | 6, _ =>
      refine lv_tableIn (off := 114) (tgt := 115) hx hb d_M_mirror_1 (by decide) (by decide) rfl (by decide) ?_
      refine lv_aload_n hx hb d_M_mirror_115 rfl (lv_at hl 0 rfl) ?_
      refine va_get (D := D) (ci := 4) (C := R_M) (T := T_M) (N := 7) hx hb hts in_M hown hK hP 0 x_hM rfl 3 (by decide) (hts _ gm_157) (fun _ h9 => h9) rfl d_M_mirror_116 ?_
      refine x_T (rest := []) ⟨hx, hb, hml, hown, hts⟩ (c_M_asNumber_ok l D cI cN ad z (z 0 0)) gm_379 gm_380 gm_28 gm_381 ⟨rfl, rfl⟩ hd_M_asNumber ⟨Nat.le_of_ble_eq_true rfl, Nat.le_of_ble_eq_true rfl⟩ hK hP hD hS hA rfl hl.1 rfl (Nat.le_of_ble_eq_true rfl) d_M_mirror_119 ⟨Nat.le_of_ble_eq_true rfl, Nat.le_of_ble_eq_true rfl⟩ (fun H locs hP hD hS => ?_)
      refine lv_topi (fun r4 er4 => ?_)
      exact x_rp (by subst er4; first | (simp only [x_mirror, if_neg (by decide : ¬ nI 6 = 0), if_neg (by decide : ¬ nI 6 = 1), if_neg (by decide : ¬ nI 6 = 2), if_neg (by decide : ¬ nI 6 = 3), if_neg (by decide : ¬ nI 6 = 4), if_neg (by decide : ¬ nI 6 = 5), if_pos (by decide : nI 6 = 6)]; done) | rfl | (simp only [x_mirror, if_neg (by decide : ¬ nI 6 = 0), if_neg (by decide : ¬ nI 6 = 1), if_neg (by decide : ¬ nI 6 = 2), if_neg (by decide : ¬ nI 6 = 3), if_neg (by decide : ¬ nI 6 = 4), if_neg (by decide : ¬ nI 6 = 5), if_pos (by decide : nI 6 = 6)]; rfl)) hx hb hr hlk hP hD hS d_M_mirror_122
    | jj + 7, h => exact absurd h (by omega)
set_option maxHeartbeats 4000000 in
set_option maxRecDepth 100000 in
theorem c_M_promote_ok (l : Launch) (D : va_G) (cI cN : ClassId) (ad : Nat → Nat) (z : x_S) (a f : Int32) : x_C l y_M_promote c_M_promote 5 (some .int) { frames := 4, cells := 0, slots := 0, locals := 84 } D (x_ty cI cN) (x_w cI cN ad z) [.ref (ad 0), .int a, .int f] (some (.int (x_promote z a f).1)) (x_w cI cN ad (x_promote z a f).2) := by
  refine x_C.of (by decide) (Nat.le_of_ble_eq_true rfl) ?_
  intro p e s m below meth c hx hb hr hml hts hown hlk A hA hK hS hP hD ls hl
  have hown : s.vm.findClass R_M = some m.cls := hown
  have hl : lv_has ls 5 [(0, .ref (ad 0)), (1, .int a), (2, .int f)] := hl
  refine lv_iload_n hx hb d_M_promote_0 rfl (lv_at hl 1 rfl) ?_
  refine x_T (rest := []) ⟨hx, hb, hml, hown, hts⟩ (c_M_isNode_ok l D cI cN ad z a) gm_261 gm_262 gm_28 gm_263 ⟨rfl, rfl⟩ hd_M_isNode ⟨Nat.le_of_ble_eq_true rfl, Nat.le_of_ble_eq_true rfl⟩ hK hP hD hS hA rfl hl.1 rfl (Nat.le_of_ble_eq_true rfl) d_M_promote_1 ⟨Nat.le_of_ble_eq_true rfl, Nat.le_of_ble_eq_true rfl⟩ (fun H locs hP hD hS => ?_)
  refine lv_topi (fun r1 er1 => ?_)
  refine lv_if_eq (tgt := 19) hx hb d_M_promote_4 (by decide) (fun c2 => ?_) (fun c2 => ?_)
  · refine lv_iconst (v := (-1)) hx hb d_M_promote_19 (by decide) ?_
    exact x_ri (w := x_w cI cN ad) (by subst er1; first | (simp only [x_promote, x_prom2, if_true, Bool.false_eq_true, if_false, if_pos c2]; done) | rfl | (simp only [x_promote, x_prom2, if_true, Bool.false_eq_true, if_false, if_pos c2]; rfl)) hx hb hr hlk hP hD hS d_M_promote_20
  · obtain ⟨k, hk, ek⟩ := x_nodeE (c := a) (by rw [← er1]; exact c2)
    subst ek
    refine lv_aload_n hx hb d_M_promote_7 rfl (lv_at hl 0 rfl) ?_
    refine va_get (D := D) (ci := 4) (C := R_M) (T := T_M) (N := 7) hx hb hts in_M hown hK hP 0 x_hM rfl 0 (by decide) (hts _ gm_154) (fun _ h9 => h9) rfl d_M_promote_8 ?_
    refine lv_iload_n hx hb d_M_promote_11 rfl (lv_at hl 1 rfl) ?_
    refine va_aldq (D := D) hx hb hK hP 1 1 x_hA rfl (x_in2 hk) d_M_promote_12 ?_
    refine x_topv (x_nf_at hk) ?_
    refine x_V (rest := []) ⟨hx, hb, hml, hown, hts⟩ (c_N_mayAskForLease_ok l D cI cN ad z k hk) gm_333 gm_334 gm_335 gm_30 gm_336 ⟨rfl, rfl⟩ hd_N_mayAskForLease ⟨Nat.le_of_ble_eq_true rfl, Nat.le_of_ble_eq_true rfl⟩ hK hP hD hS hA (va_recv hK hP (ci := 2) (q0 := (6 + k)) rfl (x_hN hk)) rfl hl.1 rfl (Nat.le_of_ble_eq_true rfl) d_M_promote_13 ⟨Nat.le_of_ble_eq_true rfl, Nat.le_of_ble_eq_true rfl⟩ (fun H locs hP hD hS => ?_)
    refine lv_topi (fun r3 er3 => ?_)
    refine lv_if_ne (tgt := 21) hx hb d_M_promote_16 (by decide) (fun c4 => ?_) (fun c4 => ?_)
    · refine lv_aload_n hx hb d_M_promote_21 rfl (lv_at hl 0 rfl) ?_
      refine va_get (D := D) (ci := 4) (C := R_M) (T := T_M) (N := 7) hx hb hts in_M hown hK hP 0 x_hM rfl 0 (by decide) (hts _ gm_154) (fun _ h9 => h9) rfl d_M_promote_22 ?_
      refine lv_iload_n hx hb d_M_promote_25 rfl (lv_at hl 1 rfl) ?_
      refine va_aldq (D := D) hx hb hK hP 1 1 x_hA rfl (x_in2 hk) d_M_promote_26 ?_
      refine x_topv (x_nf_at hk) ?_
      refine lv_astore_n (lv' := [(3, .ref (ad (6 + k))), (0, .ref (ad 0)), (1, .int (nI k)), (2, .int f)]) hx hb d_M_promote_27 rfl hl (by decide) rfl (fun ls hl => ?_)
      refine lv_aload_n hx hb d_M_promote_28 rfl (lv_at hl 1 rfl) ?_
      refine va_get (D := D) (ci := 4) (C := R_M) (T := T_M) (N := 7) hx hb hts in_M hown hK hP 0 x_hM rfl 1 (by decide) (hts _ gm_155) (fun _ h9 => h9) rfl d_M_promote_29 ?_
      refine lv_iconst (v := 1) hx hb d_M_promote_32 (by decide) ?_
      refine lv_iload_n hx hb d_M_promote_33 rfl (lv_at hl 2 rfl) ?_
      refine lv_isub hx hb d_M_promote_34 ?_
      refine x_top (x_1k hk) ?_
      refine x_V (rest := []) ⟨hx, hb, hml, hown, hts⟩ (c_T_isLentTo_ok l D cI cN ad z (nI (1 - k))) gm_337 gm_338 gm_339 gm_32 gm_340 ⟨rfl, rfl⟩ hd_T_isLentTo ⟨Nat.le_of_ble_eq_true rfl, Nat.le_of_ble_eq_true rfl⟩ hK hP hD hS hA (va_recv hK hP (ci := 3) (q0 := 2) rfl x_hT) rfl hl.1 rfl (Nat.le_of_ble_eq_true rfl) d_M_promote_35 ⟨Nat.le_of_ble_eq_true rfl, Nat.le_of_ble_eq_true rfl⟩ (fun H locs hP hD hS => ?_)
      refine lv_topi (fun r5 er5 => ?_)
      refine lv_if_eq (tgt := 44) hx hb d_M_promote_38 (by decide) (fun c6 => ?_) (fun c6 => ?_)
      · refine lv_aload_n hx hb d_M_promote_44 rfl (lv_at hl 0 rfl) ?_
        refine va_get (D := D) (ci := 2) (C := R_N) (T := T_N) (N := 8) hx hb hts in_N hown hK hP (6 + k) (x_hN hk) rfl 3 (by decide) (hts _ gm_96) (fun _ h9 => h9) rfl d_M_promote_45 ?_
        refine lv_if_ne (tgt := 54) hx hb d_M_promote_48 (by decide) (fun c7 => ?_) (fun c7 => ?_)
        · refine lv_aload_n hx hb d_M_promote_54 rfl (lv_at hl 0 rfl) ?_
          refine va_get (D := D) (ci := 2) (C := R_N) (T := T_N) (N := 8) hx hb hts in_N hown hK hP (6 + k) (x_hN hk) rfl 3 (by decide) (hts _ gm_96) (fun _ h9 => h9) rfl d_M_promote_55 ?_
          refine lv_aload_n hx hb d_M_promote_58 rfl (lv_at hl 1 rfl) ?_
          refine va_get (D := D) (ci := 4) (C := R_M) (T := T_M) (N := 7) hx hb hts in_M hown hK hP 0 x_hM rfl 1 (by decide) (hts _ gm_155) (fun _ h9 => h9) rfl d_M_promote_59 ?_
          refine va_get (D := D) (ci := 3) (C := R_T) (T := T_T) (N := 5) hx hb hts in_T hown hK hP 2 x_hT rfl 1 (by decide) (hts _ gm_136) (fun _ h9 => h9) rfl d_M_promote_62 ?_
          refine lv_icmp_eq (tgt := 72) hx hb d_M_promote_65 (by decide) (fun c8 => ?_) (fun c8 => ?_)
          · refine lv_iconst (v := 0) hx hb d_M_promote_72 (by decide) ?_
            refine lv_istore (lv' := [(4, .int 0), (3, .ref (ad (6 + k))), (0, .ref (ad 0)), (1, .int (nI k)), (2, .int f)]) hx hb d_M_promote_73 hl (by decide) rfl (fun ls hl => ?_)
            refine lv_iload hx hb d_M_promote_75 (lv_at hl 0 rfl) ?_
            refine lv_if_eq (tgt := 87) hx hb d_M_promote_77 (by decide) (fun c9 => ?_) (fun c9 => ?_)
            · refine lv_aload_n hx hb d_M_promote_87 rfl (lv_at hl 2 rfl) ?_
              refine lv_iconst (v := 1) hx hb d_M_promote_88 (by decide) ?_
              refine lv_iload_n hx hb d_M_promote_89 rfl (lv_at hl 3 rfl) ?_
              refine lv_isub hx hb d_M_promote_90 ?_
              refine x_top (x_1k hk) ?_
              refine x_V (rest := []) ⟨hx, hb, hml, hown, hts⟩ (c_M_makeSecondary_ok l D cI cN ad z (1 - k) (x_1lt hk)) gm_240 gm_242 gm_7 gm_28 gm_243 ⟨rfl, rfl⟩ hd_M_makeSecondary ⟨Nat.le_of_ble_eq_true rfl, Nat.le_of_ble_eq_true rfl⟩ hK hP hD hS hA (va_recv hK hP (ci := 4) (q0 := 0) rfl x_hM) rfl hl.1 rfl (Nat.le_of_ble_eq_true rfl) d_M_promote_91 ⟨Nat.le_of_ble_eq_true rfl, Nat.le_of_ble_eq_true rfl⟩ (fun H locs hP hD hS => ?_)
              obtain ⟨z10, ez10⟩ : ∃ zt_ : x_S, zt_ = x_sec z (1 - k) := ⟨_, rfl⟩
              rw [← ez10] at hP hD
              refine lv_aload_n hx hb d_M_promote_94 rfl (lv_at hl 1 rfl) ?_
              refine lv_iconst (v := 1) hx hb d_M_promote_95 (by decide) ?_
              refine va_put (D := D) (ci := 2) (v := .int 1) (ty := .boolean) (C := R_N) (T := T_N) (N := 8) hx hb hts in_N fy_N fy_N_ok n_N hown hK hP hD hS (6 + k) (x_hN hk) rfl 2 (by decide) (hts _ gm_94) (fun _ h9 => h9) rfl (by decide +kernel) rfl rfl (Nat.le_of_ble_eq_true rfl) d_M_promote_96 (fun H locs hP hD hS => ?_)
              obtain ⟨z11, ez11⟩ : ∃ zt_ : x_S, zt_ = x_up z10 (5 + k) 1 1 := ⟨_, rfl⟩
              have hP : va_P D vwCl (x_w cI cN ad z11) H := by rw [ez11, ← x_sN (i := 1) hk (by decide) 1]; exact hP
              have hD : va_D A (x_w cI cN ad z11) := by rw [ez11, ← x_sN (i := 1) hk (by decide) 1]; exact hD
              refine lv_aload_n hx hb d_M_promote_99 rfl (lv_at hl 2 rfl) ?_
              refine va_get (D := D) (ci := 4) (C := R_M) (T := T_M) (N := 7) hx hb hts in_M hown hK hP 0 x_hM rfl 1 (by decide) (hts _ gm_155) (fun _ h9 => h9) rfl d_M_promote_100 ?_
              refine lv_iload_n hx hb d_M_promote_103 rfl (lv_at hl 3 rfl) ?_
              refine x_V (rest := []) ⟨hx, hb, hml, hown, hts⟩ (c_T_lendTo_ok l D cI cN ad z11 (nI k)) gm_345 gm_346 gm_347 gm_32 gm_348 ⟨rfl, rfl⟩ hd_T_lendTo ⟨Nat.le_of_ble_eq_true rfl, Nat.le_of_ble_eq_true rfl⟩ hK hP hD hS hA (va_recv hK hP (ci := 3) (q0 := 2) rfl x_hT) rfl hl.1 rfl (Nat.le_of_ble_eq_true rfl) d_M_promote_104 ⟨Nat.le_of_ble_eq_true rfl, Nat.le_of_ble_eq_true rfl⟩ (fun H locs hP hD hS => ?_)
              obtain ⟨z12, ez12⟩ : ∃ zt_ : x_S, zt_ = x_lend z11 (nI k) := ⟨_, rfl⟩
              rw [← ez12] at hP hD
              refine lv_iload hx hb d_M_promote_107 (lv_at hl 0 rfl) ?_
              refine lv_if_ne (tgt := 120) hx hb d_M_promote_109 (by decide) (fun c13 => ?_) (fun c13 => ?_)
              · exact (c13 (by decide)).elim
              · refine lv_aload_n hx hb d_M_promote_112 rfl (lv_at hl 2 rfl) ?_
                refine lv_iload_n hx hb d_M_promote_113 rfl (lv_at hl 3 rfl) ?_
                refine x_V (rest := []) ⟨hx, hb, hml, hown, hts⟩ (c_M_isUnpaired_ok l D cI cN ad z12 k hk) gm_195 gm_197 gm_1 gm_28 gm_198 ⟨rfl, rfl⟩ hd_M_isUnpaired ⟨Nat.le_of_ble_eq_true rfl, Nat.le_of_ble_eq_true rfl⟩ hK hP hD hS hA (va_recv hK hP (ci := 4) (q0 := 0) rfl x_hM) rfl hl.1 rfl (Nat.le_of_ble_eq_true rfl) d_M_promote_114 ⟨Nat.le_of_ble_eq_true rfl, Nat.le_of_ble_eq_true rfl⟩ (fun H locs hP hD hS => ?_)
                refine lv_topi (fun r14 er14 => ?_)
                refine lv_if_eq (tgt := 125) hx hb d_M_promote_117 (by decide) (fun c15 => ?_) (fun c15 => ?_)
                · refine lv_aload_n hx hb d_M_promote_125 rfl (lv_at hl 2 rfl) ?_
                  refine lv_iload_n hx hb d_M_promote_126 rfl (lv_at hl 3 rfl) ?_
                  refine x_V (rest := []) ⟨hx, hb, hml, hown, hts⟩ (c_M_flushBy_ok l D cI cN ad z12 k hk) gm_207 gm_209 gm_4 gm_28 gm_210 ⟨rfl, rfl⟩ hd_M_flushBy ⟨Nat.le_of_ble_eq_true rfl, Nat.le_of_ble_eq_true rfl⟩ hK hP hD hS hA (va_recv hK hP (ci := 4) (q0 := 0) rfl x_hM) rfl hl.1 rfl (Nat.le_of_ble_eq_true rfl) d_M_promote_127 ⟨Nat.le_of_ble_eq_true rfl, Nat.le_of_ble_eq_true rfl⟩ (fun H locs hP hD hS => ?_)
                  obtain ⟨z16, ez16⟩ : ∃ zt_ : x_S, zt_ = x_fl z12 k := ⟨_, rfl⟩
                  rw [← ez16] at hP hD
                  refine lv_aload_n hx hb d_M_promote_130 rfl (lv_at hl 2 rfl) ?_
                  refine lv_iload_n hx hb d_M_promote_131 rfl (lv_at hl 3 rfl) ?_
                  refine x_V (rest := []) ⟨hx, hb, hml, hown, hts⟩ (c_M_redoJournal_ok l D cI cN ad z16 k hk) gm_353 gm_355 gm_14 gm_28 gm_356 ⟨rfl, rfl⟩ hd_M_redoJournal ⟨Nat.le_of_ble_eq_true rfl, Nat.le_of_ble_eq_true rfl⟩ hK hP hD hS hA (va_recv hK hP (ci := 4) (q0 := 0) rfl x_hM) rfl hl.1 rfl (Nat.le_of_ble_eq_true rfl) d_M_promote_132 ⟨Nat.le_of_ble_eq_true rfl, Nat.le_of_ble_eq_true rfl⟩ (fun H locs hP hD hS => ?_)
                  obtain ⟨z17, ez17⟩ : ∃ zt_ : x_S, zt_ = (x_redo z16 k).2 := ⟨_, rfl⟩
                  rw [← ez17] at hP hD
                  refine lv_topi (fun r18 er18 => ?_)
                  exact x_ri (w := x_w cI cN ad) (by subst er1 er3 er5 ez10 ez11 ez12 er14 ez16 ez17 er18; first | (simp only [x_promote, x_prom2, if_true, Bool.false_eq_true, if_false, if_neg c2, if_neg c4, if_pos c6, if_neg c7, if_pos c8, if_pos c15, x_cl hk]; done) | rfl | (simp only [x_promote, x_prom2, if_true, Bool.false_eq_true, if_false, if_neg c2, if_neg c4, if_pos c6, if_neg c7, if_pos c8, if_pos c15, x_cl hk]; rfl)) hx hb hr hlk hP hD hS d_M_promote_135
                · refine lv_aload_n hx hb d_M_promote_120 rfl (lv_at hl 2 rfl) ?_
                  refine lv_iload_n hx hb d_M_promote_121 rfl (lv_at hl 3 rfl) ?_
                  refine x_V (rest := []) ⟨hx, hb, hml, hown, hts⟩ (c_M_goAlone_ok l D cI cN ad z12 k hk) gm_199 gm_201 gm_2 gm_28 gm_202 ⟨rfl, rfl⟩ hd_M_goAlone ⟨Nat.le_of_ble_eq_true rfl, Nat.le_of_ble_eq_true rfl⟩ hK hP hD hS hA (va_recv hK hP (ci := 4) (q0 := 0) rfl x_hM) rfl hl.1 rfl (Nat.le_of_ble_eq_true rfl) d_M_promote_122 ⟨Nat.le_of_ble_eq_true rfl, Nat.le_of_ble_eq_true rfl⟩ (fun H locs hP hD hS => ?_)
                  obtain ⟨z19, ez19⟩ : ∃ zt_ : x_S, zt_ = x_goAl z12 k := ⟨_, rfl⟩
                  rw [← ez19] at hP hD
                  refine lv_aload_n hx hb d_M_promote_125 rfl (lv_at hl 2 rfl) ?_
                  refine lv_iload_n hx hb d_M_promote_126 rfl (lv_at hl 3 rfl) ?_
                  refine x_V (rest := []) ⟨hx, hb, hml, hown, hts⟩ (c_M_flushBy_ok l D cI cN ad z19 k hk) gm_207 gm_209 gm_4 gm_28 gm_210 ⟨rfl, rfl⟩ hd_M_flushBy ⟨Nat.le_of_ble_eq_true rfl, Nat.le_of_ble_eq_true rfl⟩ hK hP hD hS hA (va_recv hK hP (ci := 4) (q0 := 0) rfl x_hM) rfl hl.1 rfl (Nat.le_of_ble_eq_true rfl) d_M_promote_127 ⟨Nat.le_of_ble_eq_true rfl, Nat.le_of_ble_eq_true rfl⟩ (fun H locs hP hD hS => ?_)
                  obtain ⟨z20, ez20⟩ : ∃ zt_ : x_S, zt_ = x_fl z19 k := ⟨_, rfl⟩
                  rw [← ez20] at hP hD
                  refine lv_aload_n hx hb d_M_promote_130 rfl (lv_at hl 2 rfl) ?_
                  refine lv_iload_n hx hb d_M_promote_131 rfl (lv_at hl 3 rfl) ?_
                  refine x_V (rest := []) ⟨hx, hb, hml, hown, hts⟩ (c_M_redoJournal_ok l D cI cN ad z20 k hk) gm_353 gm_355 gm_14 gm_28 gm_356 ⟨rfl, rfl⟩ hd_M_redoJournal ⟨Nat.le_of_ble_eq_true rfl, Nat.le_of_ble_eq_true rfl⟩ hK hP hD hS hA (va_recv hK hP (ci := 4) (q0 := 0) rfl x_hM) rfl hl.1 rfl (Nat.le_of_ble_eq_true rfl) d_M_promote_132 ⟨Nat.le_of_ble_eq_true rfl, Nat.le_of_ble_eq_true rfl⟩ (fun H locs hP hD hS => ?_)
                  obtain ⟨z21, ez21⟩ : ∃ zt_ : x_S, zt_ = (x_redo z20 k).2 := ⟨_, rfl⟩
                  rw [← ez21] at hP hD
                  refine lv_topi (fun r22 er22 => ?_)
                  exact x_ri (w := x_w cI cN ad) (by subst er1 er3 er5 ez10 ez11 ez12 er14 ez19 ez20 ez21 er22; first | (simp only [x_promote, x_prom2, if_true, Bool.false_eq_true, if_false, if_neg c2, if_neg c4, if_pos c6, if_neg c7, if_pos c8, if_neg c15, x_cl hk]; done) | rfl | (simp only [x_promote, x_prom2, if_true, Bool.false_eq_true, if_false, if_neg c2, if_neg c4, if_pos c6, if_neg c7, if_pos c8, if_neg c15, x_cl hk]; rfl)) hx hb hr hlk hP hD hS d_M_promote_135
            · exact (c9 (by decide)).elim
          · refine lv_iconst (v := 1) hx hb d_M_promote_68 (by decide) ?_
            refine lv_goto (tgt := 73) hx hb d_M_promote_69 (by decide) ?_
            refine lv_istore (lv' := [(4, .int 1), (3, .ref (ad (6 + k))), (0, .ref (ad 0)), (1, .int (nI k)), (2, .int f)]) hx hb d_M_promote_73 hl (by decide) rfl (fun ls hl => ?_)
            refine lv_iload hx hb d_M_promote_75 (lv_at hl 0 rfl) ?_
            refine lv_if_eq (tgt := 87) hx hb d_M_promote_77 (by decide) (fun c23 => ?_) (fun c23 => ?_)
            · exact absurd c23 (by decide)
            · refine lv_iload_n hx hb d_M_promote_80 rfl (lv_at hl 4 rfl) ?_
              refine lv_if_ne (tgt := 87) hx hb d_M_promote_81 (by decide) (fun c24 => ?_) (fun c24 => ?_)
              · refine lv_aload_n hx hb d_M_promote_87 rfl (lv_at hl 2 rfl) ?_
                refine lv_iconst (v := 1) hx hb d_M_promote_88 (by decide) ?_
                refine lv_iload_n hx hb d_M_promote_89 rfl (lv_at hl 3 rfl) ?_
                refine lv_isub hx hb d_M_promote_90 ?_
                refine x_top (x_1k hk) ?_
                refine x_V (rest := []) ⟨hx, hb, hml, hown, hts⟩ (c_M_makeSecondary_ok l D cI cN ad z (1 - k) (x_1lt hk)) gm_240 gm_242 gm_7 gm_28 gm_243 ⟨rfl, rfl⟩ hd_M_makeSecondary ⟨Nat.le_of_ble_eq_true rfl, Nat.le_of_ble_eq_true rfl⟩ hK hP hD hS hA (va_recv hK hP (ci := 4) (q0 := 0) rfl x_hM) rfl hl.1 rfl (Nat.le_of_ble_eq_true rfl) d_M_promote_91 ⟨Nat.le_of_ble_eq_true rfl, Nat.le_of_ble_eq_true rfl⟩ (fun H locs hP hD hS => ?_)
                obtain ⟨z25, ez25⟩ : ∃ zt_ : x_S, zt_ = x_sec z (1 - k) := ⟨_, rfl⟩
                rw [← ez25] at hP hD
                refine lv_aload_n hx hb d_M_promote_94 rfl (lv_at hl 1 rfl) ?_
                refine lv_iconst (v := 1) hx hb d_M_promote_95 (by decide) ?_
                refine va_put (D := D) (ci := 2) (v := .int 1) (ty := .boolean) (C := R_N) (T := T_N) (N := 8) hx hb hts in_N fy_N fy_N_ok n_N hown hK hP hD hS (6 + k) (x_hN hk) rfl 2 (by decide) (hts _ gm_94) (fun _ h9 => h9) rfl (by decide +kernel) rfl rfl (Nat.le_of_ble_eq_true rfl) d_M_promote_96 (fun H locs hP hD hS => ?_)
                obtain ⟨z26, ez26⟩ : ∃ zt_ : x_S, zt_ = x_up z25 (5 + k) 1 1 := ⟨_, rfl⟩
                have hP : va_P D vwCl (x_w cI cN ad z26) H := by rw [ez26, ← x_sN (i := 1) hk (by decide) 1]; exact hP
                have hD : va_D A (x_w cI cN ad z26) := by rw [ez26, ← x_sN (i := 1) hk (by decide) 1]; exact hD
                refine lv_aload_n hx hb d_M_promote_99 rfl (lv_at hl 2 rfl) ?_
                refine va_get (D := D) (ci := 4) (C := R_M) (T := T_M) (N := 7) hx hb hts in_M hown hK hP 0 x_hM rfl 1 (by decide) (hts _ gm_155) (fun _ h9 => h9) rfl d_M_promote_100 ?_
                refine lv_iload_n hx hb d_M_promote_103 rfl (lv_at hl 3 rfl) ?_
                refine x_V (rest := []) ⟨hx, hb, hml, hown, hts⟩ (c_T_lendTo_ok l D cI cN ad z26 (nI k)) gm_345 gm_346 gm_347 gm_32 gm_348 ⟨rfl, rfl⟩ hd_T_lendTo ⟨Nat.le_of_ble_eq_true rfl, Nat.le_of_ble_eq_true rfl⟩ hK hP hD hS hA (va_recv hK hP (ci := 3) (q0 := 2) rfl x_hT) rfl hl.1 rfl (Nat.le_of_ble_eq_true rfl) d_M_promote_104 ⟨Nat.le_of_ble_eq_true rfl, Nat.le_of_ble_eq_true rfl⟩ (fun H locs hP hD hS => ?_)
                obtain ⟨z27, ez27⟩ : ∃ zt_ : x_S, zt_ = x_lend z26 (nI k) := ⟨_, rfl⟩
                rw [← ez27] at hP hD
                refine lv_iload hx hb d_M_promote_107 (lv_at hl 0 rfl) ?_
                refine lv_if_ne (tgt := 120) hx hb d_M_promote_109 (by decide) (fun c28 => ?_) (fun c28 => ?_)
                · refine lv_aload_n hx hb d_M_promote_120 rfl (lv_at hl 2 rfl) ?_
                  refine lv_iload_n hx hb d_M_promote_121 rfl (lv_at hl 3 rfl) ?_
                  refine x_V (rest := []) ⟨hx, hb, hml, hown, hts⟩ (c_M_goAlone_ok l D cI cN ad z27 k hk) gm_199 gm_201 gm_2 gm_28 gm_202 ⟨rfl, rfl⟩ hd_M_goAlone ⟨Nat.le_of_ble_eq_true rfl, Nat.le_of_ble_eq_true rfl⟩ hK hP hD hS hA (va_recv hK hP (ci := 4) (q0 := 0) rfl x_hM) rfl hl.1 rfl (Nat.le_of_ble_eq_true rfl) d_M_promote_122 ⟨Nat.le_of_ble_eq_true rfl, Nat.le_of_ble_eq_true rfl⟩ (fun H locs hP hD hS => ?_)
                  obtain ⟨z29, ez29⟩ : ∃ zt_ : x_S, zt_ = x_goAl z27 k := ⟨_, rfl⟩
                  rw [← ez29] at hP hD
                  refine lv_aload_n hx hb d_M_promote_125 rfl (lv_at hl 2 rfl) ?_
                  refine lv_iload_n hx hb d_M_promote_126 rfl (lv_at hl 3 rfl) ?_
                  refine x_V (rest := []) ⟨hx, hb, hml, hown, hts⟩ (c_M_flushBy_ok l D cI cN ad z29 k hk) gm_207 gm_209 gm_4 gm_28 gm_210 ⟨rfl, rfl⟩ hd_M_flushBy ⟨Nat.le_of_ble_eq_true rfl, Nat.le_of_ble_eq_true rfl⟩ hK hP hD hS hA (va_recv hK hP (ci := 4) (q0 := 0) rfl x_hM) rfl hl.1 rfl (Nat.le_of_ble_eq_true rfl) d_M_promote_127 ⟨Nat.le_of_ble_eq_true rfl, Nat.le_of_ble_eq_true rfl⟩ (fun H locs hP hD hS => ?_)
                  obtain ⟨z30, ez30⟩ : ∃ zt_ : x_S, zt_ = x_fl z29 k := ⟨_, rfl⟩
                  rw [← ez30] at hP hD
                  refine lv_aload_n hx hb d_M_promote_130 rfl (lv_at hl 2 rfl) ?_
                  refine lv_iload_n hx hb d_M_promote_131 rfl (lv_at hl 3 rfl) ?_
                  refine x_V (rest := []) ⟨hx, hb, hml, hown, hts⟩ (c_M_redoJournal_ok l D cI cN ad z30 k hk) gm_353 gm_355 gm_14 gm_28 gm_356 ⟨rfl, rfl⟩ hd_M_redoJournal ⟨Nat.le_of_ble_eq_true rfl, Nat.le_of_ble_eq_true rfl⟩ hK hP hD hS hA (va_recv hK hP (ci := 4) (q0 := 0) rfl x_hM) rfl hl.1 rfl (Nat.le_of_ble_eq_true rfl) d_M_promote_132 ⟨Nat.le_of_ble_eq_true rfl, Nat.le_of_ble_eq_true rfl⟩ (fun H locs hP hD hS => ?_)
                  obtain ⟨z31, ez31⟩ : ∃ zt_ : x_S, zt_ = (x_redo z30 k).2 := ⟨_, rfl⟩
                  rw [← ez31] at hP hD
                  refine lv_topi (fun r32 er32 => ?_)
                  exact x_ri (w := x_w cI cN ad) (by subst er1 er3 er5 ez25 ez26 ez27 ez29 ez30 ez31 er32; first | (simp only [x_promote, x_prom2, if_true, Bool.false_eq_true, if_false, if_neg c2, if_neg c4, if_pos c6, if_neg c7, if_neg c8, if_neg c24, x_cl hk]; done) | rfl | (simp only [x_promote, x_prom2, if_true, Bool.false_eq_true, if_false, if_neg c2, if_neg c4, if_pos c6, if_neg c7, if_neg c8, if_neg c24, x_cl hk]; rfl)) hx hb hr hlk hP hD hS d_M_promote_135
                · exact absurd c28 (by decide)
              · refine lv_bipush (v := (-5)) hx hb d_M_promote_84 (by decide) ?_
                exact x_ri (w := x_w cI cN ad) (by subst er1 er3 er5; first | (simp only [x_promote, x_prom2, if_true, Bool.false_eq_true, if_false, if_neg c2, if_neg c4, if_pos c6, if_neg c7, if_neg c8, if_pos c24, x_cl hk]; done) | rfl | (simp only [x_promote, x_prom2, if_true, Bool.false_eq_true, if_false, if_neg c2, if_neg c4, if_pos c6, if_neg c7, if_neg c8, if_pos c24, x_cl hk]; rfl)) hx hb hr hlk hP hD hS d_M_promote_86
        · refine lv_bipush (v := (-6)) hx hb d_M_promote_51 (by decide) ?_
          exact x_ri (w := x_w cI cN ad) (by subst er1 er3 er5; first | (simp only [x_promote, x_prom2, if_true, Bool.false_eq_true, if_false, if_neg c2, if_neg c4, if_pos c6, if_pos c7, x_cl hk]; done) | rfl | (simp only [x_promote, x_prom2, if_true, Bool.false_eq_true, if_false, if_neg c2, if_neg c4, if_pos c6, if_pos c7, x_cl hk]; rfl)) hx hb hr hlk hP hD hS d_M_promote_53
      · refine lv_bipush (v := (-4)) hx hb d_M_promote_41 (by decide) ?_
        exact x_ri (w := x_w cI cN ad) (by subst er1 er3 er5; first | (simp only [x_promote, x_prom2, if_true, Bool.false_eq_true, if_false, if_neg c2, if_neg c4, if_neg c6, x_cl hk]; done) | rfl | (simp only [x_promote, x_prom2, if_true, Bool.false_eq_true, if_false, if_neg c2, if_neg c4, if_neg c6, x_cl hk]; rfl)) hx hb hr hlk hP hD hS d_M_promote_43
    · refine lv_iconst (v := (-1)) hx hb d_M_promote_19 (by decide) ?_
      exact x_ri (w := x_w cI cN ad) (by subst er1 er3; first | (simp only [x_promote, x_prom2, if_true, Bool.false_eq_true, if_false, if_neg c2, if_pos c4, x_cl hk]; done) | rfl | (simp only [x_promote, x_prom2, if_true, Bool.false_eq_true, if_false, if_neg c2, if_pos c4, x_cl hk]; rfl)) hx hb hr hlk hP hD hS d_M_promote_20
set_option maxHeartbeats 4000000 in
set_option maxRecDepth 100000 in
theorem c_M_connect_ok (l : Launch) (D : va_G) (cI cN : ClassId) (ad : Nat → Nat) (z : x_S)  : x_C l y_M_connect c_M_connect 2 (some .int) { frames := 4, cells := 0, slots := 0, locals := 84 } D (x_ty cI cN) (x_w cI cN ad z) [.ref (ad 0)] (some (.int (x_connect z).1)) (x_w cI cN ad (x_connect z).2) := by
  refine x_C.of (by decide) (Nat.le_of_ble_eq_true rfl) ?_
  intro p e s m below meth c hx hb hr hml hts hown hlk A hA hK hS hP hD ls hl
  have hown : s.vm.findClass R_M = some m.cls := hown
  have hl : lv_has ls 2 [(0, .ref (ad 0))] := hl
  refine lv_aload_n hx hb d_M_connect_0 rfl (lv_at hl 0 rfl) ?_
  refine va_get (D := D) (ci := 4) (C := R_M) (T := T_M) (N := 7) hx hb hts in_M hown hK hP 0 x_hM rfl 4 (by decide) (hts _ gm_158) (fun _ h9 => h9) rfl d_M_connect_1 ?_
  refine lv_if_ne (tgt := 38) hx hb d_M_connect_4 (by decide) (fun c1 => ?_) (fun c1 => ?_)
  · refine lv_iconst (v := (-1)) hx hb d_M_connect_38 (by decide) ?_
    exact x_ri (w := x_w cI cN ad) (by first | (simp only [x_connect, x_conn3, if_neg c1]; done) | rfl | (simp only [x_connect, x_conn3, if_neg c1]; rfl)) hx hb hr hlk hP hD hS d_M_connect_39
  · refine lv_aload_n hx hb d_M_connect_7 rfl (lv_at hl 0 rfl) ?_
    refine va_get (D := D) (ci := 4) (C := R_M) (T := T_M) (N := 7) hx hb hts in_M hown hK hP 0 x_hM rfl 3 (by decide) (hts _ gm_157) (fun _ h9 => h9) rfl d_M_connect_8 ?_
    refine lv_if_eq (tgt := 38) hx hb d_M_connect_11 (by decide) (fun c2 => ?_) (fun c2 => ?_)
    · refine lv_iconst (v := (-1)) hx hb d_M_connect_38 (by decide) ?_
      exact x_ri (w := x_w cI cN ad) (by first | (simp only [x_connect, x_conn3, if_pos c1, if_pos c2]; done) | rfl | (simp only [x_connect, x_conn3, if_pos c1, if_pos c2]; rfl)) hx hb hr hlk hP hD hS d_M_connect_39
    · refine lv_aload_n hx hb d_M_connect_14 rfl (lv_at hl 0 rfl) ?_
      refine va_get (D := D) (ci := 4) (C := R_M) (T := T_M) (N := 7) hx hb hts in_M hown hK hP 0 x_hM rfl 0 (by decide) (hts _ gm_154) (fun _ h9 => h9) rfl d_M_connect_15 ?_
      refine lv_iconst (v := 0) hx hb d_M_connect_18 (by decide) ?_
      refine x_top (show (0 : Int32) = nI 0 from rfl) ?_
      refine va_aldq (D := D) hx hb hK hP 1 1 x_hA rfl (x_in2 (by decide)) d_M_connect_19 ?_
      refine x_topv x_nf_0 ?_
      refine va_get (D := D) (ci := 2) (C := R_N) (T := T_N) (N := 8) hx hb hts in_N hown hK hP 6 x_hN0 rfl 1 (by decide) (hts _ gm_92) (fun _ h9 => h9) rfl d_M_connect_20 ?_
      refine lv_if_eq (tgt := 38) hx hb d_M_connect_23 (by decide) (fun c3 => ?_) (fun c3 => ?_)
      · refine lv_iconst (v := (-1)) hx hb d_M_connect_38 (by decide) ?_
        exact x_ri (w := x_w cI cN ad) (by first | (simp only [x_connect, x_conn3, if_pos c1, if_neg c2, if_pos c3]; done) | rfl | (simp only [x_connect, x_conn3, if_pos c1, if_neg c2, if_pos c3]; rfl)) hx hb hr hlk hP hD hS d_M_connect_39
      · refine lv_aload_n hx hb d_M_connect_26 rfl (lv_at hl 0 rfl) ?_
        refine va_get (D := D) (ci := 4) (C := R_M) (T := T_M) (N := 7) hx hb hts in_M hown hK hP 0 x_hM rfl 0 (by decide) (hts _ gm_154) (fun _ h9 => h9) rfl d_M_connect_27 ?_
        refine lv_iconst (v := 1) hx hb d_M_connect_30 (by decide) ?_
        refine x_top (show (1 : Int32) = nI 1 from rfl) ?_
        refine va_aldq (D := D) hx hb hK hP 1 1 x_hA rfl (x_in2 (by decide)) d_M_connect_31 ?_
        refine x_topv x_nf_1 ?_
        refine va_get (D := D) (ci := 2) (C := R_N) (T := T_N) (N := 8) hx hb hts in_N hown hK hP 7 x_hN1 rfl 1 (by decide) (hts _ gm_92) (fun _ h9 => h9) rfl d_M_connect_32 ?_
        refine lv_if_ne (tgt := 40) hx hb d_M_connect_35 (by decide) (fun c4 => ?_) (fun c4 => ?_)
        · refine lv_aload_n hx hb d_M_connect_40 rfl (lv_at hl 0 rfl) ?_
          refine va_get (D := D) (ci := 4) (C := R_M) (T := T_M) (N := 7) hx hb hts in_M hown hK hP 0 x_hM rfl 0 (by decide) (hts _ gm_154) (fun _ h9 => h9) rfl d_M_connect_41 ?_
          refine lv_iconst (v := 0) hx hb d_M_connect_44 (by decide) ?_
          refine x_top (show (0 : Int32) = nI 0 from rfl) ?_
          refine va_aldq (D := D) hx hb hK hP 1 1 x_hA rfl (x_in2 (by decide)) d_M_connect_45 ?_
          refine x_topv x_nf_0 ?_
          refine va_get (D := D) (ci := 2) (C := R_N) (T := T_N) (N := 8) hx hb hts in_N hown hK hP 6 x_hN0 rfl 3 (by decide) (hts _ gm_96) (fun _ h9 => h9) rfl d_M_connect_46 ?_
          refine lv_if_ne (tgt := 67) hx hb d_M_connect_49 (by decide) (fun c5 => ?_) (fun c5 => ?_)
          · refine lv_aload_n hx hb d_M_connect_67 rfl (lv_at hl 0 rfl) ?_
            refine lv_aload_n hx hb d_M_connect_68 rfl (lv_at hl 0 rfl) ?_
            refine x_V (rest := [.ref (ad 0)]) ⟨hx, hb, hml, hown, hts⟩ (c_M_chooseSource_ok l D cI cN ad z) gm_295 gm_297 gm_9 gm_28 gm_298 ⟨rfl, rfl⟩ hd_M_chooseSource ⟨Nat.le_of_ble_eq_true rfl, Nat.le_of_ble_eq_true rfl⟩ hK hP hD hS hA (va_recv hK hP (ci := 4) (q0 := 0) rfl x_hM) rfl hl.1 rfl (Nat.le_of_ble_eq_true rfl) d_M_connect_69 ⟨Nat.le_of_ble_eq_true rfl, Nat.le_of_ble_eq_true rfl⟩ (fun H locs hP hD hS => ?_)
            refine lv_topi (fun r6 er6 => ?_)
            obtain ⟨s0, hs0, es⟩ := x_chooseE z
            have es : r6 = nI s0 := er6.trans es
            subst es
            refine va_put (D := D) (ci := 4) (v := .int (nI s0)) (ty := .int) (C := R_M) (T := T_M) (N := 7) hx hb hts in_M fy_M fy_M_ok n_M hown hK hP hD hS 0 x_hM rfl 6 (by decide) (hts _ gm_160) (fun _ h9 => h9) rfl (by decide +kernel) rfl rfl (Nat.le_of_ble_eq_true rfl) d_M_connect_72 (fun H locs hP hD hS => ?_)
            obtain ⟨z7, ez7⟩ : ∃ zt_ : x_S, zt_ = x_up z 0 3 (nI s0) := ⟨_, rfl⟩
            have hP : va_P D vwCl (x_w cI cN ad z7) H := by rw [ez7, ← x_sM (i := 3) (by decide) (nI s0)]; exact hP
            have hD : va_D A (x_w cI cN ad z7) := by rw [ez7, ← x_sM (i := 3) (by decide) (nI s0)]; exact hD
            refine lv_aload_n hx hb d_M_connect_75 rfl (lv_at hl 0 rfl) ?_
            refine x_V (rest := []) ⟨hx, hb, hml, hown, hts⟩ (c_M_extentsThatMayDiffer_ok l D cI cN ad z7 s0 hs0 (by subst ez7; rfl)) gm_299 gm_301 gm_10 gm_28 gm_302 ⟨rfl, rfl⟩ hd_M_extentsThatMayDiffer ⟨Nat.le_of_ble_eq_true rfl, Nat.le_of_ble_eq_true rfl⟩ hK hP hD hS hA (va_recv hK hP (ci := 4) (q0 := 0) rfl x_hM) rfl hl.1 rfl (Nat.le_of_ble_eq_true rfl) d_M_connect_76 ⟨Nat.le_of_ble_eq_true rfl, Nat.le_of_ble_eq_true rfl⟩ (fun H locs hP hD hS => ?_)
            refine lv_topi (fun r8 er8 => ?_)
            refine lv_istore_n (lv' := [(1, .int r8), (0, .ref (ad 0))]) hx hb d_M_connect_79 rfl hl (by decide) rfl (fun ls hl => ?_)
            refine lv_aload_n hx hb d_M_connect_80 rfl (lv_at hl 1 rfl) ?_
            refine lv_iconst (v := 1) hx hb d_M_connect_81 (by decide) ?_
            refine va_put (D := D) (ci := 4) (v := .int 1) (ty := .boolean) (C := R_M) (T := T_M) (N := 7) hx hb hts in_M fy_M fy_M_ok n_M hown hK hP hD hS 0 x_hM rfl 4 (by decide) (hts _ gm_158) (fun _ h9 => h9) rfl (by decide +kernel) rfl rfl (Nat.le_of_ble_eq_true rfl) d_M_connect_82 (fun H locs hP hD hS => ?_)
            obtain ⟨z9, ez9⟩ : ∃ zt_ : x_S, zt_ = x_up z7 0 1 1 := ⟨_, rfl⟩
            have hP : va_P D vwCl (x_w cI cN ad z9) H := by rw [ez9, ← x_sM (i := 1) (by decide) 1]; exact hP
            have hD : va_D A (x_w cI cN ad z9) := by rw [ez9, ← x_sM (i := 1) (by decide) 1]; exact hD
            refine lv_iload_n hx hb d_M_connect_85 rfl (lv_at hl 0 rfl) ?_
            refine lv_if_ne (tgt := 96) hx hb d_M_connect_86 (by decide) (fun c10 => ?_) (fun c10 => ?_)
            · refine lv_aload_n hx hb d_M_connect_96 rfl (lv_at hl 1 rfl) ?_
              refine lv_iload_n hx hb d_M_connect_97 rfl (lv_at hl 0 rfl) ?_
              refine x_V (rest := []) ⟨hx, hb, hml, hown, hts⟩ (c_M_startSync_ok l D cI cN ad z9 s0 hs0 (by subst ez7 ez9; rfl) r8) gm_307 gm_309 gm_12 gm_28 gm_310 ⟨rfl, rfl⟩ hd_M_startSync ⟨Nat.le_of_ble_eq_true rfl, Nat.le_of_ble_eq_true rfl⟩ hK hP hD hS hA (va_recv hK hP (ci := 4) (q0 := 0) rfl x_hM) rfl hl.1 rfl (Nat.le_of_ble_eq_true rfl) d_M_connect_98 ⟨Nat.le_of_ble_eq_true rfl, Nat.le_of_ble_eq_true rfl⟩ (fun H locs hP hD hS => ?_)
              obtain ⟨z11, ez11⟩ : ∃ zt_ : x_S, zt_ = x_start z9 s0 r8 := ⟨_, rfl⟩
              rw [← ez11] at hP hD
              refine lv_iload_n hx hb d_M_connect_101 rfl (lv_at hl 0 rfl) ?_
              refine x_T (rest := []) ⟨hx, hb, hml, hown, hts⟩ (c_J_bitCount_ok l D cI cN ad z11 r8) gm_311 gm_312 gm_36 gm_313 ⟨rfl, rfl⟩ hd_J_bitCount ⟨Nat.le_of_ble_eq_true rfl, Nat.le_of_ble_eq_true rfl⟩ hK hP hD hS hA rfl hl.1 rfl (Nat.le_of_ble_eq_true rfl) d_M_connect_102 ⟨Nat.le_of_ble_eq_true rfl, Nat.le_of_ble_eq_true rfl⟩ (fun H locs hP hD hS => ?_)
              refine lv_topi (fun r12 er12 => ?_)
              exact x_ri (w := x_w cI cN ad) (by subst ez7 er8 ez9 ez11 er12; first | (simp only [x_connect, x_conn3, if_pos c1, if_neg c2, if_neg c3, if_neg c4, if_neg c5, if_neg c10, ← er6, x_cl hs0]; done) | rfl | (simp only [x_connect, x_conn3, if_pos c1, if_neg c2, if_neg c3, if_neg c4, if_neg c5, if_neg c10, ← er6, x_cl hs0]; rfl)) hx hb hr hlk hP hD hS d_M_connect_105
            · refine lv_aload_n hx hb d_M_connect_89 rfl (lv_at hl 1 rfl) ?_
              refine x_V (rest := []) ⟨hx, hb, hml, hown, hts⟩ (c_M_finishSync_ok l D cI cN ad z9 s0 hs0 (by subst ez7 ez9; rfl)) gm_303 gm_305 gm_11 gm_28 gm_306 ⟨rfl, rfl⟩ hd_M_finishSync ⟨Nat.le_of_ble_eq_true rfl, Nat.le_of_ble_eq_true rfl⟩ hK hP hD hS hA (va_recv hK hP (ci := 4) (q0 := 0) rfl x_hM) rfl hl.1 rfl (Nat.le_of_ble_eq_true rfl) d_M_connect_90 ⟨Nat.le_of_ble_eq_true rfl, Nat.le_of_ble_eq_true rfl⟩ (fun H locs hP hD hS => ?_)
              obtain ⟨z13, ez13⟩ : ∃ zt_ : x_S, zt_ = x_fin z9 s0 := ⟨_, rfl⟩
              rw [← ez13] at hP hD
              refine lv_goto (tgt := 101) hx hb d_M_connect_93 (by decide) ?_
              refine lv_iload_n hx hb d_M_connect_101 rfl (lv_at hl 0 rfl) ?_
              refine x_T (rest := []) ⟨hx, hb, hml, hown, hts⟩ (c_J_bitCount_ok l D cI cN ad z13 r8) gm_311 gm_312 gm_36 gm_313 ⟨rfl, rfl⟩ hd_J_bitCount ⟨Nat.le_of_ble_eq_true rfl, Nat.le_of_ble_eq_true rfl⟩ hK hP hD hS hA rfl hl.1 rfl (Nat.le_of_ble_eq_true rfl) d_M_connect_102 ⟨Nat.le_of_ble_eq_true rfl, Nat.le_of_ble_eq_true rfl⟩ (fun H locs hP hD hS => ?_)
              refine lv_topi (fun r14 er14 => ?_)
              exact x_ri (w := x_w cI cN ad) (by subst ez7 er8 ez9 ez13 er14; first | (simp only [x_connect, x_conn3, if_pos c1, if_neg c2, if_neg c3, if_neg c4, if_neg c5, if_pos c10, ← er6, x_cl hs0]; done) | rfl | (simp only [x_connect, x_conn3, if_pos c1, if_neg c2, if_neg c3, if_neg c4, if_neg c5, if_pos c10, ← er6, x_cl hs0]; rfl)) hx hb hr hlk hP hD hS d_M_connect_105
          · refine lv_aload_n hx hb d_M_connect_52 rfl (lv_at hl 0 rfl) ?_
            refine va_get (D := D) (ci := 4) (C := R_M) (T := T_M) (N := 7) hx hb hts in_M hown hK hP 0 x_hM rfl 0 (by decide) (hts _ gm_154) (fun _ h9 => h9) rfl d_M_connect_53 ?_
            refine lv_iconst (v := 1) hx hb d_M_connect_56 (by decide) ?_
            refine x_top (show (1 : Int32) = nI 1 from rfl) ?_
            refine va_aldq (D := D) hx hb hK hP 1 1 x_hA rfl (x_in2 (by decide)) d_M_connect_57 ?_
            refine x_topv x_nf_1 ?_
            refine va_get (D := D) (ci := 2) (C := R_N) (T := T_N) (N := 8) hx hb hts in_N hown hK hP 7 x_hN1 rfl 3 (by decide) (hts _ gm_96) (fun _ h9 => h9) rfl d_M_connect_58 ?_
            refine lv_if_ne (tgt := 67) hx hb d_M_connect_61 (by decide) (fun c15 => ?_) (fun c15 => ?_)
            · refine lv_aload_n hx hb d_M_connect_67 rfl (lv_at hl 0 rfl) ?_
              refine lv_aload_n hx hb d_M_connect_68 rfl (lv_at hl 0 rfl) ?_
              refine x_V (rest := [.ref (ad 0)]) ⟨hx, hb, hml, hown, hts⟩ (c_M_chooseSource_ok l D cI cN ad z) gm_295 gm_297 gm_9 gm_28 gm_298 ⟨rfl, rfl⟩ hd_M_chooseSource ⟨Nat.le_of_ble_eq_true rfl, Nat.le_of_ble_eq_true rfl⟩ hK hP hD hS hA (va_recv hK hP (ci := 4) (q0 := 0) rfl x_hM) rfl hl.1 rfl (Nat.le_of_ble_eq_true rfl) d_M_connect_69 ⟨Nat.le_of_ble_eq_true rfl, Nat.le_of_ble_eq_true rfl⟩ (fun H locs hP hD hS => ?_)
              refine lv_topi (fun r16 er16 => ?_)
              obtain ⟨s0, hs0, es⟩ := x_chooseE z
              have es : r16 = nI s0 := er16.trans es
              subst es
              refine va_put (D := D) (ci := 4) (v := .int (nI s0)) (ty := .int) (C := R_M) (T := T_M) (N := 7) hx hb hts in_M fy_M fy_M_ok n_M hown hK hP hD hS 0 x_hM rfl 6 (by decide) (hts _ gm_160) (fun _ h9 => h9) rfl (by decide +kernel) rfl rfl (Nat.le_of_ble_eq_true rfl) d_M_connect_72 (fun H locs hP hD hS => ?_)
              obtain ⟨z17, ez17⟩ : ∃ zt_ : x_S, zt_ = x_up z 0 3 (nI s0) := ⟨_, rfl⟩
              have hP : va_P D vwCl (x_w cI cN ad z17) H := by rw [ez17, ← x_sM (i := 3) (by decide) (nI s0)]; exact hP
              have hD : va_D A (x_w cI cN ad z17) := by rw [ez17, ← x_sM (i := 3) (by decide) (nI s0)]; exact hD
              refine lv_aload_n hx hb d_M_connect_75 rfl (lv_at hl 0 rfl) ?_
              refine x_V (rest := []) ⟨hx, hb, hml, hown, hts⟩ (c_M_extentsThatMayDiffer_ok l D cI cN ad z17 s0 hs0 (by subst ez17; rfl)) gm_299 gm_301 gm_10 gm_28 gm_302 ⟨rfl, rfl⟩ hd_M_extentsThatMayDiffer ⟨Nat.le_of_ble_eq_true rfl, Nat.le_of_ble_eq_true rfl⟩ hK hP hD hS hA (va_recv hK hP (ci := 4) (q0 := 0) rfl x_hM) rfl hl.1 rfl (Nat.le_of_ble_eq_true rfl) d_M_connect_76 ⟨Nat.le_of_ble_eq_true rfl, Nat.le_of_ble_eq_true rfl⟩ (fun H locs hP hD hS => ?_)
              refine lv_topi (fun r18 er18 => ?_)
              refine lv_istore_n (lv' := [(1, .int r18), (0, .ref (ad 0))]) hx hb d_M_connect_79 rfl hl (by decide) rfl (fun ls hl => ?_)
              refine lv_aload_n hx hb d_M_connect_80 rfl (lv_at hl 1 rfl) ?_
              refine lv_iconst (v := 1) hx hb d_M_connect_81 (by decide) ?_
              refine va_put (D := D) (ci := 4) (v := .int 1) (ty := .boolean) (C := R_M) (T := T_M) (N := 7) hx hb hts in_M fy_M fy_M_ok n_M hown hK hP hD hS 0 x_hM rfl 4 (by decide) (hts _ gm_158) (fun _ h9 => h9) rfl (by decide +kernel) rfl rfl (Nat.le_of_ble_eq_true rfl) d_M_connect_82 (fun H locs hP hD hS => ?_)
              obtain ⟨z19, ez19⟩ : ∃ zt_ : x_S, zt_ = x_up z17 0 1 1 := ⟨_, rfl⟩
              have hP : va_P D vwCl (x_w cI cN ad z19) H := by rw [ez19, ← x_sM (i := 1) (by decide) 1]; exact hP
              have hD : va_D A (x_w cI cN ad z19) := by rw [ez19, ← x_sM (i := 1) (by decide) 1]; exact hD
              refine lv_iload_n hx hb d_M_connect_85 rfl (lv_at hl 0 rfl) ?_
              refine lv_if_ne (tgt := 96) hx hb d_M_connect_86 (by decide) (fun c20 => ?_) (fun c20 => ?_)
              · refine lv_aload_n hx hb d_M_connect_96 rfl (lv_at hl 1 rfl) ?_
                refine lv_iload_n hx hb d_M_connect_97 rfl (lv_at hl 0 rfl) ?_
                refine x_V (rest := []) ⟨hx, hb, hml, hown, hts⟩ (c_M_startSync_ok l D cI cN ad z19 s0 hs0 (by subst ez17 ez19; rfl) r18) gm_307 gm_309 gm_12 gm_28 gm_310 ⟨rfl, rfl⟩ hd_M_startSync ⟨Nat.le_of_ble_eq_true rfl, Nat.le_of_ble_eq_true rfl⟩ hK hP hD hS hA (va_recv hK hP (ci := 4) (q0 := 0) rfl x_hM) rfl hl.1 rfl (Nat.le_of_ble_eq_true rfl) d_M_connect_98 ⟨Nat.le_of_ble_eq_true rfl, Nat.le_of_ble_eq_true rfl⟩ (fun H locs hP hD hS => ?_)
                obtain ⟨z21, ez21⟩ : ∃ zt_ : x_S, zt_ = x_start z19 s0 r18 := ⟨_, rfl⟩
                rw [← ez21] at hP hD
                refine lv_iload_n hx hb d_M_connect_101 rfl (lv_at hl 0 rfl) ?_
                refine x_T (rest := []) ⟨hx, hb, hml, hown, hts⟩ (c_J_bitCount_ok l D cI cN ad z21 r18) gm_311 gm_312 gm_36 gm_313 ⟨rfl, rfl⟩ hd_J_bitCount ⟨Nat.le_of_ble_eq_true rfl, Nat.le_of_ble_eq_true rfl⟩ hK hP hD hS hA rfl hl.1 rfl (Nat.le_of_ble_eq_true rfl) d_M_connect_102 ⟨Nat.le_of_ble_eq_true rfl, Nat.le_of_ble_eq_true rfl⟩ (fun H locs hP hD hS => ?_)
                refine lv_topi (fun r22 er22 => ?_)
                exact x_ri (w := x_w cI cN ad) (by subst ez17 er18 ez19 ez21 er22; first | (simp only [x_connect, x_conn3, if_pos c1, if_neg c2, if_neg c3, if_neg c4, if_pos c5, if_neg c15, if_neg c20, ← er16, x_cl hs0]; done) | rfl | (simp only [x_connect, x_conn3, if_pos c1, if_neg c2, if_neg c3, if_neg c4, if_pos c5, if_neg c15, if_neg c20, ← er16, x_cl hs0]; rfl)) hx hb hr hlk hP hD hS d_M_connect_105
              · refine lv_aload_n hx hb d_M_connect_89 rfl (lv_at hl 1 rfl) ?_
                refine x_V (rest := []) ⟨hx, hb, hml, hown, hts⟩ (c_M_finishSync_ok l D cI cN ad z19 s0 hs0 (by subst ez17 ez19; rfl)) gm_303 gm_305 gm_11 gm_28 gm_306 ⟨rfl, rfl⟩ hd_M_finishSync ⟨Nat.le_of_ble_eq_true rfl, Nat.le_of_ble_eq_true rfl⟩ hK hP hD hS hA (va_recv hK hP (ci := 4) (q0 := 0) rfl x_hM) rfl hl.1 rfl (Nat.le_of_ble_eq_true rfl) d_M_connect_90 ⟨Nat.le_of_ble_eq_true rfl, Nat.le_of_ble_eq_true rfl⟩ (fun H locs hP hD hS => ?_)
                obtain ⟨z23, ez23⟩ : ∃ zt_ : x_S, zt_ = x_fin z19 s0 := ⟨_, rfl⟩
                rw [← ez23] at hP hD
                refine lv_goto (tgt := 101) hx hb d_M_connect_93 (by decide) ?_
                refine lv_iload_n hx hb d_M_connect_101 rfl (lv_at hl 0 rfl) ?_
                refine x_T (rest := []) ⟨hx, hb, hml, hown, hts⟩ (c_J_bitCount_ok l D cI cN ad z23 r18) gm_311 gm_312 gm_36 gm_313 ⟨rfl, rfl⟩ hd_J_bitCount ⟨Nat.le_of_ble_eq_true rfl, Nat.le_of_ble_eq_true rfl⟩ hK hP hD hS hA rfl hl.1 rfl (Nat.le_of_ble_eq_true rfl) d_M_connect_102 ⟨Nat.le_of_ble_eq_true rfl, Nat.le_of_ble_eq_true rfl⟩ (fun H locs hP hD hS => ?_)
                refine lv_topi (fun r24 er24 => ?_)
                exact x_ri (w := x_w cI cN ad) (by subst ez17 er18 ez19 ez23 er24; first | (simp only [x_connect, x_conn3, if_pos c1, if_neg c2, if_neg c3, if_neg c4, if_pos c5, if_neg c15, if_pos c20, ← er16, x_cl hs0]; done) | rfl | (simp only [x_connect, x_conn3, if_pos c1, if_neg c2, if_neg c3, if_neg c4, if_pos c5, if_neg c15, if_pos c20, ← er16, x_cl hs0]; rfl)) hx hb hr hlk hP hD hS d_M_connect_105
            · refine lv_bipush (v := (-6)) hx hb d_M_connect_64 (by decide) ?_
              exact x_ri (w := x_w cI cN ad) (by first | (simp only [x_connect, x_conn3, if_pos c1, if_neg c2, if_neg c3, if_neg c4, if_pos c5, if_pos c15]; done) | rfl | (simp only [x_connect, x_conn3, if_pos c1, if_neg c2, if_neg c3, if_neg c4, if_pos c5, if_pos c15]; rfl)) hx hb hr hlk hP hD hS d_M_connect_66
        · refine lv_iconst (v := (-1)) hx hb d_M_connect_38 (by decide) ?_
          exact x_ri (w := x_w cI cN ad) (by first | (simp only [x_connect, x_conn3, if_pos c1, if_neg c2, if_neg c3, if_pos c4]; done) | rfl | (simp only [x_connect, x_conn3, if_pos c1, if_neg c2, if_neg c3, if_pos c4]; rfl)) hx hb hr hlk hP hD hS d_M_connect_39
end
section
-- ===== 14.xrows: rows that the steps leave alone; commit and resync
theorem x_put_row {z : x_S} {k b a : Nat} {v : Int32} (h9 : a ≠ 9 + k) (h5 : a ≠ 5 + k) : x_put z k b v a = z a := by
  unfold x_put
  rw [x_up_row h5, x_up_row h9]
theorem x_setB_row {z : x_S} {k i a : Nat} {keep : Int32} (h : a ≠ 7 + k) : x_setB z k keep i a = z a := by
  unfold x_setB
  split
  · rfl
  · split
    · exact x_up_row h
    · rfl
theorem x_setL_row {k a : Nat} {keep : Int32} (h : a ≠ 7 + k) : ∀ (n i : Nat) (z : x_S), x_setL k keep n i z a = z a
  | 0, _, _ => rfl
  | n + 1, i, z => by rw [x_setL, x_setL_row h n, x_setB_row h]
theorem x_settle_row {z : x_S} {k a : Nat} {keep : Int32} (h7 : a ≠ 7 + k) (h5 : a ≠ 5 + k) : x_settle z k keep a = z a := by
  unfold x_settle
  rw [x_up_row h5, x_setL_row h7]
theorem x_flush_row {z : x_S} {k a : Nat} (h7 : a ≠ 7 + k) (h5 : a ≠ 5 + k) : x_flush z k a = z a := x_settle_row h7 h5
theorem x_wr_low {z : x_S} {k b a : Nat} {v : Int32} (h : a ≤ 4) : x_wr z k b v a = z a := by
  unfold x_wr
  try dsimp only
  split
  · rw [x_up_row (by omega), x_put_row (by omega) (by omega)]
  · rw [x_put_row (by omega) (by omega), x_put_row (by omega) (by omega)]
theorem x_fl_low {z : x_S} {k a : Nat} (h : a ≤ 4) : x_fl z k a = z a := by
  unfold x_fl
  try dsimp only
  split
  · rw [x_flush_row (by omega) (by omega)]
  · rw [x_flush_row (by omega) (by omega), x_flush_row (by omega) (by omega)]
theorem x_step_low {z : x_S} {k n t a : Nat} (h : a ≤ 4) : x_step z k n t a = z a := by
  unfold x_step
  repeat' split
  all_goals first | rfl | exact x_fl_low h | exact x_wr_low h
theorem x_goAl_low {z : x_S} {k a : Nat} (h : a ≤ 4) (h1 : a ≠ 1) : x_goAl z k a = z a := by
  unfold x_goAl
  try dsimp only
  rw [x_up_row (by omega), x_up_row (by omega), x_up_row (by omega), x_up_row h1]
def x_comL (k n : Nat) : Nat → Nat → x_S → x_S
  | 0, _, z => z
  | m + 1, t, z => x_comL k n m (t + 1) (x_step z k n t)
theorem x_comL_low {k n a : Nat} (h : a ≤ 4) : ∀ (m t : Nat) (z : x_S), x_comL k n m t z a = z a
  | 0, _, _ => rfl
  | m + 1, t, z => by rw [x_comL, x_comL_low h m, x_step_low h]
def x_comB (z : x_S) (k n : Nat) (cut keep : Int32) : Int32 × x_S := if cut < 0 then (0, x_up (x_comL k n (3 * n + 7) 0 z) 2 0 0) else if nI (3 * n + 7) ≤ cut then (0, x_up (x_comL k n (3 * n + 7) 0 z) 2 0 0) else (-7, x_bring (x_comL k n cut.toNatClampNeg 0 z) k keep)
def x_commit (z : x_S) (n : Nat) (cut keep : Int32) : Int32 × x_S := if x_findP z = 2 then (-1, z) else if n = 0 then (-1, z) else
  let k := (x_findP z).toNatClampNeg
  if x_unp z k = 0 then x_comB z k n cut keep else if z (5 + k) 6 = 0 then (-3, z) else x_comB (x_goAl z k) k n cut keep
def x_rsB (z : x_S) (s : Nat) : x_S := x_cp (x_up z (5 + s) 5 (z (5 + s) 5 &&& ((1 <<< (x_ntz (z (5 + s) 5) &&& 31)) ^^^ (-1)))) s (x_ntz (z (5 + s) 5)).toNatClampNeg
def x_rsL (s : Nat) : Nat → x_S → x_S
  | 0, z => z
  | n + 1, z => if z (5 + s) 5 = 0 then z else x_rsL s n (x_rsB z s)
def x_rsT (z : x_S) (s : Nat) : Int32 × x_S := if x_bc (z (5 + s) 5) = 0 then (x_bc (z (5 + s) 5), x_fin z s) else (x_bc (z (5 + s) 5), z)
def x_resync (z : x_S) (a : Int32) : Int32 × x_S := if a < 1 then (-1, z) else if 4 < a then (-1, z) else if z 0 2 = 0 then (-1, z) else x_rsT (x_rsL (z 0 3).toNatClampNeg a.toNatClampNeg z) (z 0 3).toNatClampNeg
def x_low (m : Nat) : Nat := if m % 2 = 1 then 0 else if m / 2 % 2 = 1 then 1 else if m / 4 % 2 = 1 then 2 else if m / 8 % 2 = 1 then 3 else if m / 16 % 2 = 1 then 4 else if m / 32 % 2 = 1 then 5 else if m / 64 % 2 = 1 then 6 else 7
theorem x_low_lt (m : Nat) : x_low m < 8 := by unfold x_low; repeat' split
                                               all_goals omega
theorem x_ntz_low : ∀ m, m < 256 → 0 < m → x_ntz (nI m) = nI (x_low m) := by decide +kernel
theorem x_clr : ∀ m, m < 256 → 0 < m → nI m &&& ((1 <<< (nI (x_low m) &&& 31)) ^^^ (-1)) = nI (m - 2 ^ x_low m) := by decide +kernel
theorem x_cpL_row {s a : Nat} (h9 : a ≠ 9 + (1 - s)) (h5 : a ≠ 5 + (1 - s)) : ∀ (n i : Nat) (z : x_S), x_cpL s n i z a = z a
  | 0, _, _ => rfl
  | n + 1, i, z => by rw [x_cpL, x_cpL_row h9 h5 n, x_put_row h9 h5]
theorem x_cp_row {z : x_S} {s e a : Nat} (h9 : a ≠ 9 + (1 - s)) (h5 : a ≠ 5 + (1 - s)) : x_cp z s e a = z a := x_cpL_row h9 h5 _ _ _
theorem x_rsB_0 {z : x_S} {s : Nat} (hs : s < 2) : x_rsB z s 0 = z 0 := by
  unfold x_rsB
  rw [x_cp_row (by omega) (by omega), x_up_row (by omega)]
theorem x_rsB_m {z : x_S} {s m : Nat} (hs : s < 2) (hm : m < 256) (h0 : 0 < m) (h : z (5 + s) 5 = nI m) : x_rsB z s (5 + s) 5 = nI (m - 2 ^ x_low m) := by
  unfold x_rsB
  rw [x_cp_row (by omega) (by omega), x_up_eq, h, x_ntz_low m hm h0, x_clr m hm h0]
end
section
-- ===== 15.x6: commit, resync
theorem x_oneTo4 {r : Int32} (h1 : ¬ r < 1) (h4 : ¬ 4 < r) : ∃ e : Nat, 1 ≤ e ∧ e ≤ 4 ∧ r = nI e := by
  have h0 : ¬ r < 0 := fun h => h1 (Int32.lt_trans h (by decide))
  obtain ⟨j, hj, rfl⟩ := nI_of h0
  refine ⟨j, ?_, ?_, rfl⟩
  · rcases Nat.lt_or_ge j 1 with q | q
    · exact absurd (show nI j < nI 1 from nI_lt q (by decide)) h1
    · exact q
  · rcases Nat.lt_or_ge 4 j with q | q
    · exact absurd (show nI 4 < nI j from nI_lt q (by omega)) h4
    · exact q
set_option maxHeartbeats 4000000 in
set_option maxRecDepth 100000 in
theorem c_M_commit_ok (l : Launch) (D : va_G) (cI cN : ClassId) (ad : Nat → Nat) (z : x_S) (sz : Nat) (hsz : sz ≤ 3) (hz : z 2 0 = nI sz) (hcell : ∀ j, j < sz → ∃ b, b < 24 ∧ z 3 j = nI b) (cut keep : Int32) : x_C l y_M_commit c_M_commit 8 (some .int) { frames := 5, cells := 0, slots := 0, locals := 111 } D (x_ty cI cN) (x_w cI cN ad z) [.ref (ad 0), .int cut, .int keep] (some (.int (x_commit z sz cut keep).1)) (x_w cI cN ad (x_commit z sz cut keep).2) := by
  refine x_C.of (by decide) (Nat.le_of_ble_eq_true rfl) ?_
  intro p e s m below meth c hx hb hr hml hts hown hlk A hA hK hS hP hD ls hl
  have hown : s.vm.findClass R_M = some m.cls := hown
  have hl : lv_has ls 8 [(0, .ref (ad 0)), (1, .int cut), (2, .int keep)] := hl
  have body : ∀ (y : x_S) (k : Nat) (hk : k < 2) (H : Heap) (locs : List Loc) (ls : Array Slot), y 2 0 = nI sz → (∀ j, j < sz → ∃ b, b < 24 ∧ y 3 j = nI b) → x_commit z sz cut keep = x_comB y k sz cut keep → va_P D vwCl (x_w cI cN ad y) H → va_D A (x_w cI cN ad y) → va_S A s.heap H locs → lv_has ls 8 [(3, .int (nI k)), (0, .ref (ad 0)), (1, .int cut), (2, .int keep)] → W p l e { frames := 5, cells := 0, slots := 0, locals := 111 } s m [.ref (ad 0), .int cut, .int keep].toArray below meth c H locs 0 0 (MQ below (x_Q (some (.int (x_commit z sz cut keep).1)) D (x_w cI cN ad (x_commit z sz cut keep).2) A) [.ref (ad 0), .int cut, .int keep].toArray s 0 0 A) (F0 m 50 ls []) := by
    intro y k hk H locs ls hzy hcy hG hP hD hS hl
    have lp0 : ∀ (n i : Nat) (w : x_S) (d : Nat) (H : Heap) (locs : List Loc) (ls : Array Slot), i + n = d → d ≤ 3 * sz + 7 → w 2 0 = nI sz → (∀ j, j < sz → ∃ b, b < 24 ∧ w 3 j = nI b) → x_commit z sz cut keep = (0, x_up (x_comL k sz n i w) 2 0 0) → va_P D vwCl (x_w cI cN ad w) H → va_D A (x_w cI cN ad w) → va_S A s.heap H locs → lv_has ls 8 [(7, .int (nI i)), (6, .int (nI d)), (5, .int 0), (3, .int (nI k)), (0, .ref (ad 0)), (2, .int keep)] → W p l e { frames := 5, cells := 0, slots := 0, locals := 111 } s m [.ref (ad 0), .int cut, .int keep].toArray below meth c H locs 0 0 (MQ below (x_Q (some (.int (x_commit z sz cut keep).1)) D (x_w cI cN ad (x_commit z sz cut keep).2) A) [.ref (ad 0), .int cut, .int keep].toArray s 0 0 A) (F0 m 97 ls []) := by
      intro n
      induction n with
      | zero =>
        intro i w d H locs ls hn hd hzw hcw hI hP hD hS hl
        refine lv_iload hx hb d_M_commit_97 (lv_at hl 0 rfl) ?_
        refine lv_iload hx hb d_M_commit_99 (lv_at hl 1 rfl) ?_
        refine lv_icmp_ge (tgt := 117) hx hb d_M_commit_101 (by decide) (fun c1 => ?_) (fun c1 => ?_)
        · have c1 : d ≤ i := (nI_leI (a := d) (b := i) (by omega) (by omega)).mp c1
          refine lv_iload hx hb d_M_commit_117 (lv_at hl 2 rfl) ?_
          refine lv_if_eq (tgt := 131) hx hb d_M_commit_119 (by decide) (fun c2 => ?_) (fun c2 => ?_)
          · refine lv_aload_n hx hb d_M_commit_131 rfl (lv_at hl 4 rfl) ?_
            refine va_get (D := D) (ci := 4) (C := R_M) (T := T_M) (N := 7) hx hb hts in_M hown hK hP 0 x_hM rfl 2 (by decide) (hts _ gm_156) (fun _ h9 => h9) rfl d_M_commit_132 ?_
            refine lv_iconst (v := 0) hx hb d_M_commit_135 (by decide) ?_
            refine va_put (D := D) (ci := 0) (v := .int 0) (ty := .int) (C := R_B) (T := T_B) (N := 3) hx hb hts in_B fy_B fy_B_ok n_B hown hK hP hD hS 3 x_hB rfl 2 (by decide) (hts _ gm_58) (fun _ h9 => h9) rfl (by decide +kernel) rfl rfl (Nat.le_of_ble_eq_true rfl) d_M_commit_136 (fun H locs hP hD hS => ?_)
            obtain ⟨z3, ez3⟩ : ∃ zt_ : x_S, zt_ = x_up w 2 0 0 := ⟨_, rfl⟩
            have hP : va_P D vwCl (x_w cI cN ad z3) H := by rw [ez3, ← x_sB 0]; exact hP
            have hD : va_D A (x_w cI cN ad z3) := by rw [ez3, ← x_sB 0]; exact hD
            refine lv_iconst (v := 0) hx hb d_M_commit_139 (by decide) ?_
            exact x_ri (w := x_w cI cN ad) (by subst ez3; rw [hI]; rfl) hx hb hr hlk hP hD hS d_M_commit_140
          · exact (c2 (by decide)).elim
        · have c1 : ¬ d ≤ i := fun h => c1 ((nI_leI (a := d) (b := i) (by omega) (by omega)).mpr h)
          exact absurd (show d ≤ i by omega) c1
      | succ n ih =>
        intro i w d H locs ls hn hd hzw hcw hI hP hD hS hl
        refine lv_iload hx hb d_M_commit_97 (lv_at hl 0 rfl) ?_
        refine lv_iload hx hb d_M_commit_99 (lv_at hl 1 rfl) ?_
        refine lv_icmp_ge (tgt := 117) hx hb d_M_commit_101 (by decide) (fun c4 => ?_) (fun c4 => ?_)
        · have c4 : d ≤ i := (nI_leI (a := d) (b := i) (by omega) (by omega)).mp c4
          exact absurd c4 (by omega)
        · have c4 : ¬ d ≤ i := fun h => c4 ((nI_leI (a := d) (b := i) (by omega) (by omega)).mpr h)
          refine lv_aload_n hx hb d_M_commit_104 rfl (lv_at hl 4 rfl) ?_
          refine lv_iload_n hx hb d_M_commit_105 rfl (lv_at hl 3 rfl) ?_
          refine lv_iload hx hb d_M_commit_106 (lv_at hl 0 rfl) ?_
          refine x_V (rest := []) ⟨hx, hb, hml, hown, hts⟩ (c_M_doCommitStep_ok l D cI cN ad w k hk sz hsz hzw hcw i (by omega)) gm_203 gm_205 gm_3 gm_28 gm_206 ⟨rfl, rfl⟩ hd_M_doCommitStep ⟨Nat.le_of_ble_eq_true rfl, Nat.le_of_ble_eq_true rfl⟩ hK hP hD hS hA (va_recv hK hP (ci := 4) (q0 := 0) rfl x_hM) rfl hl.1 rfl (Nat.le_of_ble_eq_true rfl) d_M_commit_108 ⟨Nat.le_of_ble_eq_true rfl, Nat.le_of_ble_eq_true rfl⟩ (fun H locs hP hD hS => ?_)
          obtain ⟨z5, ez5⟩ : ∃ zt_ : x_S, zt_ = x_step w k sz i := ⟨_, rfl⟩
          rw [← ez5] at hP hD
          refine lv_iinc (v := nI (i + 1)) (lv' := [(7, .int (nI (i + 1))), (6, .int (nI d)), (5, .int 0), (3, .int (nI k)), (0, .ref (ad 0)), (2, .int keep)]) hx hb d_M_commit_111 hl (k := 0) rfl (nI_1 _) (by decide) rfl (fun ls hl => ?_)
          refine lv_goto (tgt := 97) hx hb d_M_commit_114 (by decide) ?_
          exact ih (i + 1) z5 d H locs ls (by omega) hd (by subst ez5; rw [x_step_low (by decide)]; exact hzw) (by subst ez5; rw [x_step_low (by decide)]; exact hcw) (by subst ez5; rw [hI]; rfl) hP hD hS (lv_sub hl [0, 1, 2, 3, 4, 5] rfl)
    have lp1 : ∀ (n i : Nat) (w : x_S) (d : Nat) (H : Heap) (locs : List Loc) (ls : Array Slot), i + n = d → d ≤ 3 * sz + 7 → w 2 0 = nI sz → (∀ j, j < sz → ∃ b, b < 24 ∧ w 3 j = nI b) → x_commit z sz cut keep = (-7, x_bring (x_comL k sz n i w) k keep) → va_P D vwCl (x_w cI cN ad w) H → va_D A (x_w cI cN ad w) → va_S A s.heap H locs → lv_has ls 8 [(7, .int (nI i)), (6, .int (nI d)), (5, .int 1), (3, .int (nI k)), (0, .ref (ad 0)), (2, .int keep)] → W p l e { frames := 5, cells := 0, slots := 0, locals := 111 } s m [.ref (ad 0), .int cut, .int keep].toArray below meth c H locs 0 0 (MQ below (x_Q (some (.int (x_commit z sz cut keep).1)) D (x_w cI cN ad (x_commit z sz cut keep).2) A) [.ref (ad 0), .int cut, .int keep].toArray s 0 0 A) (F0 m 97 ls []) := by
      intro n
      induction n with
      | zero =>
        intro i w d H locs ls hn hd hzw hcw hI hP hD hS hl
        refine lv_iload hx hb d_M_commit_97 (lv_at hl 0 rfl) ?_
        refine lv_iload hx hb d_M_commit_99 (lv_at hl 1 rfl) ?_
        refine lv_icmp_ge (tgt := 117) hx hb d_M_commit_101 (by decide) (fun c6 => ?_) (fun c6 => ?_)
        · have c6 : d ≤ i := (nI_leI (a := d) (b := i) (by omega) (by omega)).mp c6
          refine lv_iload hx hb d_M_commit_117 (lv_at hl 2 rfl) ?_
          refine lv_if_eq (tgt := 131) hx hb d_M_commit_119 (by decide) (fun c7 => ?_) (fun c7 => ?_)
          · exact absurd c7 (by decide)
          · refine lv_aload_n hx hb d_M_commit_122 rfl (lv_at hl 4 rfl) ?_
            refine lv_iload_n hx hb d_M_commit_123 rfl (lv_at hl 3 rfl) ?_
            refine lv_iload_n hx hb d_M_commit_124 rfl (lv_at hl 5 rfl) ?_
            refine x_V (rest := []) ⟨hx, hb, hml, hown, hts⟩ (c_M_bringDown_ok l D cI cN ad w k hk keep) gm_231 gm_233 gm_6 gm_28 gm_234 ⟨rfl, rfl⟩ hd_M_bringDown ⟨Nat.le_of_ble_eq_true rfl, Nat.le_of_ble_eq_true rfl⟩ hK hP hD hS hA (va_recv hK hP (ci := 4) (q0 := 0) rfl x_hM) rfl hl.1 rfl (Nat.le_of_ble_eq_true rfl) d_M_commit_125 ⟨Nat.le_of_ble_eq_true rfl, Nat.le_of_ble_eq_true rfl⟩ (fun H locs hP hD hS => ?_)
            obtain ⟨z8, ez8⟩ : ∃ zt_ : x_S, zt_ = x_bring w k keep := ⟨_, rfl⟩
            rw [← ez8] at hP hD
            refine lv_bipush (v := (-7)) hx hb d_M_commit_128 (by decide) ?_
            exact x_ri (w := x_w cI cN ad) (by subst ez8; rw [hI]; rfl) hx hb hr hlk hP hD hS d_M_commit_130
        · have c6 : ¬ d ≤ i := fun h => c6 ((nI_leI (a := d) (b := i) (by omega) (by omega)).mpr h)
          exact absurd (show d ≤ i by omega) c6
      | succ n ih =>
        intro i w d H locs ls hn hd hzw hcw hI hP hD hS hl
        refine lv_iload hx hb d_M_commit_97 (lv_at hl 0 rfl) ?_
        refine lv_iload hx hb d_M_commit_99 (lv_at hl 1 rfl) ?_
        refine lv_icmp_ge (tgt := 117) hx hb d_M_commit_101 (by decide) (fun c9 => ?_) (fun c9 => ?_)
        · have c9 : d ≤ i := (nI_leI (a := d) (b := i) (by omega) (by omega)).mp c9
          exact absurd c9 (by omega)
        · have c9 : ¬ d ≤ i := fun h => c9 ((nI_leI (a := d) (b := i) (by omega) (by omega)).mpr h)
          refine lv_aload_n hx hb d_M_commit_104 rfl (lv_at hl 4 rfl) ?_
          refine lv_iload_n hx hb d_M_commit_105 rfl (lv_at hl 3 rfl) ?_
          refine lv_iload hx hb d_M_commit_106 (lv_at hl 0 rfl) ?_
          refine x_V (rest := []) ⟨hx, hb, hml, hown, hts⟩ (c_M_doCommitStep_ok l D cI cN ad w k hk sz hsz hzw hcw i (by omega)) gm_203 gm_205 gm_3 gm_28 gm_206 ⟨rfl, rfl⟩ hd_M_doCommitStep ⟨Nat.le_of_ble_eq_true rfl, Nat.le_of_ble_eq_true rfl⟩ hK hP hD hS hA (va_recv hK hP (ci := 4) (q0 := 0) rfl x_hM) rfl hl.1 rfl (Nat.le_of_ble_eq_true rfl) d_M_commit_108 ⟨Nat.le_of_ble_eq_true rfl, Nat.le_of_ble_eq_true rfl⟩ (fun H locs hP hD hS => ?_)
          obtain ⟨z10, ez10⟩ : ∃ zt_ : x_S, zt_ = x_step w k sz i := ⟨_, rfl⟩
          rw [← ez10] at hP hD
          refine lv_iinc (v := nI (i + 1)) (lv' := [(7, .int (nI (i + 1))), (6, .int (nI d)), (5, .int 1), (3, .int (nI k)), (0, .ref (ad 0)), (2, .int keep)]) hx hb d_M_commit_111 hl (k := 0) rfl (nI_1 _) (by decide) rfl (fun ls hl => ?_)
          refine lv_goto (tgt := 97) hx hb d_M_commit_114 (by decide) ?_
          exact ih (i + 1) z10 d H locs ls (by omega) hd (by subst ez10; rw [x_step_low (by decide)]; exact hzw) (by subst ez10; rw [x_step_low (by decide)]; exact hcw) (by subst ez10; rw [hI]; rfl) hP hD hS (lv_sub hl [0, 1, 2, 3, 4, 5] rfl)
    refine lv_iconst (v := 3) hx hb d_M_commit_50 (by decide) ?_
    refine lv_aload_n hx hb d_M_commit_51 rfl (lv_at hl 1 rfl) ?_
    refine va_get (D := D) (ci := 4) (C := R_M) (T := T_M) (N := 7) hx hb hts in_M hown hK hP 0 x_hM rfl 2 (by decide) (hts _ gm_156) (fun _ h9 => h9) rfl d_M_commit_52 ?_
    refine va_get (D := D) (ci := 0) (C := R_B) (T := T_B) (N := 3) hx hb hts in_B hown hK hP 3 x_hB rfl 2 (by decide) (hts _ gm_58) (fun _ h9 => h9) rfl d_M_commit_55 ?_
    refine x_top (show y 2 0 = nI sz from hzy) ?_
    refine lv_imul hx hb d_M_commit_58 ?_
    refine lv_bipush (v := 7) hx hb d_M_commit_59 (by decide) ?_
    refine lv_iadd hx hb d_M_commit_61 ?_
    refine x_top (show (3 * (nI sz)) + 7 = nI (3 * sz + 7) by rw [show (3 : Int32) * nI sz = nI (3 * sz) from x_nmul 3 sz]; exact x_nadd (3 * sz) 7) ?_
    refine lv_istore (lv' := [(4, .int (nI (3 * sz + 7))), (3, .int (nI k)), (0, .ref (ad 0)), (1, .int cut), (2, .int keep)]) hx hb d_M_commit_62 hl (by decide) rfl (fun ls hl => ?_)
    refine lv_iload_n hx hb d_M_commit_64 rfl (lv_at hl 3 rfl) ?_
    refine lv_if_lt (tgt := 78) hx hb d_M_commit_65 (by decide) (fun c11 => ?_) (fun c11 => ?_)
    · refine lv_iconst (v := 0) hx hb d_M_commit_78 (by decide) ?_
      refine lv_istore (lv' := [(5, .int 0), (4, .int (nI (3 * sz + 7))), (3, .int (nI k)), (0, .ref (ad 0)), (1, .int cut), (2, .int keep)]) hx hb d_M_commit_79 hl (by decide) rfl (fun ls hl => ?_)
      refine lv_iload hx hb d_M_commit_81 (lv_at hl 0 rfl) ?_
      refine lv_if_eq (tgt := 90) hx hb d_M_commit_83 (by decide) (fun c12 => ?_) (fun c12 => ?_)
      · refine lv_iload hx hb d_M_commit_90 (lv_at hl 1 rfl) ?_
        refine lv_istore (lv' := [(6, .int (nI (3 * sz + 7))), (5, .int 0), (4, .int (nI (3 * sz + 7))), (3, .int (nI k)), (0, .ref (ad 0)), (1, .int cut), (2, .int keep)]) hx hb d_M_commit_92 hl (by decide) rfl (fun ls hl => ?_)
        refine lv_iconst (v := 0) hx hb d_M_commit_94 (by decide) ?_
        refine lv_istore (lv' := [(7, .int 0), (6, .int (nI (3 * sz + 7))), (5, .int 0), (4, .int (nI (3 * sz + 7))), (3, .int (nI k)), (0, .ref (ad 0)), (1, .int cut), (2, .int keep)]) hx hb d_M_commit_95 hl (by decide) rfl (fun ls hl => ?_)
        exact lp0 (3 * sz + 7) 0 y (3 * sz + 7) H locs ls (by omega) (by omega) hzy hcy (by rw [hG]; simp only [x_comB, if_pos c11]) hP hD hS (lv_sub hl [0, 1, 2, 4, 5, 7] rfl)
      · exact (c12 (by decide)).elim
    · refine lv_iload_n hx hb d_M_commit_68 rfl (lv_at hl 3 rfl) ?_
      refine lv_iload hx hb d_M_commit_69 (lv_at hl 0 rfl) ?_
      refine lv_icmp_ge (tgt := 78) hx hb d_M_commit_71 (by decide) (fun c13 => ?_) (fun c13 => ?_)
      · refine lv_iconst (v := 0) hx hb d_M_commit_78 (by decide) ?_
        refine lv_istore (lv' := [(5, .int 0), (4, .int (nI (3 * sz + 7))), (3, .int (nI k)), (0, .ref (ad 0)), (1, .int cut), (2, .int keep)]) hx hb d_M_commit_79 hl (by decide) rfl (fun ls hl => ?_)
        refine lv_iload hx hb d_M_commit_81 (lv_at hl 0 rfl) ?_
        refine lv_if_eq (tgt := 90) hx hb d_M_commit_83 (by decide) (fun c14 => ?_) (fun c14 => ?_)
        · refine lv_iload hx hb d_M_commit_90 (lv_at hl 1 rfl) ?_
          refine lv_istore (lv' := [(6, .int (nI (3 * sz + 7))), (5, .int 0), (4, .int (nI (3 * sz + 7))), (3, .int (nI k)), (0, .ref (ad 0)), (1, .int cut), (2, .int keep)]) hx hb d_M_commit_92 hl (by decide) rfl (fun ls hl => ?_)
          refine lv_iconst (v := 0) hx hb d_M_commit_94 (by decide) ?_
          refine lv_istore (lv' := [(7, .int 0), (6, .int (nI (3 * sz + 7))), (5, .int 0), (4, .int (nI (3 * sz + 7))), (3, .int (nI k)), (0, .ref (ad 0)), (1, .int cut), (2, .int keep)]) hx hb d_M_commit_95 hl (by decide) rfl (fun ls hl => ?_)
          exact lp0 (3 * sz + 7) 0 y (3 * sz + 7) H locs ls (by omega) (by omega) hzy hcy (by rw [hG]; simp only [x_comB, if_neg c11, if_pos c13]) hP hD hS (lv_sub hl [0, 1, 2, 4, 5, 7] rfl)
        · exact (c14 (by decide)).elim
      · obtain ⟨d, hd, ed⟩ : ∃ d : Nat, d < 3 * sz + 7 ∧ cut = nI d := by
          rcases pk_ix cut (n := 3 * sz + 7) (by omega) with q | q | q
          · exact absurd q c11
          · exact absurd q c13
          · exact q
        subst ed
        refine lv_iconst (v := 1) hx hb d_M_commit_74 (by decide) ?_
        refine lv_goto (tgt := 79) hx hb d_M_commit_75 (by decide) ?_
        refine lv_istore (lv' := [(5, .int 1), (4, .int (nI (3 * sz + 7))), (3, .int (nI k)), (0, .ref (ad 0)), (1, .int (nI d)), (2, .int keep)]) hx hb d_M_commit_79 hl (by decide) rfl (fun ls hl => ?_)
        refine lv_iload hx hb d_M_commit_81 (lv_at hl 0 rfl) ?_
        refine lv_if_eq (tgt := 90) hx hb d_M_commit_83 (by decide) (fun c15 => ?_) (fun c15 => ?_)
        · exact absurd c15 (by decide)
        · refine lv_iload_n hx hb d_M_commit_86 rfl (lv_at hl 4 rfl) ?_
          refine lv_goto (tgt := 92) hx hb d_M_commit_87 (by decide) ?_
          refine lv_istore (lv' := [(6, .int (nI d)), (5, .int 1), (4, .int (nI (3 * sz + 7))), (3, .int (nI k)), (0, .ref (ad 0)), (1, .int (nI d)), (2, .int keep)]) hx hb d_M_commit_92 hl (by decide) rfl (fun ls hl => ?_)
          refine lv_iconst (v := 0) hx hb d_M_commit_94 (by decide) ?_
          refine lv_istore (lv' := [(7, .int 0), (6, .int (nI d)), (5, .int 1), (4, .int (nI (3 * sz + 7))), (3, .int (nI k)), (0, .ref (ad 0)), (1, .int (nI d)), (2, .int keep)]) hx hb d_M_commit_95 hl (by decide) rfl (fun ls hl => ?_)
          exact lp1 d 0 y d H locs ls (by omega) (by omega) hzy hcy (by rw [hG]; simp only [x_comB, if_neg c11, if_neg c13, nI_clamp (show d < 2 ^ 31 by omega)]) hP hD hS (lv_sub hl [0, 1, 2, 4, 5, 7] rfl)
  refine lv_aload_n hx hb d_M_commit_0 rfl (lv_at hl 0 rfl) ?_
  refine x_V (rest := []) ⟨hx, hb, hml, hown, hts⟩ (c_M_findPrimary_ok l D cI cN ad z) gm_183 gm_185 gm_0 gm_28 gm_186 ⟨rfl, rfl⟩ hd_M_findPrimary ⟨Nat.le_of_ble_eq_true rfl, Nat.le_of_ble_eq_true rfl⟩ hK hP hD hS hA (va_recv hK hP (ci := 4) (q0 := 0) rfl x_hM) rfl hl.1 rfl (Nat.le_of_ble_eq_true rfl) d_M_commit_1 ⟨Nat.le_of_ble_eq_true rfl, Nat.le_of_ble_eq_true rfl⟩ (fun H locs hP hD hS => ?_)
  refine lv_topi (fun r16 er16 => ?_)
  refine lv_istore_n (lv' := [(3, .int r16), (0, .ref (ad 0)), (1, .int cut), (2, .int keep)]) hx hb d_M_commit_4 rfl hl (by decide) rfl (fun ls hl => ?_)
  refine lv_iload_n hx hb d_M_commit_5 rfl (lv_at hl 0 rfl) ?_
  refine lv_iconst (v := 2) hx hb d_M_commit_6 (by decide) ?_
  refine lv_icmp_eq (tgt := 20) hx hb d_M_commit_7 (by decide) (fun c17 => ?_) (fun c17 => ?_)
  · refine lv_iconst (v := (-1)) hx hb d_M_commit_20 (by decide) ?_
    exact x_ri (w := x_w cI cN ad) (by subst er16; first | (simp only [x_commit, if_pos c17]; done) | rfl | (simp only [x_commit, if_pos c17]; rfl)) hx hb hr hlk hP hD hS d_M_commit_21
  · obtain ⟨k, hk, ek⟩ := x_findE er16 c17
    subst ek
    refine lv_aload_n hx hb d_M_commit_10 rfl (lv_at hl 1 rfl) ?_
    refine va_get (D := D) (ci := 4) (C := R_M) (T := T_M) (N := 7) hx hb hts in_M hown hK hP 0 x_hM rfl 2 (by decide) (hts _ gm_156) (fun _ h9 => h9) rfl d_M_commit_11 ?_
    refine va_get (D := D) (ci := 0) (C := R_B) (T := T_B) (N := 3) hx hb hts in_B hown hK hP 3 x_hB rfl 2 (by decide) (hts _ gm_58) (fun _ h9 => h9) rfl d_M_commit_14 ?_
    refine x_top (show z 2 0 = nI sz by exact hz) ?_
    refine lv_if_ne (tgt := 22) hx hb d_M_commit_17 (by decide) (fun c18 => ?_) (fun c18 => ?_)
    · have c18 : ¬ sz = 0 := fun h => c18 ((nI_eq (a := sz) (b := 0) (by omega) (by omega)).mpr h)
      refine lv_aload_n hx hb d_M_commit_22 rfl (lv_at hl 1 rfl) ?_
      refine lv_iload_n hx hb d_M_commit_23 rfl (lv_at hl 0 rfl) ?_
      refine x_V (rest := []) ⟨hx, hb, hml, hown, hts⟩ (c_M_isUnpaired_ok l D cI cN ad z k hk) gm_195 gm_197 gm_1 gm_28 gm_198 ⟨rfl, rfl⟩ hd_M_isUnpaired ⟨Nat.le_of_ble_eq_true rfl, Nat.le_of_ble_eq_true rfl⟩ hK hP hD hS hA (va_recv hK hP (ci := 4) (q0 := 0) rfl x_hM) rfl hl.1 rfl (Nat.le_of_ble_eq_true rfl) d_M_commit_24 ⟨Nat.le_of_ble_eq_true rfl, Nat.le_of_ble_eq_true rfl⟩ (fun H locs hP hD hS => ?_)
      refine lv_topi (fun r19 er19 => ?_)
      refine lv_if_eq (tgt := 50) hx hb d_M_commit_27 (by decide) (fun c20 => ?_) (fun c20 => ?_)
      · exact body z k hk _ _ ls hz hcell (by subst er19; simp only [x_commit, if_neg c17, if_neg c18, if_pos c20, ← er16, x_cl hk]) hP hD hS (lv_sub hl [0, 1, 2, 3] rfl)
      · refine lv_aload_n hx hb d_M_commit_30 rfl (lv_at hl 1 rfl) ?_
        refine va_get (D := D) (ci := 4) (C := R_M) (T := T_M) (N := 7) hx hb hts in_M hown hK hP 0 x_hM rfl 0 (by decide) (hts _ gm_154) (fun _ h9 => h9) rfl d_M_commit_31 ?_
        refine lv_iload_n hx hb d_M_commit_34 rfl (lv_at hl 0 rfl) ?_
        refine va_aldq (D := D) hx hb hK hP 1 1 x_hA rfl (x_in2 hk) d_M_commit_35 ?_
        refine x_topv (x_nf_at hk) ?_
        refine va_get (D := D) (ci := 2) (C := R_N) (T := T_N) (N := 8) hx hb hts in_N hown hK hP (6 + k) (x_hN hk) rfl 7 (by decide) (hts _ gm_104) (fun _ h9 => h9) rfl d_M_commit_36 ?_
        refine lv_if_ne (tgt := 45) hx hb d_M_commit_39 (by decide) (fun c21 => ?_) (fun c21 => ?_)
        · refine lv_aload_n hx hb d_M_commit_45 rfl (lv_at hl 1 rfl) ?_
          refine lv_iload_n hx hb d_M_commit_46 rfl (lv_at hl 0 rfl) ?_
          refine x_V (rest := []) ⟨hx, hb, hml, hown, hts⟩ (c_M_goAlone_ok l D cI cN ad z k hk) gm_199 gm_201 gm_2 gm_28 gm_202 ⟨rfl, rfl⟩ hd_M_goAlone ⟨Nat.le_of_ble_eq_true rfl, Nat.le_of_ble_eq_true rfl⟩ hK hP hD hS hA (va_recv hK hP (ci := 4) (q0 := 0) rfl x_hM) rfl hl.1 rfl (Nat.le_of_ble_eq_true rfl) d_M_commit_47 ⟨Nat.le_of_ble_eq_true rfl, Nat.le_of_ble_eq_true rfl⟩ (fun H locs hP hD hS => ?_)
          obtain ⟨z22, ez22⟩ : ∃ zt_ : x_S, zt_ = x_goAl z k := ⟨_, rfl⟩
          rw [← ez22] at hP hD
          exact body z22 k hk _ _ ls (by subst er19 ez22; rw [x_goAl_low (by decide) (by decide)]; exact hz) (by subst er19 ez22; rw [x_goAl_low (by decide) (by decide)]; exact hcell) (by subst er19 ez22; simp only [x_commit, if_neg c17, if_neg c18, if_neg c20, if_neg c21, ← er16, x_cl hk]) hP hD hS (lv_sub hl [0, 1, 2, 3] rfl)
        · refine lv_bipush (v := (-3)) hx hb d_M_commit_42 (by decide) ?_
          exact x_ri (w := x_w cI cN ad) (by subst er19; first | (simp only [x_commit, if_neg c17, if_neg c18, if_neg c20, if_pos c21, ← er16, x_cl hk]; done) | rfl | (simp only [x_commit, if_neg c17, if_neg c18, if_neg c20, if_pos c21, ← er16, x_cl hk]; rfl)) hx hb hr hlk hP hD hS d_M_commit_44
    · have c18 : sz = 0 := (nI_eq (a := sz) (b := 0) (by omega) (by omega)).mp c18
      refine lv_iconst (v := (-1)) hx hb d_M_commit_20 (by decide) ?_
      exact x_ri (w := x_w cI cN ad) (by first | (simp only [x_commit, if_neg c17, if_pos c18, ← er16, x_cl hk]; done) | rfl | (simp only [x_commit, if_neg c17, if_pos c18, ← er16, x_cl hk]; rfl)) hx hb hr hlk hP hD hS d_M_commit_21
set_option maxHeartbeats 4000000 in
set_option maxRecDepth 100000 in
theorem c_M_resync_ok (l : Launch) (D : va_G) (cI cN : ClassId) (ad : Nat → Nat) (z : x_S) (s0 : Nat) (hs0 : s0 < 2) (hs : z 0 3 = nI s0) (mm : Nat) (hmm : mm < 256) (hm : z (5 + s0) 5 = nI mm) (a : Int32) : x_C l y_M_resync c_M_resync 5 (some .int) { frames := 4, cells := 0, slots := 0, locals := 84 } D (x_ty cI cN) (x_w cI cN ad z) [.ref (ad 0), .int a] (some (.int (x_resync z a).1)) (x_w cI cN ad (x_resync z a).2) := by
  refine x_C.of (by decide) (Nat.le_of_ble_eq_true rfl) ?_
  intro p e s m below meth c hx hb hr hml hts hown hlk A hA hK hS hP hD ls hl
  have hown : s.vm.findClass R_M = some m.cls := hown
  have hl : lv_has ls 5 [(0, .ref (ad 0)), (1, .int a)] := hl
  have tail : ∀ (y : x_S) (s0 : Nat) (hs0 : s0 < 2) (H : Heap) (locs : List Loc) (ls : Array Slot) (cn : Nat), y 0 3 = nI s0 → x_resync z a = x_rsT y s0 → va_P D vwCl (x_w cI cN ad y) H → va_D A (x_w cI cN ad y) → va_S A s.heap H locs → lv_has ls 5 [(2, .ref (ad (6 + s0))), (0, .ref (ad 0)), (1, .int (nI cn))] → W p l e { frames := 4, cells := 0, slots := 0, locals := 84 } s m [.ref (ad 0), .int a].toArray below meth c H locs 0 0 (MQ below (x_Q (some (.int (x_resync z a).1)) D (x_w cI cN ad (x_resync z a).2) A) [.ref (ad 0), .int a].toArray s 0 0 A) (F0 m 79 ls []) := by
    intro y s0 hs0 H locs ls cn hsy hG hP hD hS hl
    refine lv_aload_n hx hb d_M_resync_79 rfl (lv_at hl 0 rfl) ?_
    refine va_get (D := D) (ci := 2) (C := R_N) (T := T_N) (N := 8) hx hb hts in_N hown hK hP (6 + s0) (x_hN hs0) rfl 6 (by decide) (hts _ gm_102) (fun _ h9 => h9) rfl d_M_resync_80 ?_
    refine x_T (rest := []) ⟨hx, hb, hml, hown, hts⟩ (c_J_bitCount_ok l D cI cN ad y (y (5 + s0) 5)) gm_311 gm_312 gm_36 gm_313 ⟨rfl, rfl⟩ hd_J_bitCount ⟨Nat.le_of_ble_eq_true rfl, Nat.le_of_ble_eq_true rfl⟩ hK hP hD hS hA rfl hl.1 rfl (Nat.le_of_ble_eq_true rfl) d_M_resync_83 ⟨Nat.le_of_ble_eq_true rfl, Nat.le_of_ble_eq_true rfl⟩ (fun H locs hP hD hS => ?_)
    refine lv_topi (fun r1 er1 => ?_)
    refine lv_istore_n (lv' := [(3, .int r1), (2, .ref (ad (6 + s0))), (0, .ref (ad 0)), (1, .int (nI cn))]) hx hb d_M_resync_86 rfl hl (by decide) rfl (fun ls hl => ?_)
    refine lv_iload_n hx hb d_M_resync_87 rfl (lv_at hl 0 rfl) ?_
    refine lv_if_ne (tgt := 95) hx hb d_M_resync_88 (by decide) (fun c2 => ?_) (fun c2 => ?_)
    · refine lv_iload_n hx hb d_M_resync_95 rfl (lv_at hl 0 rfl) ?_
      exact x_ri (w := x_w cI cN ad) (by subst er1; rw [hG]; simp only [x_rsT, if_neg c2]) hx hb hr hlk hP hD hS d_M_resync_96
    · refine lv_aload_n hx hb d_M_resync_91 rfl (lv_at hl 2 rfl) ?_
      refine x_V (rest := []) ⟨hx, hb, hml, hown, hts⟩ (c_M_finishSync_ok l D cI cN ad y s0 hs0 (by subst er1; first | exact hsy | (rw [x_up_row (by omega)]; exact hsy))) gm_303 gm_305 gm_11 gm_28 gm_306 ⟨rfl, rfl⟩ hd_M_finishSync ⟨Nat.le_of_ble_eq_true rfl, Nat.le_of_ble_eq_true rfl⟩ hK hP hD hS hA (va_recv hK hP (ci := 4) (q0 := 0) rfl x_hM) rfl hl.1 rfl (Nat.le_of_ble_eq_true rfl) d_M_resync_92 ⟨Nat.le_of_ble_eq_true rfl, Nat.le_of_ble_eq_true rfl⟩ (fun H locs hP hD hS => ?_)
      obtain ⟨z3, ez3⟩ : ∃ zt_ : x_S, zt_ = x_fin y s0 := ⟨_, rfl⟩
      rw [← ez3] at hP hD
      refine lv_iload_n hx hb d_M_resync_95 rfl (lv_at hl 0 rfl) ?_
      exact x_ri (w := x_w cI cN ad) (by subst er1 ez3; rw [hG]; simp only [x_rsT, if_pos c2]) hx hb hr hlk hP hD hS d_M_resync_96
  have lp : ∀ (n i : Nat) (y : x_S) (mm s0 cn : Nat) (hs0 : s0 < 2) (H : Heap) (locs : List Loc) (ls : Array Slot), i + n = cn → cn ≤ 4 → mm < 256 → y 0 3 = nI s0 → y (5 + s0) 5 = nI mm → x_resync z a = x_rsT (x_rsL s0 n y) s0 → va_P D vwCl (x_w cI cN ad y) H → va_D A (x_w cI cN ad y) → va_S A s.heap H locs → lv_has ls 5 [(3, .int (nI i)), (2, .ref (ad (6 + s0))), (0, .ref (ad 0)), (1, .int (nI cn))] → W p l e { frames := 4, cells := 0, slots := 0, locals := 84 } s m [.ref (ad 0), .int a].toArray below meth c H locs 0 0 (MQ below (x_Q (some (.int (x_resync z a).1)) D (x_w cI cN ad (x_resync z a).2) A) [.ref (ad 0), .int a].toArray s 0 0 A) (F0 m 31 ls []) := by
    intro n
    induction n with
    | zero =>
      intro i y mm s0 cn hs0 H locs ls hn hcn hmm hsy hmy hI hP hD hS hl
      refine lv_iload_n hx hb d_M_resync_31 rfl (lv_at hl 0 rfl) ?_
      refine lv_iload_n hx hb d_M_resync_32 rfl (lv_at hl 3 rfl) ?_
      refine lv_icmp_ge (tgt := 79) hx hb d_M_resync_33 (by decide) (fun c4 => ?_) (fun c4 => ?_)
      · have c4 : cn ≤ i := (nI_leI (a := cn) (b := i) (by omega) (by omega)).mp c4
        exact tail y s0 hs0 H locs ls cn hsy (by rw [hI]; simp only [x_rsL, if_pos c4]) hP hD hS (lv_sub hl [1, 2, 3] rfl)
      · have c4 : ¬ cn ≤ i := fun h => c4 ((nI_leI (a := cn) (b := i) (by omega) (by omega)).mpr h)
        exact absurd (show cn ≤ i by omega) c4
    | succ n ih =>
      intro i y mm s0 cn hs0 H locs ls hn hcn hmm hsy hmy hI hP hD hS hl
      refine lv_iload_n hx hb d_M_resync_31 rfl (lv_at hl 0 rfl) ?_
      refine lv_iload_n hx hb d_M_resync_32 rfl (lv_at hl 3 rfl) ?_
      refine lv_icmp_ge (tgt := 79) hx hb d_M_resync_33 (by decide) (fun c5 => ?_) (fun c5 => ?_)
      · have c5 : cn ≤ i := (nI_leI (a := cn) (b := i) (by omega) (by omega)).mp c5
        exact absurd c5 (by omega)
      · have c5 : ¬ cn ≤ i := fun h => c5 ((nI_leI (a := cn) (b := i) (by omega) (by omega)).mpr h)
        refine lv_aload_n hx hb d_M_resync_36 rfl (lv_at hl 1 rfl) ?_
        refine va_get (D := D) (ci := 2) (C := R_N) (T := T_N) (N := 8) hx hb hts in_N hown hK hP (6 + s0) (x_hN hs0) rfl 6 (by decide) (hts _ gm_102) (fun _ h9 => h9) rfl d_M_resync_37 ?_
        refine lv_if_eq (tgt := 79) hx hb d_M_resync_40 (by decide) (fun c6 => ?_) (fun c6 => ?_)
        · exact tail y s0 hs0 H locs ls cn hsy (by rw [hI]; simp only [x_rsL, if_neg c5, if_pos c6]) hP hD hS (lv_sub hl [1, 2, 3] rfl)
        · have hm0 : 0 < mm := Nat.pos_of_ne_zero (fun q => by rw [q] at hmy; exact c6 hmy)
          refine lv_aload_n hx hb d_M_resync_43 rfl (lv_at hl 1 rfl) ?_
          refine va_get (D := D) (ci := 2) (C := R_N) (T := T_N) (N := 8) hx hb hts in_N hown hK hP (6 + s0) (x_hN hs0) rfl 6 (by decide) (hts _ gm_102) (fun _ h9 => h9) rfl d_M_resync_44 ?_
          refine x_T (rest := []) ⟨hx, hb, hml, hown, hts⟩ (c_J_numberOfTrailingZeros_ok l D cI cN ad y (y (5 + s0) 5)) gm_321 gm_322 gm_36 gm_323 ⟨rfl, rfl⟩ hd_J_numberOfTrailingZeros ⟨Nat.le_of_ble_eq_true rfl, Nat.le_of_ble_eq_true rfl⟩ hK hP hD hS hA rfl hl.1 rfl (Nat.le_of_ble_eq_true rfl) d_M_resync_47 ⟨Nat.le_of_ble_eq_true rfl, Nat.le_of_ble_eq_true rfl⟩ (fun H locs hP hD hS => ?_)
          refine lv_topi (fun r7 er7 => ?_)
          have en : r7 = nI (x_low mm) := by rw [er7, hmy]; exact x_ntz_low mm hmm (by omega)
          subst en
          refine lv_istore (lv' := [(4, .int (nI (x_low mm))), (3, .int (nI i)), (2, .ref (ad (6 + s0))), (0, .ref (ad 0)), (1, .int (nI cn))]) hx hb d_M_resync_50 hl (by decide) rfl (fun ls hl => ?_)
          refine lv_aload_n hx hb d_M_resync_52 rfl (lv_at hl 2 rfl) ?_
          refine lv_dup hx hb d_M_resync_53 rfl ?_
          refine va_get (D := D) (ci := 2) (C := R_N) (T := T_N) (N := 8) hx hb hts in_N hown hK hP (6 + s0) (x_hN hs0) rfl 6 (by decide) (hts _ gm_102) (fun _ h9 => h9) rfl d_M_resync_54 ?_
          refine lv_iconst (v := 1) hx hb d_M_resync_57 (by decide) ?_
          refine lv_iload hx hb d_M_resync_58 (lv_at hl 0 rfl) ?_
          refine lv_ishl hx hb d_M_resync_60 ?_
          refine lv_iconst (v := (-1)) hx hb d_M_resync_61 (by decide) ?_
          refine lv_ixor hx hb d_M_resync_62 ?_
          refine lv_iand hx hb d_M_resync_63 ?_
          refine va_put (D := D) (ci := 2) (v := .int ((y (5 + s0) 5) &&& ((1 <<< (nI (x_low mm) &&& 31)) ^^^ (-1)))) (ty := .int) (C := R_N) (T := T_N) (N := 8) hx hb hts in_N fy_N fy_N_ok n_N hown hK hP hD hS (6 + s0) (x_hN hs0) rfl 6 (by decide) (hts _ gm_102) (fun _ h9 => h9) rfl (by decide +kernel) rfl rfl (Nat.le_of_ble_eq_true rfl) d_M_resync_64 (fun H locs hP hD hS => ?_)
          obtain ⟨z8, ez8⟩ : ∃ zt_ : x_S, zt_ = x_up y (5 + s0) 5 ((y (5 + s0) 5) &&& ((1 <<< (nI (x_low mm) &&& 31)) ^^^ (-1))) := ⟨_, rfl⟩
          have hP : va_P D vwCl (x_w cI cN ad z8) H := by rw [ez8, ← x_sN (i := 5) hs0 (by decide) ((y (5 + s0) 5) &&& ((1 <<< (nI (x_low mm) &&& 31)) ^^^ (-1)))]; exact hP
          have hD : va_D A (x_w cI cN ad z8) := by rw [ez8, ← x_sN (i := 5) hs0 (by decide) ((y (5 + s0) 5) &&& ((1 <<< (nI (x_low mm) &&& 31)) ^^^ (-1)))]; exact hD
          refine lv_aload_n hx hb d_M_resync_67 rfl (lv_at hl 3 rfl) ?_
          refine lv_iload hx hb d_M_resync_68 (lv_at hl 0 rfl) ?_
          refine x_V (rest := []) ⟨hx, hb, hml, hown, hts⟩ (c_M_copyExtent_ok l D cI cN ad z8 s0 hs0 (by subst ez8; first | exact hsy | (rw [x_up_row (by omega)]; exact hsy)) (x_low mm) (x_low_lt mm)) gm_325 gm_327 gm_13 gm_28 gm_328 ⟨rfl, rfl⟩ hd_M_copyExtent ⟨Nat.le_of_ble_eq_true rfl, Nat.le_of_ble_eq_true rfl⟩ hK hP hD hS hA (va_recv hK hP (ci := 4) (q0 := 0) rfl x_hM) rfl hl.1 rfl (Nat.le_of_ble_eq_true rfl) d_M_resync_70 ⟨Nat.le_of_ble_eq_true rfl, Nat.le_of_ble_eq_true rfl⟩ (fun H locs hP hD hS => ?_)
          obtain ⟨z9, ez9⟩ : ∃ zt_ : x_S, zt_ = x_cp z8 s0 (x_low mm) := ⟨_, rfl⟩
          rw [← ez9] at hP hD
          refine lv_iinc (v := nI (i + 1)) (lv' := [(3, .int (nI (i + 1))), (4, .int (nI (x_low mm))), (2, .ref (ad (6 + s0))), (0, .ref (ad 0)), (1, .int (nI cn))]) hx hb d_M_resync_73 hl (k := 1) rfl (nI_1 _) (by decide) rfl (fun ls hl => ?_)
          refine lv_goto (tgt := 31) hx hb d_M_resync_76 (by decide) ?_
          exact ih (i + 1) z9 (mm - 2 ^ x_low mm) s0 cn hs0 H locs ls (by omega) hcn (Nat.lt_of_le_of_lt (Nat.sub_le _ _) hmm) (by have hzq : z9 = x_rsB y s0 := by { subst ez8 ez9; simp only [x_rsB, ← er7, nI_clamp (show x_low mm < 2 ^ 31 by have := x_low_lt mm; omega)] }; rw [hzq]; exact (congrFun (x_rsB_0 hs0) 3).trans hsy) (by have hzq : z9 = x_rsB y s0 := by { subst ez8 ez9; simp only [x_rsB, ← er7, nI_clamp (show x_low mm < 2 ^ 31 by have := x_low_lt mm; omega)] }; rw [hzq]; exact x_rsB_m hs0 hmm hm0 hmy) (by have hzq : z9 = x_rsB y s0 := by { subst ez8 ez9; simp only [x_rsB, ← er7, nI_clamp (show x_low mm < 2 ^ 31 by have := x_low_lt mm; omega)] }; rw [hI, hzq]; simp only [x_rsL, if_neg c6]) hP hD hS (lv_sub hl [0, 2, 3, 4] rfl)
  refine lv_iload_n hx hb d_M_resync_0 rfl (lv_at hl 1 rfl) ?_
  refine lv_iconst (v := 1) hx hb d_M_resync_1 (by decide) ?_
  refine lv_icmp_lt (tgt := 17) hx hb d_M_resync_2 (by decide) (fun c10 => ?_) (fun c10 => ?_)
  · refine lv_iconst (v := (-1)) hx hb d_M_resync_17 (by decide) ?_
    exact x_ri (w := x_w cI cN ad) (by first | (simp only [x_resync, if_pos c10]; done) | rfl | (simp only [x_resync, if_pos c10]; rfl)) hx hb hr hlk hP hD hS d_M_resync_18
  · refine lv_iload_n hx hb d_M_resync_5 rfl (lv_at hl 1 rfl) ?_
    refine lv_iconst (v := 4) hx hb d_M_resync_6 (by decide) ?_
    refine lv_icmp_gt (tgt := 17) hx hb d_M_resync_7 (by decide) (fun c11 => ?_) (fun c11 => ?_)
    · refine lv_iconst (v := (-1)) hx hb d_M_resync_17 (by decide) ?_
      exact x_ri (w := x_w cI cN ad) (by first | (simp only [x_resync, if_neg c10, if_pos c11]; done) | rfl | (simp only [x_resync, if_neg c10, if_pos c11]; rfl)) hx hb hr hlk hP hD hS d_M_resync_18
    · obtain ⟨cn, hc1, hc4, ecn⟩ := x_oneTo4 c10 c11
      subst ecn
      refine lv_aload_n hx hb d_M_resync_10 rfl (lv_at hl 0 rfl) ?_
      refine va_get (D := D) (ci := 4) (C := R_M) (T := T_M) (N := 7) hx hb hts in_M hown hK hP 0 x_hM rfl 5 (by decide) (hts _ gm_159) (fun _ h9 => h9) rfl d_M_resync_11 ?_
      refine lv_if_ne (tgt := 19) hx hb d_M_resync_14 (by decide) (fun c12 => ?_) (fun c12 => ?_)
      · refine lv_aload_n hx hb d_M_resync_19 rfl (lv_at hl 0 rfl) ?_
        refine va_get (D := D) (ci := 4) (C := R_M) (T := T_M) (N := 7) hx hb hts in_M hown hK hP 0 x_hM rfl 0 (by decide) (hts _ gm_154) (fun _ h9 => h9) rfl d_M_resync_20 ?_
        refine lv_aload_n hx hb d_M_resync_23 rfl (lv_at hl 0 rfl) ?_
        refine va_get (D := D) (ci := 4) (C := R_M) (T := T_M) (N := 7) hx hb hts in_M hown hK hP 0 x_hM rfl 6 (by decide) (hts _ gm_160) (fun _ h9 => h9) rfl d_M_resync_24 ?_
        refine x_top (show z 0 3 = nI s0 from hs) ?_
        refine va_aldq (D := D) hx hb hK hP 1 1 x_hA rfl (x_in2 hs0) d_M_resync_27 ?_
        refine x_topv (x_nf_at hs0) ?_
        refine lv_astore_n (lv' := [(2, .ref (ad (6 + s0))), (0, .ref (ad 0)), (1, .int (nI cn))]) hx hb d_M_resync_28 rfl hl (by decide) rfl (fun ls hl => ?_)
        refine lv_iconst (v := 0) hx hb d_M_resync_29 (by decide) ?_
        refine lv_istore_n (lv' := [(3, .int 0), (2, .ref (ad (6 + s0))), (0, .ref (ad 0)), (1, .int (nI cn))]) hx hb d_M_resync_30 rfl hl (by decide) rfl (fun ls hl => ?_)
        exact lp cn 0 z mm s0 cn hs0 _ _ ls (by omega) hc4 hmm hs hm (by simp only [x_resync, if_neg c10, if_neg c11, if_neg c12, nI_clamp (show cn < 2 ^ 31 by omega), hs, x_cl hs0]) hP hD hS (lv_sub hl [0, 1, 2, 3] rfl)
      · refine lv_iconst (v := (-1)) hx hb d_M_resync_17 (by decide) ?_
        exact x_ri (w := x_w cI cN ad) (by first | (simp only [x_resync, if_neg c10, if_neg c11, if_pos c12, nI_clamp (show cn < 2 ^ 31 by omega)]; done) | rfl | (simp only [x_resync, if_neg c10, if_neg c11, if_pos c12, nI_clamp (show cn < 2 ^ 31 by omega)]; rfl)) hx hb hr hlk hP hD hS d_M_resync_18
end
section
-- ===== 20.kworld: the reference's cells at the addresses kd, as a function of its state z
-- row 0: 0 lineUp, 1 connected, 6 primary, 7 source; 1: lease witness time holder end; 2: entries; 3: entryCell; 4: entryValue; 5+k: 0 down, 2 generation, 3 base, 4 alone, 5 marks, 6 cutOff; 7+k: stable; 9+k: cached; 11+k: has
def k_col (z : x_S) (c : Nat) : Nat → Int32 := fun j => if j < 2 then z (5 + j) c else 0
def k_b (z : x_S) (r : Nat) : Nat → Int32 := fun j => if j < 64 then z (r + j / 32) (j % 32) else 0
theorem k_col_row {z : x_S} {r j c : Nat} {v : Int32} (h5 : r ≠ 5) (h6 : r ≠ 6) : k_col (x_up z r j v) c = k_col z c := by
  funext a
  unfold k_col
  split
  · rw [x_up_row (by omega)]
  · rfl
theorem k_col_c {z : x_S} {r j c : Nat} {v : Int32} (h : c ≠ j) : k_col (x_up z r j v) c = k_col z c := by
  funext a
  unfold k_col
  split
  · rw [x_up_col h]
  · rfl
theorem k_col_up {z : x_S} {k c : Nat} {v : Int32} (hk : k < 2) : k_col (x_up z (5 + k) c v) c = upd (k_col z c) k v := by
  funext a
  unfold k_col upd
  rw [x_up_at]
  by_cases h : a = k
  · subst h; simp [hk]
  · have : ¬ (5 + a = 5 + k) := by omega
    simp [h]
theorem k_b_row {z : x_S} {r j q : Nat} {v : Int32} (h : r ≠ q) (h1 : r ≠ q + 1) : k_b (x_up z r j v) q = k_b z q := by
  funext a
  unfold k_b
  split
  · rw [x_up_row (by omega)]
  · rfl
theorem k_b_up {z : x_S} {k b q : Nat} {v : Int32} (hk : k < 2) (hb : b < 32) : k_b (x_up z (q + k) b v) q = upd (k_b z q) (32 * k + b) v := by
  funext a
  unfold k_b upd
  rw [x_up_at]
  by_cases h : a = 32 * k + b
  · subst h
    rw [if_pos (by omega), if_pos (by omega), if_pos rfl]
  · rw [if_neg (show ¬ (q + a / 32 = q + k ∧ a % 32 = b) by omega), if_neg h]
theorem k_col_at {z : x_S} {k c : Nat} (hk : k < 2) : k_col z c (nI k).toNatClampNeg = z (5 + k) c := by
  rw [x_cl hk]; unfold k_col; rw [if_pos hk]
theorem k_cl64 {k b : Nat} (hk : k < 2) (hb : b < 32) : (nI (32 * k + b)).toNatClampNeg = 32 * k + b := nI_clamp (by omega)
theorem k_in64 {k b : Nat} (hk : k < 2) (hb : b < 32) : vp_in (nI (32 * k + b)) 64 := vp_in_nI (by omega) (by decide)
theorem k_b_at {z : x_S} {k b q : Nat} (hk : k < 2) (hb : b < 32) : k_b z q (nI (32 * k + b)).toNatClampNeg = z (q + k) b := by
  rw [k_cl64 hk hb]; unfold k_b
  rw [if_pos (by omega), show (32 * k + b) / 32 = k by omega, show (32 * k + b) % 32 = b by omega]
theorem k_ix {k b : Nat} : nI k * 32 + nI b = nI (32 * k + b) := by
  rw [show nI k * 32 = nI (k * 32) from x_nmul k 32, nI_add, Nat.mul_comm]
def k_f (kd : Nat → Nat) (z : x_S) : List Value := [.int (z 1 0), .ref (kd 1), .ref (kd 2), .ref (kd 3), .ref (kd 4), .ref (kd 5), .ref (kd 6), .ref (kd 7), .ref (kd 8), .ref (kd 9), .int (z 0 6), .int (z 0 7), .int (z 1 3), .int (z 0 1), .int (z 0 0), .int (z 1 1), .int (z 1 2), .int (z 1 4), .int (z 2 0), .ref (kd 10), .ref (kd 11)]
def k_W (cI cZ : ClassId) (kd : Nat → Nat) (f : List Value) (s c h dn al co ge ba ma ec ev : Nat → Int32) : va_W := [(kd 0, .inr (5, f)), (kd 1, .inl (cI, 64, .inl s)), (kd 2, .inl (cI, 64, .inl c)), (kd 3, .inl (cZ, 64, .inl h)), (kd 4, .inl (cZ, 2, .inl dn)), (kd 5, .inl (cZ, 2, .inl al)), (kd 6, .inl (cZ, 2, .inl co)), (kd 7, .inl (cI, 2, .inl ge)), (kd 8, .inl (cI, 2, .inl ba)), (kd 9, .inl (cI, 2, .inl ma)), (kd 10, .inl (cI, 3, .inl ec)), (kd 11, .inl (cI, 3, .inl ev))]
def k_w (cI cZ : ClassId) (kd : Nat → Nat) (z : x_S) : va_W := k_W cI cZ kd (k_f kd z) (k_b z 7) (k_b z 9) (k_b z 11) (k_col z 0) (k_col z 4) (k_col z 6) (k_col z 2) (k_col z 3) (k_col z 5) (z 3) (z 4)
abbrev k_ty (cI cZ : ClassId) : List (ClassId × FieldType) := [(cI, .int), (cZ, .boolean)]
section KW
variable {cI cZ : ClassId} {kd : Nat → Nat} {z : x_S}
theorem k_h0 : (k_w cI cZ kd z)[0]? = some (kd 0, .inr (5, k_f kd z)) := rfl
theorem k_h1 : (k_w cI cZ kd z)[1]? = some (kd 1, .inl (cI, 64, .inl (k_b z 7))) := rfl
theorem k_h2 : (k_w cI cZ kd z)[2]? = some (kd 2, .inl (cI, 64, .inl (k_b z 9))) := rfl
theorem k_h3 : (k_w cI cZ kd z)[3]? = some (kd 3, .inl (cZ, 64, .inl (k_b z 11))) := rfl
theorem k_h4 : (k_w cI cZ kd z)[4]? = some (kd 4, .inl (cZ, 2, .inl (k_col z 0))) := rfl
theorem k_h5 : (k_w cI cZ kd z)[5]? = some (kd 5, .inl (cZ, 2, .inl (k_col z 4))) := rfl
theorem k_h6 : (k_w cI cZ kd z)[6]? = some (kd 6, .inl (cZ, 2, .inl (k_col z 6))) := rfl
theorem k_h7 : (k_w cI cZ kd z)[7]? = some (kd 7, .inl (cI, 2, .inl (k_col z 2))) := rfl
theorem k_h8 : (k_w cI cZ kd z)[8]? = some (kd 8, .inl (cI, 2, .inl (k_col z 3))) := rfl
theorem k_h9 : (k_w cI cZ kd z)[9]? = some (kd 9, .inl (cI, 2, .inl (k_col z 5))) := rfl
theorem k_h10 : (k_w cI cZ kd z)[10]? = some (kd 10, .inl (cI, 3, .inl (z 3))) := rfl
theorem k_h11 : (k_w cI cZ kd z)[11]? = some (kd 11, .inl (cI, 3, .inl (z 4))) := rfl
theorem k_s0_0 (v : Int32) : (k_w cI cZ kd z).set 0 (kd 0, .inr (5, (k_f kd z).set 0 (.int v))) = k_w cI cZ kd (x_up z 1 0 v) := by
  have e1 : k_w cI cZ kd (x_up z 1 0 v) = k_W cI cZ kd (k_f kd (x_up z 1 0 v)) (k_b z 7) (k_b z 9) (k_b z 11) (k_col z 0) (k_col z 4) (k_col z 6) (k_col z 2) (k_col z 3) (k_col z 5) (z 3) (z 4) := by
    unfold k_w
    rw [k_b_row (by decide) (by decide), k_b_row (by decide) (by decide), k_b_row (by decide) (by decide), k_col_row (by decide) (by decide), k_col_row (by decide) (by decide), k_col_row (by decide) (by decide), k_col_row (by decide) (by decide), k_col_row (by decide) (by decide), k_col_row (by decide) (by decide), x_up_row (by decide), x_up_row (by decide)]
  rw [e1]; rfl
theorem k_s0_10 (v : Int32) : (k_w cI cZ kd z).set 0 (kd 0, .inr (5, (k_f kd z).set 10 (.int v))) = k_w cI cZ kd (x_up z 0 6 v) := by
  have e1 : k_w cI cZ kd (x_up z 0 6 v) = k_W cI cZ kd (k_f kd (x_up z 0 6 v)) (k_b z 7) (k_b z 9) (k_b z 11) (k_col z 0) (k_col z 4) (k_col z 6) (k_col z 2) (k_col z 3) (k_col z 5) (z 3) (z 4) := by
    unfold k_w
    rw [k_b_row (by decide) (by decide), k_b_row (by decide) (by decide), k_b_row (by decide) (by decide), k_col_row (by decide) (by decide), k_col_row (by decide) (by decide), k_col_row (by decide) (by decide), k_col_row (by decide) (by decide), k_col_row (by decide) (by decide), k_col_row (by decide) (by decide), x_up_row (by decide), x_up_row (by decide)]
  rw [e1]; rfl
theorem k_s0_11 (v : Int32) : (k_w cI cZ kd z).set 0 (kd 0, .inr (5, (k_f kd z).set 11 (.int v))) = k_w cI cZ kd (x_up z 0 7 v) := by
  have e1 : k_w cI cZ kd (x_up z 0 7 v) = k_W cI cZ kd (k_f kd (x_up z 0 7 v)) (k_b z 7) (k_b z 9) (k_b z 11) (k_col z 0) (k_col z 4) (k_col z 6) (k_col z 2) (k_col z 3) (k_col z 5) (z 3) (z 4) := by
    unfold k_w
    rw [k_b_row (by decide) (by decide), k_b_row (by decide) (by decide), k_b_row (by decide) (by decide), k_col_row (by decide) (by decide), k_col_row (by decide) (by decide), k_col_row (by decide) (by decide), k_col_row (by decide) (by decide), k_col_row (by decide) (by decide), k_col_row (by decide) (by decide), x_up_row (by decide), x_up_row (by decide)]
  rw [e1]; rfl
theorem k_s0_12 (v : Int32) : (k_w cI cZ kd z).set 0 (kd 0, .inr (5, (k_f kd z).set 12 (.int v))) = k_w cI cZ kd (x_up z 1 3 v) := by
  have e1 : k_w cI cZ kd (x_up z 1 3 v) = k_W cI cZ kd (k_f kd (x_up z 1 3 v)) (k_b z 7) (k_b z 9) (k_b z 11) (k_col z 0) (k_col z 4) (k_col z 6) (k_col z 2) (k_col z 3) (k_col z 5) (z 3) (z 4) := by
    unfold k_w
    rw [k_b_row (by decide) (by decide), k_b_row (by decide) (by decide), k_b_row (by decide) (by decide), k_col_row (by decide) (by decide), k_col_row (by decide) (by decide), k_col_row (by decide) (by decide), k_col_row (by decide) (by decide), k_col_row (by decide) (by decide), k_col_row (by decide) (by decide), x_up_row (by decide), x_up_row (by decide)]
  rw [e1]; rfl
theorem k_s0_13 (v : Int32) : (k_w cI cZ kd z).set 0 (kd 0, .inr (5, (k_f kd z).set 13 (.int v))) = k_w cI cZ kd (x_up z 0 1 v) := by
  have e1 : k_w cI cZ kd (x_up z 0 1 v) = k_W cI cZ kd (k_f kd (x_up z 0 1 v)) (k_b z 7) (k_b z 9) (k_b z 11) (k_col z 0) (k_col z 4) (k_col z 6) (k_col z 2) (k_col z 3) (k_col z 5) (z 3) (z 4) := by
    unfold k_w
    rw [k_b_row (by decide) (by decide), k_b_row (by decide) (by decide), k_b_row (by decide) (by decide), k_col_row (by decide) (by decide), k_col_row (by decide) (by decide), k_col_row (by decide) (by decide), k_col_row (by decide) (by decide), k_col_row (by decide) (by decide), k_col_row (by decide) (by decide), x_up_row (by decide), x_up_row (by decide)]
  rw [e1]; rfl
theorem k_s0_14 (v : Int32) : (k_w cI cZ kd z).set 0 (kd 0, .inr (5, (k_f kd z).set 14 (.int v))) = k_w cI cZ kd (x_up z 0 0 v) := by
  have e1 : k_w cI cZ kd (x_up z 0 0 v) = k_W cI cZ kd (k_f kd (x_up z 0 0 v)) (k_b z 7) (k_b z 9) (k_b z 11) (k_col z 0) (k_col z 4) (k_col z 6) (k_col z 2) (k_col z 3) (k_col z 5) (z 3) (z 4) := by
    unfold k_w
    rw [k_b_row (by decide) (by decide), k_b_row (by decide) (by decide), k_b_row (by decide) (by decide), k_col_row (by decide) (by decide), k_col_row (by decide) (by decide), k_col_row (by decide) (by decide), k_col_row (by decide) (by decide), k_col_row (by decide) (by decide), k_col_row (by decide) (by decide), x_up_row (by decide), x_up_row (by decide)]
  rw [e1]; rfl
theorem k_s0_15 (v : Int32) : (k_w cI cZ kd z).set 0 (kd 0, .inr (5, (k_f kd z).set 15 (.int v))) = k_w cI cZ kd (x_up z 1 1 v) := by
  have e1 : k_w cI cZ kd (x_up z 1 1 v) = k_W cI cZ kd (k_f kd (x_up z 1 1 v)) (k_b z 7) (k_b z 9) (k_b z 11) (k_col z 0) (k_col z 4) (k_col z 6) (k_col z 2) (k_col z 3) (k_col z 5) (z 3) (z 4) := by
    unfold k_w
    rw [k_b_row (by decide) (by decide), k_b_row (by decide) (by decide), k_b_row (by decide) (by decide), k_col_row (by decide) (by decide), k_col_row (by decide) (by decide), k_col_row (by decide) (by decide), k_col_row (by decide) (by decide), k_col_row (by decide) (by decide), k_col_row (by decide) (by decide), x_up_row (by decide), x_up_row (by decide)]
  rw [e1]; rfl
theorem k_s0_16 (v : Int32) : (k_w cI cZ kd z).set 0 (kd 0, .inr (5, (k_f kd z).set 16 (.int v))) = k_w cI cZ kd (x_up z 1 2 v) := by
  have e1 : k_w cI cZ kd (x_up z 1 2 v) = k_W cI cZ kd (k_f kd (x_up z 1 2 v)) (k_b z 7) (k_b z 9) (k_b z 11) (k_col z 0) (k_col z 4) (k_col z 6) (k_col z 2) (k_col z 3) (k_col z 5) (z 3) (z 4) := by
    unfold k_w
    rw [k_b_row (by decide) (by decide), k_b_row (by decide) (by decide), k_b_row (by decide) (by decide), k_col_row (by decide) (by decide), k_col_row (by decide) (by decide), k_col_row (by decide) (by decide), k_col_row (by decide) (by decide), k_col_row (by decide) (by decide), k_col_row (by decide) (by decide), x_up_row (by decide), x_up_row (by decide)]
  rw [e1]; rfl
theorem k_s0_17 (v : Int32) : (k_w cI cZ kd z).set 0 (kd 0, .inr (5, (k_f kd z).set 17 (.int v))) = k_w cI cZ kd (x_up z 1 4 v) := by
  have e1 : k_w cI cZ kd (x_up z 1 4 v) = k_W cI cZ kd (k_f kd (x_up z 1 4 v)) (k_b z 7) (k_b z 9) (k_b z 11) (k_col z 0) (k_col z 4) (k_col z 6) (k_col z 2) (k_col z 3) (k_col z 5) (z 3) (z 4) := by
    unfold k_w
    rw [k_b_row (by decide) (by decide), k_b_row (by decide) (by decide), k_b_row (by decide) (by decide), k_col_row (by decide) (by decide), k_col_row (by decide) (by decide), k_col_row (by decide) (by decide), k_col_row (by decide) (by decide), k_col_row (by decide) (by decide), k_col_row (by decide) (by decide), x_up_row (by decide), x_up_row (by decide)]
  rw [e1]; rfl
theorem k_s0_18 (v : Int32) : (k_w cI cZ kd z).set 0 (kd 0, .inr (5, (k_f kd z).set 18 (.int v))) = k_w cI cZ kd (x_up z 2 0 v) := by
  have e1 : k_w cI cZ kd (x_up z 2 0 v) = k_W cI cZ kd (k_f kd (x_up z 2 0 v)) (k_b z 7) (k_b z 9) (k_b z 11) (k_col z 0) (k_col z 4) (k_col z 6) (k_col z 2) (k_col z 3) (k_col z 5) (z 3) (z 4) := by
    unfold k_w
    rw [k_b_row (by decide) (by decide), k_b_row (by decide) (by decide), k_b_row (by decide) (by decide), k_col_row (by decide) (by decide), k_col_row (by decide) (by decide), k_col_row (by decide) (by decide), k_col_row (by decide) (by decide), k_col_row (by decide) (by decide), k_col_row (by decide) (by decide), x_up_row (by decide), x_up_row (by decide)]
  rw [e1]; rfl
theorem k_f_row {r j : Nat} {v : Int32} (h : 3 ≤ r) : k_f kd (x_up z r j v) = k_f kd z := by
  unfold k_f
  rw [x_up_row (show 0 ≠ r by omega), x_up_row (show 1 ≠ r by omega), x_up_row (show 2 ≠ r by omega)]
theorem k_s4 {k : Nat} (hk : k < 2) (v : Int32) : (k_w cI cZ kd z).set 4 (kd 4, .inl (cZ, 2, .inl (upd (k_col z 0) k v))) = k_w cI cZ kd (x_up z (5 + k) 0 v) := by
  have e1 : k_w cI cZ kd (x_up z (5 + k) 0 v) = k_W cI cZ kd (k_f kd z) (k_b z 7) (k_b z 9) (k_b z 11) (upd (k_col z 0) k v) (k_col z 4) (k_col z 6) (k_col z 2) (k_col z 3) (k_col z 5) (z 3) (z 4) := by
    unfold k_w
    rw [k_f_row (by omega), k_b_row (by omega) (by omega), k_b_row (by omega) (by omega), k_b_row (by omega) (by omega), k_col_up hk, k_col_c (c := 4) (by decide), k_col_c (c := 6) (by decide), k_col_c (c := 2) (by decide), k_col_c (c := 3) (by decide), k_col_c (c := 5) (by decide), x_up_row (show 3 ≠ 5 + k by omega), x_up_row (show 4 ≠ 5 + k by omega)]
  rw [e1]; rfl
theorem k_s5 {k : Nat} (hk : k < 2) (v : Int32) : (k_w cI cZ kd z).set 5 (kd 5, .inl (cZ, 2, .inl (upd (k_col z 4) k v))) = k_w cI cZ kd (x_up z (5 + k) 4 v) := by
  have e1 : k_w cI cZ kd (x_up z (5 + k) 4 v) = k_W cI cZ kd (k_f kd z) (k_b z 7) (k_b z 9) (k_b z 11) (k_col z 0) (upd (k_col z 4) k v) (k_col z 6) (k_col z 2) (k_col z 3) (k_col z 5) (z 3) (z 4) := by
    unfold k_w
    rw [k_f_row (by omega), k_b_row (by omega) (by omega), k_b_row (by omega) (by omega), k_b_row (by omega) (by omega), k_col_c (c := 0) (by decide), k_col_up hk, k_col_c (c := 6) (by decide), k_col_c (c := 2) (by decide), k_col_c (c := 3) (by decide), k_col_c (c := 5) (by decide), x_up_row (show 3 ≠ 5 + k by omega), x_up_row (show 4 ≠ 5 + k by omega)]
  rw [e1]; rfl
theorem k_s6 {k : Nat} (hk : k < 2) (v : Int32) : (k_w cI cZ kd z).set 6 (kd 6, .inl (cZ, 2, .inl (upd (k_col z 6) k v))) = k_w cI cZ kd (x_up z (5 + k) 6 v) := by
  have e1 : k_w cI cZ kd (x_up z (5 + k) 6 v) = k_W cI cZ kd (k_f kd z) (k_b z 7) (k_b z 9) (k_b z 11) (k_col z 0) (k_col z 4) (upd (k_col z 6) k v) (k_col z 2) (k_col z 3) (k_col z 5) (z 3) (z 4) := by
    unfold k_w
    rw [k_f_row (by omega), k_b_row (by omega) (by omega), k_b_row (by omega) (by omega), k_b_row (by omega) (by omega), k_col_c (c := 0) (by decide), k_col_c (c := 4) (by decide), k_col_up hk, k_col_c (c := 2) (by decide), k_col_c (c := 3) (by decide), k_col_c (c := 5) (by decide), x_up_row (show 3 ≠ 5 + k by omega), x_up_row (show 4 ≠ 5 + k by omega)]
  rw [e1]; rfl
theorem k_s7 {k : Nat} (hk : k < 2) (v : Int32) : (k_w cI cZ kd z).set 7 (kd 7, .inl (cI, 2, .inl (upd (k_col z 2) k v))) = k_w cI cZ kd (x_up z (5 + k) 2 v) := by
  have e1 : k_w cI cZ kd (x_up z (5 + k) 2 v) = k_W cI cZ kd (k_f kd z) (k_b z 7) (k_b z 9) (k_b z 11) (k_col z 0) (k_col z 4) (k_col z 6) (upd (k_col z 2) k v) (k_col z 3) (k_col z 5) (z 3) (z 4) := by
    unfold k_w
    rw [k_f_row (by omega), k_b_row (by omega) (by omega), k_b_row (by omega) (by omega), k_b_row (by omega) (by omega), k_col_c (c := 0) (by decide), k_col_c (c := 4) (by decide), k_col_c (c := 6) (by decide), k_col_up hk, k_col_c (c := 3) (by decide), k_col_c (c := 5) (by decide), x_up_row (show 3 ≠ 5 + k by omega), x_up_row (show 4 ≠ 5 + k by omega)]
  rw [e1]; rfl
theorem k_s8 {k : Nat} (hk : k < 2) (v : Int32) : (k_w cI cZ kd z).set 8 (kd 8, .inl (cI, 2, .inl (upd (k_col z 3) k v))) = k_w cI cZ kd (x_up z (5 + k) 3 v) := by
  have e1 : k_w cI cZ kd (x_up z (5 + k) 3 v) = k_W cI cZ kd (k_f kd z) (k_b z 7) (k_b z 9) (k_b z 11) (k_col z 0) (k_col z 4) (k_col z 6) (k_col z 2) (upd (k_col z 3) k v) (k_col z 5) (z 3) (z 4) := by
    unfold k_w
    rw [k_f_row (by omega), k_b_row (by omega) (by omega), k_b_row (by omega) (by omega), k_b_row (by omega) (by omega), k_col_c (c := 0) (by decide), k_col_c (c := 4) (by decide), k_col_c (c := 6) (by decide), k_col_c (c := 2) (by decide), k_col_up hk, k_col_c (c := 5) (by decide), x_up_row (show 3 ≠ 5 + k by omega), x_up_row (show 4 ≠ 5 + k by omega)]
  rw [e1]; rfl
theorem k_s9 {k : Nat} (hk : k < 2) (v : Int32) : (k_w cI cZ kd z).set 9 (kd 9, .inl (cI, 2, .inl (upd (k_col z 5) k v))) = k_w cI cZ kd (x_up z (5 + k) 5 v) := by
  have e1 : k_w cI cZ kd (x_up z (5 + k) 5 v) = k_W cI cZ kd (k_f kd z) (k_b z 7) (k_b z 9) (k_b z 11) (k_col z 0) (k_col z 4) (k_col z 6) (k_col z 2) (k_col z 3) (upd (k_col z 5) k v) (z 3) (z 4) := by
    unfold k_w
    rw [k_f_row (by omega), k_b_row (by omega) (by omega), k_b_row (by omega) (by omega), k_b_row (by omega) (by omega), k_col_c (c := 0) (by decide), k_col_c (c := 4) (by decide), k_col_c (c := 6) (by decide), k_col_c (c := 2) (by decide), k_col_c (c := 3) (by decide), k_col_up hk, x_up_row (show 3 ≠ 5 + k by omega), x_up_row (show 4 ≠ 5 + k by omega)]
  rw [e1]; rfl
theorem k_s1 {k b : Nat} (hk : k < 2) (hb : b < 32) (v : Int32) : (k_w cI cZ kd z).set 1 (kd 1, .inl (cI, 64, .inl (upd (k_b z 7) (32 * k + b) v))) = k_w cI cZ kd (x_up z (7 + k) b v) := by
  have e1 : k_w cI cZ kd (x_up z (7 + k) b v) = k_W cI cZ kd (k_f kd z) (upd (k_b z 7) (32 * k + b) v) (k_b z 9) (k_b z 11) (k_col z 0) (k_col z 4) (k_col z 6) (k_col z 2) (k_col z 3) (k_col z 5) (z 3) (z 4) := by
    unfold k_w
    rw [k_f_row (by omega), k_b_up hk hb, k_b_row (q := 9) (by omega) (by omega), k_b_row (q := 11) (by omega) (by omega), k_col_row (c := 0) (by omega) (by omega), k_col_row (c := 4) (by omega) (by omega), k_col_row (c := 6) (by omega) (by omega), k_col_row (c := 2) (by omega) (by omega), k_col_row (c := 3) (by omega) (by omega), k_col_row (c := 5) (by omega) (by omega), x_up_row (show 3 ≠ 7 + k by omega), x_up_row (show 4 ≠ 7 + k by omega)]
  rw [e1]; rfl
theorem k_s2 {k b : Nat} (hk : k < 2) (hb : b < 32) (v : Int32) : (k_w cI cZ kd z).set 2 (kd 2, .inl (cI, 64, .inl (upd (k_b z 9) (32 * k + b) v))) = k_w cI cZ kd (x_up z (9 + k) b v) := by
  have e1 : k_w cI cZ kd (x_up z (9 + k) b v) = k_W cI cZ kd (k_f kd z) (k_b z 7) (upd (k_b z 9) (32 * k + b) v) (k_b z 11) (k_col z 0) (k_col z 4) (k_col z 6) (k_col z 2) (k_col z 3) (k_col z 5) (z 3) (z 4) := by
    unfold k_w
    rw [k_f_row (by omega), k_b_row (q := 7) (by omega) (by omega), k_b_up hk hb, k_b_row (q := 11) (by omega) (by omega), k_col_row (c := 0) (by omega) (by omega), k_col_row (c := 4) (by omega) (by omega), k_col_row (c := 6) (by omega) (by omega), k_col_row (c := 2) (by omega) (by omega), k_col_row (c := 3) (by omega) (by omega), k_col_row (c := 5) (by omega) (by omega), x_up_row (show 3 ≠ 9 + k by omega), x_up_row (show 4 ≠ 9 + k by omega)]
  rw [e1]; rfl
theorem k_s3 {k b : Nat} (hk : k < 2) (hb : b < 32) (v : Int32) : (k_w cI cZ kd z).set 3 (kd 3, .inl (cZ, 64, .inl (upd (k_b z 11) (32 * k + b) v))) = k_w cI cZ kd (x_up z (11 + k) b v) := by
  have e1 : k_w cI cZ kd (x_up z (11 + k) b v) = k_W cI cZ kd (k_f kd z) (k_b z 7) (k_b z 9) (upd (k_b z 11) (32 * k + b) v) (k_col z 0) (k_col z 4) (k_col z 6) (k_col z 2) (k_col z 3) (k_col z 5) (z 3) (z 4) := by
    unfold k_w
    rw [k_f_row (by omega), k_b_row (q := 7) (by omega) (by omega), k_b_row (q := 9) (by omega) (by omega), k_b_up hk hb, k_col_row (c := 0) (by omega) (by omega), k_col_row (c := 4) (by omega) (by omega), k_col_row (c := 6) (by omega) (by omega), k_col_row (c := 2) (by omega) (by omega), k_col_row (c := 3) (by omega) (by omega), k_col_row (c := 5) (by omega) (by omega), x_up_row (show 3 ≠ 11 + k by omega), x_up_row (show 4 ≠ 11 + k by omega)]
  rw [e1]; rfl
theorem k_s10 (j : Nat) (v : Int32) : (k_w cI cZ kd z).set 10 (kd 10, .inl (cI, 3, .inl (upd (z 3) j v))) = k_w cI cZ kd (x_up z 3 j v) := by
  have e1 : k_w cI cZ kd (x_up z 3 j v) = k_W cI cZ kd (k_f kd z) (k_b z 7) (k_b z 9) (k_b z 11) (k_col z 0) (k_col z 4) (k_col z 6) (k_col z 2) (k_col z 3) (k_col z 5) (upd (z 3) j v) (z 4) := by
    unfold k_w
    rw [k_f_row (by omega), k_b_row (by omega) (by omega), k_b_row (by omega) (by omega), k_b_row (by omega) (by omega), k_col_row (by omega) (by omega), k_col_row (by omega) (by omega), k_col_row (by omega) (by omega), k_col_row (by omega) (by omega), k_col_row (by omega) (by omega), k_col_row (by omega) (by omega), x_up_own, x_up_row (by decide)]
  rw [e1]; rfl
theorem k_s11 (j : Nat) (v : Int32) : (k_w cI cZ kd z).set 11 (kd 11, .inl (cI, 3, .inl (upd (z 4) j v))) = k_w cI cZ kd (x_up z 4 j v) := by
  have e1 : k_w cI cZ kd (x_up z 4 j v) = k_W cI cZ kd (k_f kd z) (k_b z 7) (k_b z 9) (k_b z 11) (k_col z 0) (k_col z 4) (k_col z 6) (k_col z 2) (k_col z 3) (k_col z 5) (z 3) (upd (z 4) j v) := by
    unfold k_w
    rw [k_f_row (by omega), k_b_row (by omega) (by omega), k_b_row (by omega) (by omega), k_b_row (by omega) (by omega), k_col_row (by omega) (by omega), k_col_row (by omega) (by omega), k_col_row (by omega) (by omega), k_col_row (by omega) (by omega), k_col_row (by omega) (by omega), k_col_row (by omega) (by omega), x_up_row (by decide), x_up_own]
  rw [e1]; rfl
end KW
end
section
-- ===== 21.kspec: what each method of the reference does to its state z
def k_out (v n : Int32) : Int32 := if v < 0 then 1 else if v < n then 0 else 1
def k_held (z : x_S) (k b : Nat) : Int32 := if z (11 + k) b = 0 then z (7 + k) b else z (9 + k) b
def k_ext (b : Nat) : Int32 := 1 <<< ((nI b / 4) &&& 31)
def k_disc (z : x_S) : x_S := x_up (x_up z 0 1 0) 0 7 2
def k_noP (z : x_S) : x_S := x_up (x_up z 0 6 2) 2 0 0
def k_keep (z : x_S) (k b : Nat) (v : Int32) : x_S := x_up (x_up z (9 + k) b v) (11 + k) b 1
def k_wr (z : x_S) (k b : Nat) (v : Int32) : x_S := if k_keep z k b v 0 1 = 0 then x_up (k_keep z k b v) (5 + k) 5 (k_keep z k b v (5 + k) 5 ||| k_ext b) else k_keep (k_keep z k b v) (1 - k) b v
def k_setB (z : x_S) (k i : Nat) : x_S := x_up (x_up z (7 + k) i (k_held z k i)) (11 + k) i 0
def k_setL (k : Nat) : Nat → Nat → x_S → x_S
  | 0, _, z => z
  | n + 1, i, z => k_setL k n (i + 1) (k_setB z k i)
def k_settle (z : x_S) (k : Nat) : x_S := k_setL k 32 0 z
def k_fl (z : x_S) (k : Nat) : x_S := if z 0 1 = 0 then k_settle z k else k_settle (k_settle z (1 - k)) k
def k_step (z : x_S) (k n t : Nat) : x_S :=
  if t = 0 then k_fl z k else if t = 2 then k_fl z k else if t = 3 + 2 * n then k_fl z k else if t = 3 + 2 * n + 2 then k_fl z k
  else if t = 1 then k_wr z k 24 0 else if t = 3 + 2 * n + 1 then k_wr z k 24 (nI n)
  else if 3 + 2 * n ≤ t then (if 3 + 2 * n + 3 + n ≤ t then z else k_wr z k (z 3 (t - (3 + 2 * n) - 3)).toNatClampNeg (z 4 (t - (3 + 2 * n) - 3)))
  else if (t - 3) % 2 = 0 then k_wr z k (25 + 2 * ((t - 3) / 2)) (z 3 ((t - 3) / 2)) else k_wr z k (26 + 2 * ((t - 3) / 2)) (z 4 ((t - 3) / 2))
theorem k_keep_low {z : x_S} {k b a : Nat} {v : Int32} (h : a ≤ 8) : k_keep z k b v a = z a := by
  unfold k_keep
  rw [x_up_row (by omega), x_up_row (by omega)]
theorem k_setB_low {z : x_S} {k i a : Nat} (h : a ≤ 6) : k_setB z k i a = z a := by
  unfold k_setB
  rw [x_up_row (by omega), x_up_row (by omega)]
theorem k_setL_low {k a : Nat} (h : a ≤ 6) : ∀ (n i : Nat) (z : x_S), k_setL k n i z a = z a
  | 0, _, _ => rfl
  | n + 1, i, z => by rw [k_setL, k_setL_low h n, k_setB_low h]
theorem k_settle_low {z : x_S} {k a : Nat} (h : a ≤ 6) : k_settle z k a = z a := k_setL_low h _ _ _
theorem k_fl_low {z : x_S} {k a : Nat} (h : a ≤ 6) : k_fl z k a = z a := by
  unfold k_fl
  split
  · exact k_settle_low h
  · rw [k_settle_low h, k_settle_low h]
theorem k_wr_low {z : x_S} {k b a : Nat} {v : Int32} (h : a ≤ 4) : k_wr z k b v a = z a := by
  unfold k_wr
  split
  · rw [x_up_row (by omega), k_keep_low (by omega)]
  · rw [k_keep_low (by omega), k_keep_low (by omega)]
theorem k_step_low {z : x_S} {k n t a : Nat} (h : a ≤ 4) : k_step z k n t a = z a := by
  unfold k_step
  repeat' split
  all_goals first | rfl | exact k_fl_low (by omega) | exact k_wr_low h
theorem k_and1 {n : Nat} (h : n < 2 ^ 31) : nI n &&& 1 = nI (n % 2) := pk_andN (by omega) 1 (by decide)
end
section
-- ===== 22.k1: the reference: leaves and the steps
set_option maxHeartbeats 4000000 in
set_option maxRecDepth 100000 in
theorem c_K_out_ok (l : Launch) (D : va_G) (cI cZ : ClassId) (kd : Nat → Nat) (z : x_S) (v n : Int32) : x_C l y_K_out c_K_out 3 (some .boolean) { frames := 0, cells := 0, slots := 0, locals := 0 } D (k_ty cI cZ) (k_w cI cZ kd z) [.ref (kd 0), .int v, .int n] (some (.int (k_out v n))) (k_w cI cZ kd z) := by
  refine x_C.of (by decide) (Nat.le_of_ble_eq_true rfl) ?_
  intro p e s m below meth c hx hb hr hml hts hown hlk A hA hK hS hP hD ls hl
  have hown : s.vm.findClass R_K = some m.cls := hown
  have hl : lv_has ls 3 [(0, .ref (kd 0)), (1, .int v), (2, .int n)] := hl
  refine lv_iload_n hx hb d_K_out_0 rfl (lv_at hl 1 rfl) ?_
  refine lv_if_lt (tgt := 9) hx hb d_K_out_1 (by decide) (fun c1 => ?_) (fun c1 => ?_)
  · refine lv_iconst (v := 1) hx hb d_K_out_9 (by decide) ?_
    refine lv_goto (tgt := 14) hx hb d_K_out_10 (by decide) ?_
    exact x_rz (by first | (simp only [k_out, if_pos c1]; done) | rfl | (simp only [k_out, if_pos c1]; rfl)) rfl hx hb hr hlk hP hD hS d_K_out_14
  · refine lv_iload_n hx hb d_K_out_4 rfl (lv_at hl 1 rfl) ?_
    refine lv_iload_n hx hb d_K_out_5 rfl (lv_at hl 2 rfl) ?_
    refine lv_icmp_lt (tgt := 13) hx hb d_K_out_6 (by decide) (fun c2 => ?_) (fun c2 => ?_)
    · refine lv_iconst (v := 0) hx hb d_K_out_13 (by decide) ?_
      exact x_rz (by first | (simp only [k_out, if_neg c1, if_pos c2]; done) | rfl | (simp only [k_out, if_neg c1, if_pos c2]; rfl)) rfl hx hb hr hlk hP hD hS d_K_out_14
    · refine lv_iconst (v := 1) hx hb d_K_out_9 (by decide) ?_
      refine lv_goto (tgt := 14) hx hb d_K_out_10 (by decide) ?_
      exact x_rz (by first | (simp only [k_out, if_neg c1, if_neg c2]; done) | rfl | (simp only [k_out, if_neg c1, if_neg c2]; rfl)) rfl hx hb hr hlk hP hD hS d_K_out_14
set_option maxHeartbeats 4000000 in
set_option maxRecDepth 100000 in
theorem c_K_holds_ok (l : Launch) (D : va_G) (cI cZ : ClassId) (kd : Nat → Nat) (z : x_S) (k : Nat) (hk : k < 2) (b : Nat) (hb32 : b < 32) : x_C l y_K_holds c_K_holds 3 (some .int) { frames := 0, cells := 0, slots := 0, locals := 0 } D (k_ty cI cZ) (k_w cI cZ kd z) [.ref (kd 0), .int (nI k), .int (nI b)] (some (.int (k_held z k b))) (k_w cI cZ kd z) := by
  refine x_C.of (by decide) (Nat.le_of_ble_eq_true rfl) ?_
  intro p e s m below meth c hx hb hr hml hts hown hlk A hA hK hS hP hD ls hl
  have hown : s.vm.findClass R_K = some m.cls := hown
  have hl : lv_has ls 3 [(0, .ref (kd 0)), (1, .int (nI k)), (2, .int (nI b))] := hl
  refine lv_aload_n hx hb d_K_holds_0 rfl (lv_at hl 0 rfl) ?_
  refine va_get (D := D) (ci := 5) (C := R_K) (T := T_K) (N := 21) hx hb hts in_K hown hK hP 0 k_h0 rfl 3 (by decide) (hts _ gm_403) (fun _ h9 => h9) rfl d_K_holds_1 ?_
  refine lv_iload_n hx hb d_K_holds_4 rfl (lv_at hl 1 rfl) ?_
  refine lv_bipush (v := 32) hx hb d_K_holds_5 (by decide) ?_
  refine lv_imul hx hb d_K_holds_7 ?_
  refine lv_iload_n hx hb d_K_holds_8 rfl (lv_at hl 2 rfl) ?_
  refine lv_iadd hx hb d_K_holds_9 ?_
  refine x_top (show ((nI k) * 32) + (nI b) = nI (32 * k + b) from k_ix) ?_
  refine va_zald (D := D) hx hb hK hP 3 1 k_h3 rfl (k_in64 hk hb32) d_K_holds_10 ?_
  refine x_top (k_b_at hk hb32) ?_
  refine lv_if_eq (tgt := 28) hx hb d_K_holds_11 (by decide) (fun c1 => ?_) (fun c1 => ?_)
  · refine lv_aload_n hx hb d_K_holds_28 rfl (lv_at hl 0 rfl) ?_
    refine va_get (D := D) (ci := 5) (C := R_K) (T := T_K) (N := 21) hx hb hts in_K hown hK hP 0 k_h0 rfl 1 (by decide) (hts _ gm_401) (fun _ h9 => h9) rfl d_K_holds_29 ?_
    refine lv_iload_n hx hb d_K_holds_32 rfl (lv_at hl 1 rfl) ?_
    refine lv_bipush (v := 32) hx hb d_K_holds_33 (by decide) ?_
    refine lv_imul hx hb d_K_holds_35 ?_
    refine lv_iload_n hx hb d_K_holds_36 rfl (lv_at hl 2 rfl) ?_
    refine lv_iadd hx hb d_K_holds_37 ?_
    refine x_top (show ((nI k) * 32) + (nI b) = nI (32 * k + b) from k_ix) ?_
    refine va_iald (D := D) hx hb hK hP 1 0 k_h1 rfl (k_in64 hk hb32) d_K_holds_38 ?_
    refine x_top (k_b_at hk hb32) ?_
    exact x_rp (by first | (simp only [k_held, if_pos c1]; done) | rfl | (simp only [k_held, if_pos c1]; rfl)) hx hb hr hlk hP hD hS d_K_holds_39
  · refine lv_aload_n hx hb d_K_holds_14 rfl (lv_at hl 0 rfl) ?_
    refine va_get (D := D) (ci := 5) (C := R_K) (T := T_K) (N := 21) hx hb hts in_K hown hK hP 0 k_h0 rfl 2 (by decide) (hts _ gm_402) (fun _ h9 => h9) rfl d_K_holds_15 ?_
    refine lv_iload_n hx hb d_K_holds_18 rfl (lv_at hl 1 rfl) ?_
    refine lv_bipush (v := 32) hx hb d_K_holds_19 (by decide) ?_
    refine lv_imul hx hb d_K_holds_21 ?_
    refine lv_iload_n hx hb d_K_holds_22 rfl (lv_at hl 2 rfl) ?_
    refine lv_iadd hx hb d_K_holds_23 ?_
    refine x_top (show ((nI k) * 32) + (nI b) = nI (32 * k + b) from k_ix) ?_
    refine va_iald (D := D) hx hb hK hP 2 0 k_h2 rfl (k_in64 hk hb32) d_K_holds_24 ?_
    refine x_top (k_b_at hk hb32) ?_
    refine lv_goto (tgt := 39) hx hb d_K_holds_25 (by decide) ?_
    exact x_rp (by first | (simp only [k_held, if_neg c1]; done) | rfl | (simp only [k_held, if_neg c1]; rfl)) hx hb hr hlk hP hD hS d_K_holds_39
set_option maxHeartbeats 4000000 in
set_option maxRecDepth 100000 in
theorem c_K_extentBit_ok (l : Launch) (D : va_G) (cI cZ : ClassId) (kd : Nat → Nat) (z : x_S) (b : Nat) : x_C l y_K_extentBit c_K_extentBit 2 (some .int) { frames := 0, cells := 0, slots := 0, locals := 0 } D (k_ty cI cZ) (k_w cI cZ kd z) [.ref (kd 0), .int (nI b)] (some (.int (k_ext b))) (k_w cI cZ kd z) := by
  refine x_C.of (by decide) (Nat.le_of_ble_eq_true rfl) ?_
  intro p e s m below meth c hx hb hr hml hts hown hlk A hA hK hS hP hD ls hl
  have hown : s.vm.findClass R_K = some m.cls := hown
  have hl : lv_has ls 2 [(0, .ref (kd 0)), (1, .int (nI b))] := hl
  refine lv_iconst (v := 1) hx hb d_K_extentBit_0 (by decide) ?_
  refine lv_iload_n hx hb d_K_extentBit_1 rfl (lv_at hl 1 rfl) ?_
  refine lv_iconst (v := 4) hx hb d_K_extentBit_2 (by decide) ?_
  refine lv_idiv hx hb d_K_extentBit_3 (by decide) ?_
  refine lv_ishl hx hb d_K_extentBit_4 ?_
  exact x_rp (by first | (simp only [k_ext]; done) | rfl | (simp only [k_ext]; rfl)) hx hb hr hlk hP hD hS d_K_extentBit_5
set_option maxHeartbeats 4000000 in
set_option maxRecDepth 100000 in
theorem c_K_disconnect_ok (l : Launch) (D : va_G) (cI cZ : ClassId) (kd : Nat → Nat) (z : x_S)  : x_C l y_K_disconnect c_K_disconnect 1 none { frames := 0, cells := 0, slots := 0, locals := 0 } D (k_ty cI cZ) (k_w cI cZ kd z) [.ref (kd 0)] (none) (k_w cI cZ kd (k_disc z)) := by
  refine x_C.of (by decide) (Nat.le_of_ble_eq_true rfl) ?_
  intro p e s m below meth c hx hb hr hml hts hown hlk A hA hK hS hP hD ls hl
  have hown : s.vm.findClass R_K = some m.cls := hown
  have hl : lv_has ls 1 [(0, .ref (kd 0))] := hl
  refine lv_aload_n hx hb d_K_disconnect_0 rfl (lv_at hl 0 rfl) ?_
  refine lv_iconst (v := 0) hx hb d_K_disconnect_1 (by decide) ?_
  refine va_put (D := D) (ci := 5) (v := .int 0) (ty := .boolean) (C := R_K) (T := T_K) (N := 21) hx hb hts in_K fy_K fy_K_ok n_K hown hK hP hD hS 0 k_h0 rfl 13 (by decide) (hts _ gm_413) (fun _ h9 => h9) rfl (by decide +kernel) rfl rfl (Nat.le_of_ble_eq_true rfl) d_K_disconnect_2 (fun H locs hP hD hS => ?_)
  obtain ⟨z1, ez1⟩ : ∃ zt_ : x_S, zt_ = x_up z 0 1 0 := ⟨_, rfl⟩
  have hP : va_P D vwCl (k_w cI cZ kd z1) H := by rw [ez1]; exact (k_s0_13 0) ▸ hP
  have hD : va_D A (k_w cI cZ kd z1) := by rw [ez1]; exact (k_s0_13 0) ▸ hD
  refine lv_aload_n hx hb d_K_disconnect_5 rfl (lv_at hl 0 rfl) ?_
  refine lv_iconst (v := 2) hx hb d_K_disconnect_6 (by decide) ?_
  refine va_put (D := D) (ci := 5) (v := .int 2) (ty := .int) (C := R_K) (T := T_K) (N := 21) hx hb hts in_K fy_K fy_K_ok n_K hown hK hP hD hS 0 k_h0 rfl 11 (by decide) (hts _ gm_411) (fun _ h9 => h9) rfl (by decide +kernel) rfl rfl (Nat.le_of_ble_eq_true rfl) d_K_disconnect_7 (fun H locs hP hD hS => ?_)
  obtain ⟨z2, ez2⟩ : ∃ zt_ : x_S, zt_ = x_up z1 0 7 2 := ⟨_, rfl⟩
  have hP : va_P D vwCl (k_w cI cZ kd z2) H := by rw [ez2]; exact (k_s0_11 2) ▸ hP
  have hD : va_D A (k_w cI cZ kd z2) := by rw [ez2]; exact (k_s0_11 2) ▸ hD
  exact x_rv (w := k_w cI cZ kd) (by subst ez1 ez2; first | (simp only [k_disc]; done) | rfl | (simp only [k_disc]; rfl)) hx hb hr hlk hP hD hS d_K_disconnect_10
set_option maxHeartbeats 4000000 in
set_option maxRecDepth 100000 in
theorem c_K_noPrimary_ok (l : Launch) (D : va_G) (cI cZ : ClassId) (kd : Nat → Nat) (z : x_S)  : x_C l y_K_noPrimary c_K_noPrimary 1 none { frames := 0, cells := 0, slots := 0, locals := 0 } D (k_ty cI cZ) (k_w cI cZ kd z) [.ref (kd 0)] (none) (k_w cI cZ kd (k_noP z)) := by
  refine x_C.of (by decide) (Nat.le_of_ble_eq_true rfl) ?_
  intro p e s m below meth c hx hb hr hml hts hown hlk A hA hK hS hP hD ls hl
  have hown : s.vm.findClass R_K = some m.cls := hown
  have hl : lv_has ls 1 [(0, .ref (kd 0))] := hl
  refine lv_aload_n hx hb d_K_noPrimary_0 rfl (lv_at hl 0 rfl) ?_
  refine lv_iconst (v := 2) hx hb d_K_noPrimary_1 (by decide) ?_
  refine va_put (D := D) (ci := 5) (v := .int 2) (ty := .int) (C := R_K) (T := T_K) (N := 21) hx hb hts in_K fy_K fy_K_ok n_K hown hK hP hD hS 0 k_h0 rfl 10 (by decide) (hts _ gm_410) (fun _ h9 => h9) rfl (by decide +kernel) rfl rfl (Nat.le_of_ble_eq_true rfl) d_K_noPrimary_2 (fun H locs hP hD hS => ?_)
  obtain ⟨z1, ez1⟩ : ∃ zt_ : x_S, zt_ = x_up z 0 6 2 := ⟨_, rfl⟩
  have hP : va_P D vwCl (k_w cI cZ kd z1) H := by rw [ez1]; exact (k_s0_10 2) ▸ hP
  have hD : va_D A (k_w cI cZ kd z1) := by rw [ez1]; exact (k_s0_10 2) ▸ hD
  refine lv_aload_n hx hb d_K_noPrimary_5 rfl (lv_at hl 0 rfl) ?_
  refine lv_iconst (v := 0) hx hb d_K_noPrimary_6 (by decide) ?_
  refine va_put (D := D) (ci := 5) (v := .int 0) (ty := .int) (C := R_K) (T := T_K) (N := 21) hx hb hts in_K fy_K fy_K_ok n_K hown hK hP hD hS 0 k_h0 rfl 18 (by decide) (hts _ gm_418) (fun _ h9 => h9) rfl (by decide +kernel) rfl rfl (Nat.le_of_ble_eq_true rfl) d_K_noPrimary_7 (fun H locs hP hD hS => ?_)
  obtain ⟨z2, ez2⟩ : ∃ zt_ : x_S, zt_ = x_up z1 2 0 0 := ⟨_, rfl⟩
  have hP : va_P D vwCl (k_w cI cZ kd z2) H := by rw [ez2]; exact (k_s0_18 0) ▸ hP
  have hD : va_D A (k_w cI cZ kd z2) := by rw [ez2]; exact (k_s0_18 0) ▸ hD
  exact x_rv (w := k_w cI cZ kd) (by subst ez1 ez2; first | (simp only [k_noP]; done) | rfl | (simp only [k_noP]; rfl)) hx hb hr hlk hP hD hS d_K_noPrimary_10
set_option maxHeartbeats 4000000 in
set_option maxRecDepth 100000 in
theorem c_K_goAlone_ok (l : Launch) (D : va_G) (cI cZ : ClassId) (kd : Nat → Nat) (z : x_S) (k : Nat) (hk : k < 2) : x_C l y_K_goAlone c_K_goAlone 2 none { frames := 0, cells := 0, slots := 0, locals := 0 } D (k_ty cI cZ) (k_w cI cZ kd z) [.ref (kd 0), .int (nI k)] (none) (k_w cI cZ kd (x_goAl z k)) := by
  refine x_C.of (by decide) (Nat.le_of_ble_eq_true rfl) ?_
  intro p e s m below meth c hx hb hr hml hts hown hlk A hA hK hS hP hD ls hl
  have hown : s.vm.findClass R_K = some m.cls := hown
  have hl : lv_has ls 2 [(0, .ref (kd 0)), (1, .int (nI k))] := hl
  refine lv_aload_n hx hb d_K_goAlone_0 rfl (lv_at hl 0 rfl) ?_
  refine lv_dup hx hb d_K_goAlone_1 rfl ?_
  refine va_get (D := D) (ci := 5) (C := R_K) (T := T_K) (N := 21) hx hb hts in_K hown hK hP 0 k_h0 rfl 15 (by decide) (hts _ gm_415) (fun _ h9 => h9) rfl d_K_goAlone_2 ?_
  refine lv_iconst (v := 1) hx hb d_K_goAlone_5 (by decide) ?_
  refine lv_iadd hx hb d_K_goAlone_6 ?_
  refine va_put (D := D) (ci := 5) (v := .int ((z 1 1) + 1)) (ty := .int) (C := R_K) (T := T_K) (N := 21) hx hb hts in_K fy_K fy_K_ok n_K hown hK hP hD hS 0 k_h0 rfl 15 (by decide) (hts _ gm_415) (fun _ h9 => h9) rfl (by decide +kernel) rfl rfl (Nat.le_of_ble_eq_true rfl) d_K_goAlone_7 (fun H locs hP hD hS => ?_)
  obtain ⟨z1, ez1⟩ : ∃ zt_ : x_S, zt_ = x_up z 1 1 ((z 1 1) + 1) := ⟨_, rfl⟩
  have hP : va_P D vwCl (k_w cI cZ kd z1) H := by rw [ez1]; exact (k_s0_15 ((z 1 1) + 1)) ▸ hP
  have hD : va_D A (k_w cI cZ kd z1) := by rw [ez1]; exact (k_s0_15 ((z 1 1) + 1)) ▸ hD
  refine lv_aload_n hx hb d_K_goAlone_10 rfl (lv_at hl 0 rfl) ?_
  refine va_get (D := D) (ci := 5) (C := R_K) (T := T_K) (N := 21) hx hb hts in_K hown hK hP 0 k_h0 rfl 8 (by decide) (hts _ gm_408) (fun _ h9 => h9) rfl d_K_goAlone_11 ?_
  refine lv_iload_n hx hb d_K_goAlone_14 rfl (lv_at hl 1 rfl) ?_
  refine lv_aload_n hx hb d_K_goAlone_15 rfl (lv_at hl 0 rfl) ?_
  refine va_get (D := D) (ci := 5) (C := R_K) (T := T_K) (N := 21) hx hb hts in_K hown hK hP 0 k_h0 rfl 7 (by decide) (hts _ gm_407) (fun _ h9 => h9) rfl d_K_goAlone_16 ?_
  refine lv_iload_n hx hb d_K_goAlone_19 rfl (lv_at hl 1 rfl) ?_
  refine va_iald (D := D) hx hb hK hP 7 0 k_h7 rfl (x_in2 hk) d_K_goAlone_20 ?_
  refine x_top (k_col_at hk) ?_
  refine va_iast (D := D) hx hb hK hP hD hS 8 0 k_h8 rfl (x_in2 (k := k) hk) d_K_goAlone_21 (fun H locs hP hD hS => ?_)
  obtain ⟨z2, ez2⟩ : ∃ zt_ : x_S, zt_ = x_up z1 (5 + k) 3 (z1 (5 + k) 2) := ⟨_, rfl⟩
  rw [x_cl (k := k) hk] at hP hD
  have hP : va_P D vwCl (k_w cI cZ kd z2) H := by rw [ez2]; exact (k_s8 (k := k) hk (z1 (5 + k) 2)) ▸ hP
  have hD : va_D A (k_w cI cZ kd z2) := by rw [ez2]; exact (k_s8 (k := k) hk (z1 (5 + k) 2)) ▸ hD
  refine lv_aload_n hx hb d_K_goAlone_22 rfl (lv_at hl 0 rfl) ?_
  refine va_get (D := D) (ci := 5) (C := R_K) (T := T_K) (N := 21) hx hb hts in_K hown hK hP 0 k_h0 rfl 7 (by decide) (hts _ gm_407) (fun _ h9 => h9) rfl d_K_goAlone_23 ?_
  refine lv_iload_n hx hb d_K_goAlone_26 rfl (lv_at hl 1 rfl) ?_
  refine lv_aload_n hx hb d_K_goAlone_27 rfl (lv_at hl 0 rfl) ?_
  refine va_get (D := D) (ci := 5) (C := R_K) (T := T_K) (N := 21) hx hb hts in_K hown hK hP 0 k_h0 rfl 15 (by decide) (hts _ gm_415) (fun _ h9 => h9) rfl d_K_goAlone_28 ?_
  refine va_iast (D := D) hx hb hK hP hD hS 7 0 k_h7 rfl (x_in2 (k := k) hk) d_K_goAlone_31 (fun H locs hP hD hS => ?_)
  obtain ⟨z3, ez3⟩ : ∃ zt_ : x_S, zt_ = x_up z2 (5 + k) 2 (z2 1 1) := ⟨_, rfl⟩
  rw [x_cl (k := k) hk] at hP hD
  have hP : va_P D vwCl (k_w cI cZ kd z3) H := by rw [ez3]; exact (k_s7 (k := k) hk (z2 1 1)) ▸ hP
  have hD : va_D A (k_w cI cZ kd z3) := by rw [ez3]; exact (k_s7 (k := k) hk (z2 1 1)) ▸ hD
  refine lv_aload_n hx hb d_K_goAlone_32 rfl (lv_at hl 0 rfl) ?_
  refine va_get (D := D) (ci := 5) (C := R_K) (T := T_K) (N := 21) hx hb hts in_K hown hK hP 0 k_h0 rfl 5 (by decide) (hts _ gm_405) (fun _ h9 => h9) rfl d_K_goAlone_33 ?_
  refine lv_iload_n hx hb d_K_goAlone_36 rfl (lv_at hl 1 rfl) ?_
  refine lv_iconst (v := 1) hx hb d_K_goAlone_37 (by decide) ?_
  refine va_zast (D := D) hx hb hK hP hD hS 5 1 k_h5 rfl (x_in2 (k := k) hk) d_K_goAlone_38 (fun H locs hP hD hS => ?_)
  obtain ⟨z4, ez4⟩ : ∃ zt_ : x_S, zt_ = x_up z3 (5 + k) 4 1 := ⟨_, rfl⟩
  rw [x_cl (k := k) hk] at hP hD
  have hP : va_P D vwCl (k_w cI cZ kd z4) H := by rw [ez4]; exact (k_s5 (k := k) hk 1) ▸ hP
  have hD : va_D A (k_w cI cZ kd z4) := by rw [ez4]; exact (k_s5 (k := k) hk 1) ▸ hD
  exact x_rv (w := k_w cI cZ kd) (by subst ez1 ez2 ez3 ez4; first | (simp only [x_goAl]; done) | rfl | (simp only [x_goAl]; rfl)) hx hb hr hlk hP hD hS d_K_goAlone_39
set_option maxHeartbeats 4000000 in
set_option maxRecDepth 100000 in
theorem c_K_keepIn_ok (l : Launch) (D : va_G) (cI cZ : ClassId) (kd : Nat → Nat) (z : x_S) (k : Nat) (hk : k < 2) (b : Nat) (hb32 : b < 32) (v : Int32) : x_C l y_K_keepIn c_K_keepIn 4 none { frames := 0, cells := 0, slots := 0, locals := 0 } D (k_ty cI cZ) (k_w cI cZ kd z) [.ref (kd 0), .int (nI k), .int (nI b), .int v] (none) (k_w cI cZ kd (k_keep z k b v)) := by
  refine x_C.of (by decide) (Nat.le_of_ble_eq_true rfl) ?_
  intro p e s m below meth c hx hb hr hml hts hown hlk A hA hK hS hP hD ls hl
  have hown : s.vm.findClass R_K = some m.cls := hown
  have hl : lv_has ls 4 [(0, .ref (kd 0)), (1, .int (nI k)), (2, .int (nI b)), (3, .int v)] := hl
  refine lv_aload_n hx hb d_K_keepIn_0 rfl (lv_at hl 0 rfl) ?_
  refine va_get (D := D) (ci := 5) (C := R_K) (T := T_K) (N := 21) hx hb hts in_K hown hK hP 0 k_h0 rfl 2 (by decide) (hts _ gm_402) (fun _ h9 => h9) rfl d_K_keepIn_1 ?_
  refine lv_iload_n hx hb d_K_keepIn_4 rfl (lv_at hl 1 rfl) ?_
  refine lv_bipush (v := 32) hx hb d_K_keepIn_5 (by decide) ?_
  refine lv_imul hx hb d_K_keepIn_7 ?_
  refine lv_iload_n hx hb d_K_keepIn_8 rfl (lv_at hl 2 rfl) ?_
  refine lv_iadd hx hb d_K_keepIn_9 ?_
  refine x_top (show ((nI k) * 32) + (nI b) = nI (32 * k + b) from k_ix) ?_
  refine lv_iload_n hx hb d_K_keepIn_10 rfl (lv_at hl 3 rfl) ?_
  refine va_iast (D := D) hx hb hK hP hD hS 2 0 k_h2 rfl (k_in64 hk hb32) d_K_keepIn_11 (fun H locs hP hD hS => ?_)
  obtain ⟨z1, ez1⟩ : ∃ zt_ : x_S, zt_ = x_up z (9 + k) b v := ⟨_, rfl⟩
  rw [k_cl64 hk hb32] at hP hD
  have hP : va_P D vwCl (k_w cI cZ kd z1) H := by rw [ez1]; exact (k_s2 hk hb32 v) ▸ hP
  have hD : va_D A (k_w cI cZ kd z1) := by rw [ez1]; exact (k_s2 hk hb32 v) ▸ hD
  refine lv_aload_n hx hb d_K_keepIn_12 rfl (lv_at hl 0 rfl) ?_
  refine va_get (D := D) (ci := 5) (C := R_K) (T := T_K) (N := 21) hx hb hts in_K hown hK hP 0 k_h0 rfl 3 (by decide) (hts _ gm_403) (fun _ h9 => h9) rfl d_K_keepIn_13 ?_
  refine lv_iload_n hx hb d_K_keepIn_16 rfl (lv_at hl 1 rfl) ?_
  refine lv_bipush (v := 32) hx hb d_K_keepIn_17 (by decide) ?_
  refine lv_imul hx hb d_K_keepIn_19 ?_
  refine lv_iload_n hx hb d_K_keepIn_20 rfl (lv_at hl 2 rfl) ?_
  refine lv_iadd hx hb d_K_keepIn_21 ?_
  refine x_top (show ((nI k) * 32) + (nI b) = nI (32 * k + b) from k_ix) ?_
  refine lv_iconst (v := 1) hx hb d_K_keepIn_22 (by decide) ?_
  refine va_zast (D := D) hx hb hK hP hD hS 3 1 k_h3 rfl (k_in64 hk hb32) d_K_keepIn_23 (fun H locs hP hD hS => ?_)
  obtain ⟨z2, ez2⟩ : ∃ zt_ : x_S, zt_ = x_up z1 (11 + k) b 1 := ⟨_, rfl⟩
  rw [k_cl64 hk hb32] at hP hD
  have hP : va_P D vwCl (k_w cI cZ kd z2) H := by rw [ez2]; exact (k_s3 hk hb32 1) ▸ hP
  have hD : va_D A (k_w cI cZ kd z2) := by rw [ez2]; exact (k_s3 hk hb32 1) ▸ hD
  exact x_rv (w := k_w cI cZ kd) (by subst ez1 ez2; first | (simp only [k_keep]; done) | rfl | (simp only [k_keep]; rfl)) hx hb hr hlk hP hD hS d_K_keepIn_24
set_option maxHeartbeats 4000000 in
set_option maxRecDepth 100000 in
theorem c_K_writeStep_ok (l : Launch) (D : va_G) (cI cZ : ClassId) (kd : Nat → Nat) (z : x_S) (k : Nat) (hk : k < 2) (hp : z 0 6 = nI k) (b : Nat) (hb32 : b < 32) (v : Int32) : x_C l y_K_writeStep c_K_writeStep 3 none { frames := 1, cells := 0, slots := 0, locals := 23 } D (k_ty cI cZ) (k_w cI cZ kd z) [.ref (kd 0), .int (nI b), .int v] (none) (k_w cI cZ kd (k_wr z k b v)) := by
  refine x_C.of (by decide) (Nat.le_of_ble_eq_true rfl) ?_
  intro p e s m below meth c hx hb hr hml hts hown hlk A hA hK hS hP hD ls hl
  have hown : s.vm.findClass R_K = some m.cls := hown
  have hl : lv_has ls 3 [(0, .ref (kd 0)), (1, .int (nI b)), (2, .int v)] := hl
  refine lv_aload_n hx hb d_K_writeStep_0 rfl (lv_at hl 0 rfl) ?_
  refine lv_aload_n hx hb d_K_writeStep_1 rfl (lv_at hl 0 rfl) ?_
  refine va_get (D := D) (ci := 5) (C := R_K) (T := T_K) (N := 21) hx hb hts in_K hown hK hP 0 k_h0 rfl 10 (by decide) (hts _ gm_410) (fun _ h9 => h9) rfl d_K_writeStep_2 ?_
  refine x_top (show z 0 6 = nI k by first | exact hp | (rw [k_keep_low (by decide)]; exact hp) | (rw [k_settle_low (by decide)]; exact hp)) ?_
  refine lv_iload_n hx hb d_K_writeStep_5 rfl (lv_at hl 1 rfl) ?_
  refine lv_iload_n hx hb d_K_writeStep_6 rfl (lv_at hl 2 rfl) ?_
  refine x_V (rest := []) ⟨hx, hb, hml, hown, hts⟩ (c_K_keepIn_ok l D cI cZ kd z k hk b hb32 v) gm_501 gm_503 gm_22 gm_34 gm_504 ⟨rfl, rfl⟩ hd_K_keepIn ⟨Nat.le_of_ble_eq_true rfl, Nat.le_of_ble_eq_true rfl⟩ hK hP hD hS hA (va_recv hK hP (ci := 5) (q0 := 0) rfl k_h0) rfl hl.1 rfl (Nat.le_of_ble_eq_true rfl) d_K_writeStep_7 ⟨Nat.le_of_ble_eq_true rfl, Nat.le_of_ble_eq_true rfl⟩ (fun H locs hP hD hS => ?_)
  obtain ⟨z1, ez1⟩ : ∃ zt_ : x_S, zt_ = k_keep z k b v := ⟨_, rfl⟩
  rw [← ez1] at hP hD
  refine lv_aload_n hx hb d_K_writeStep_10 rfl (lv_at hl 0 rfl) ?_
  refine va_get (D := D) (ci := 5) (C := R_K) (T := T_K) (N := 21) hx hb hts in_K hown hK hP 0 k_h0 rfl 13 (by decide) (hts _ gm_413) (fun _ h9 => h9) rfl d_K_writeStep_11 ?_
  refine lv_if_eq (tgt := 32) hx hb d_K_writeStep_14 (by decide) (fun c2 => ?_) (fun c2 => ?_)
  · refine lv_aload_n hx hb d_K_writeStep_32 rfl (lv_at hl 0 rfl) ?_
    refine va_get (D := D) (ci := 5) (C := R_K) (T := T_K) (N := 21) hx hb hts in_K hown hK hP 0 k_h0 rfl 9 (by decide) (hts _ gm_409) (fun _ h9 => h9) rfl d_K_writeStep_33 ?_
    refine lv_aload_n hx hb d_K_writeStep_36 rfl (lv_at hl 0 rfl) ?_
    refine va_get (D := D) (ci := 5) (C := R_K) (T := T_K) (N := 21) hx hb hts in_K hown hK hP 0 k_h0 rfl 10 (by decide) (hts _ gm_410) (fun _ h9 => h9) rfl d_K_writeStep_37 ?_
    refine x_top (show z1 0 6 = nI k by subst ez1; first | exact hp | (rw [k_keep_low (by decide)]; exact hp) | (rw [k_settle_low (by decide)]; exact hp)) ?_
    refine lv_dup2_11 hx hb d_K_writeStep_40 rfl rfl ?_
    refine va_iald (D := D) hx hb hK hP 9 0 k_h9 rfl (x_in2 hk) d_K_writeStep_41 ?_
    refine x_top (k_col_at hk) ?_
    refine lv_aload_n hx hb d_K_writeStep_42 rfl (lv_at hl 0 rfl) ?_
    refine lv_iload_n hx hb d_K_writeStep_43 rfl (lv_at hl 1 rfl) ?_
    refine x_V (rest := [.int (z1 (5 + k) 5), .int (nI k), .ref (kd 9)]) ⟨hx, hb, hml, hown, hts⟩ (c_K_extentBit_ok l D cI cZ kd z1 b) gm_505 gm_507 gm_23 gm_34 gm_508 ⟨rfl, rfl⟩ hd_K_extentBit ⟨Nat.le_of_ble_eq_true rfl, Nat.le_of_ble_eq_true rfl⟩ hK hP hD hS hA (va_recv hK hP (ci := 5) (q0 := 0) rfl k_h0) rfl hl.1 rfl (Nat.le_of_ble_eq_true rfl) d_K_writeStep_44 ⟨Nat.le_of_ble_eq_true rfl, Nat.le_of_ble_eq_true rfl⟩ (fun H locs hP hD hS => ?_)
    refine lv_topi (fun r3 er3 => ?_)
    refine lv_ior hx hb d_K_writeStep_47 ?_
    refine va_iast (D := D) hx hb hK hP hD hS 9 0 k_h9 rfl (x_in2 (k := k) hk) d_K_writeStep_48 (fun H locs hP hD hS => ?_)
    obtain ⟨z4, ez4⟩ : ∃ zt_ : x_S, zt_ = x_up z1 (5 + k) 5 ((z1 (5 + k) 5) ||| r3) := ⟨_, rfl⟩
    rw [x_cl (k := k) hk] at hP hD
    have hP : va_P D vwCl (k_w cI cZ kd z4) H := by rw [ez4]; exact (k_s9 (k := k) hk ((z1 (5 + k) 5) ||| r3)) ▸ hP
    have hD : va_D A (k_w cI cZ kd z4) := by rw [ez4]; exact (k_s9 (k := k) hk ((z1 (5 + k) 5) ||| r3)) ▸ hD
    exact x_rv (w := k_w cI cZ kd) (by subst ez1 er3 ez4; first | (simp only [k_wr, if_pos c2]; done) | rfl | (simp only [k_wr, if_pos c2]; rfl)) hx hb hr hlk hP hD hS d_K_writeStep_49
  · refine lv_aload_n hx hb d_K_writeStep_17 rfl (lv_at hl 0 rfl) ?_
    refine lv_iconst (v := 1) hx hb d_K_writeStep_18 (by decide) ?_
    refine lv_aload_n hx hb d_K_writeStep_19 rfl (lv_at hl 0 rfl) ?_
    refine va_get (D := D) (ci := 5) (C := R_K) (T := T_K) (N := 21) hx hb hts in_K hown hK hP 0 k_h0 rfl 10 (by decide) (hts _ gm_410) (fun _ h9 => h9) rfl d_K_writeStep_20 ?_
    refine x_top (show z1 0 6 = nI k by subst ez1; first | exact hp | (rw [k_keep_low (by decide)]; exact hp) | (rw [k_settle_low (by decide)]; exact hp)) ?_
    refine lv_isub hx hb d_K_writeStep_23 ?_
    refine x_top (x_1k hk) ?_
    refine lv_iload_n hx hb d_K_writeStep_24 rfl (lv_at hl 1 rfl) ?_
    refine lv_iload_n hx hb d_K_writeStep_25 rfl (lv_at hl 2 rfl) ?_
    refine x_V (rest := []) ⟨hx, hb, hml, hown, hts⟩ (c_K_keepIn_ok l D cI cZ kd z1 (1 - k) (x_1lt hk) b hb32 v) gm_501 gm_503 gm_22 gm_34 gm_504 ⟨rfl, rfl⟩ hd_K_keepIn ⟨Nat.le_of_ble_eq_true rfl, Nat.le_of_ble_eq_true rfl⟩ hK hP hD hS hA (va_recv hK hP (ci := 5) (q0 := 0) rfl k_h0) rfl hl.1 rfl (Nat.le_of_ble_eq_true rfl) d_K_writeStep_26 ⟨Nat.le_of_ble_eq_true rfl, Nat.le_of_ble_eq_true rfl⟩ (fun H locs hP hD hS => ?_)
    obtain ⟨z5, ez5⟩ : ∃ zt_ : x_S, zt_ = k_keep z1 (1 - k) b v := ⟨_, rfl⟩
    rw [← ez5] at hP hD
    refine lv_goto (tgt := 49) hx hb d_K_writeStep_29 (by decide) ?_
    exact x_rv (w := k_w cI cZ kd) (by subst ez1 ez5; first | (simp only [k_wr, if_neg c2]; done) | rfl | (simp only [k_wr, if_neg c2]; rfl)) hx hb hr hlk hP hD hS d_K_writeStep_49
set_option maxHeartbeats 4000000 in
set_option maxRecDepth 100000 in
theorem c_K_settle_ok (l : Launch) (D : va_G) (cI cZ : ClassId) (kd : Nat → Nat) (z : x_S) (k : Nat) (hk : k < 2) : x_C l y_K_settle c_K_settle 3 none { frames := 1, cells := 0, slots := 0, locals := 22 } D (k_ty cI cZ) (k_w cI cZ kd z) [.ref (kd 0), .int (nI k)] (none) (k_w cI cZ kd (k_settle z k)) := by
  refine x_C.of (by decide) (Nat.le_of_ble_eq_true rfl) ?_
  intro p e s m below meth c hx hb hr hml hts hown hlk A hA hK hS hP hD ls hl
  have hown : s.vm.findClass R_K = some m.cls := hown
  have hl : lv_has ls 3 [(0, .ref (kd 0)), (1, .int (nI k))] := hl
  have lp : ∀ (n i : Nat) (y : x_S) (H : Heap) (locs : List Loc) (ls : Array Slot), i + n = 32 → k_settle z k = k_setL k n i y → va_P D vwCl (k_w cI cZ kd y) H → va_D A (k_w cI cZ kd y) → va_S A s.heap H locs → lv_has ls 3 [(2, .int (nI i)), (0, .ref (kd 0)), (1, .int (nI k))] → W p l e { frames := 1, cells := 0, slots := 0, locals := 22 } s m [.ref (kd 0), .int (nI k)].toArray below meth c H locs 0 0 (MQ below (x_Q (none) D (k_w cI cZ kd (k_settle z k)) A) [.ref (kd 0), .int (nI k)].toArray s 0 0 A) (F0 m 2 ls []) := by
    intro n
    induction n with
    | zero =>
      intro i y  H locs ls hn hI hP hD hS hl
      refine lv_iload_n hx hb d_K_settle_2 rfl (lv_at hl 0 rfl) ?_
      refine lv_bipush (v := 32) hx hb d_K_settle_3 (by decide) ?_
      refine lv_icmp_ge (tgt := 43) hx hb d_K_settle_5 (by decide) (fun c1 => ?_) (fun c1 => ?_)
      · exact x_rv (w := k_w cI cZ kd) (by rw [hI]; rfl) hx hb hr hlk hP hD hS d_K_settle_43
      · exact absurd (show (32 : Int32) ≤ nI i from nI_le (a := 32) (by omega) (by omega)) c1
    | succ n ih =>
      intro i y  H locs ls hn hI hP hD hS hl
      have hi : i < 32 := by omega
      refine lv_iload_n hx hb d_K_settle_2 rfl (lv_at hl 0 rfl) ?_
      refine lv_bipush (v := 32) hx hb d_K_settle_3 (by decide) ?_
      refine lv_icmp_ge (tgt := 43) hx hb d_K_settle_5 (by decide) (fun c2 => ?_) (fun c2 => ?_)
      · exact absurd c2 (show ¬ (32 : Int32) ≤ nI i from nI_ge (b := 32) (by omega) (by decide))
      · refine lv_aload_n hx hb d_K_settle_8 rfl (lv_at hl 1 rfl) ?_
        refine va_get (D := D) (ci := 5) (C := R_K) (T := T_K) (N := 21) hx hb hts in_K hown hK hP 0 k_h0 rfl 1 (by decide) (hts _ gm_401) (fun _ h9 => h9) rfl d_K_settle_9 ?_
        refine lv_iload_n hx hb d_K_settle_12 rfl (lv_at hl 2 rfl) ?_
        refine lv_bipush (v := 32) hx hb d_K_settle_13 (by decide) ?_
        refine lv_imul hx hb d_K_settle_15 ?_
        refine lv_iload_n hx hb d_K_settle_16 rfl (lv_at hl 0 rfl) ?_
        refine lv_iadd hx hb d_K_settle_17 ?_
        refine x_top (show ((nI k) * 32) + (nI i) = nI (32 * k + i) from k_ix) ?_
        refine lv_aload_n hx hb d_K_settle_18 rfl (lv_at hl 1 rfl) ?_
        refine lv_iload_n hx hb d_K_settle_19 rfl (lv_at hl 2 rfl) ?_
        refine lv_iload_n hx hb d_K_settle_20 rfl (lv_at hl 0 rfl) ?_
        refine x_V (rest := [.int (nI (32 * k + i)), .ref (kd 1)]) ⟨hx, hb, hml, hown, hts⟩ (c_K_holds_ok l D cI cZ kd y k hk i hi) gm_493 gm_495 gm_20 gm_34 gm_496 ⟨rfl, rfl⟩ hd_K_holds ⟨Nat.le_of_ble_eq_true rfl, Nat.le_of_ble_eq_true rfl⟩ hK hP hD hS hA (va_recv hK hP (ci := 5) (q0 := 0) rfl k_h0) rfl hl.1 rfl (Nat.le_of_ble_eq_true rfl) d_K_settle_21 ⟨Nat.le_of_ble_eq_true rfl, Nat.le_of_ble_eq_true rfl⟩ (fun H locs hP hD hS => ?_)
        refine lv_topi (fun r3 er3 => ?_)
        refine va_iast (D := D) hx hb hK hP hD hS 1 0 k_h1 rfl (k_in64 hk hi) d_K_settle_24 (fun H locs hP hD hS => ?_)
        obtain ⟨z4, ez4⟩ : ∃ zt_ : x_S, zt_ = x_up y (7 + k) i r3 := ⟨_, rfl⟩
        rw [k_cl64 hk hi] at hP hD
        have hP : va_P D vwCl (k_w cI cZ kd z4) H := by rw [ez4]; exact (k_s1 hk hi r3) ▸ hP
        have hD : va_D A (k_w cI cZ kd z4) := by rw [ez4]; exact (k_s1 hk hi r3) ▸ hD
        refine lv_aload_n hx hb d_K_settle_25 rfl (lv_at hl 1 rfl) ?_
        refine va_get (D := D) (ci := 5) (C := R_K) (T := T_K) (N := 21) hx hb hts in_K hown hK hP 0 k_h0 rfl 3 (by decide) (hts _ gm_403) (fun _ h9 => h9) rfl d_K_settle_26 ?_
        refine lv_iload_n hx hb d_K_settle_29 rfl (lv_at hl 2 rfl) ?_
        refine lv_bipush (v := 32) hx hb d_K_settle_30 (by decide) ?_
        refine lv_imul hx hb d_K_settle_32 ?_
        refine lv_iload_n hx hb d_K_settle_33 rfl (lv_at hl 0 rfl) ?_
        refine lv_iadd hx hb d_K_settle_34 ?_
        refine x_top (show ((nI k) * 32) + (nI i) = nI (32 * k + i) from k_ix) ?_
        refine lv_iconst (v := 0) hx hb d_K_settle_35 (by decide) ?_
        refine va_zast (D := D) hx hb hK hP hD hS 3 1 k_h3 rfl (k_in64 hk hi) d_K_settle_36 (fun H locs hP hD hS => ?_)
        obtain ⟨z5, ez5⟩ : ∃ zt_ : x_S, zt_ = x_up z4 (11 + k) i 0 := ⟨_, rfl⟩
        rw [k_cl64 hk hi] at hP hD
        have hP : va_P D vwCl (k_w cI cZ kd z5) H := by rw [ez5]; exact (k_s3 hk hi 0) ▸ hP
        have hD : va_D A (k_w cI cZ kd z5) := by rw [ez5]; exact (k_s3 hk hi 0) ▸ hD
        refine lv_iinc (v := nI (i + 1)) (lv' := [(2, .int (nI (i + 1))), (0, .ref (kd 0)), (1, .int (nI k))]) hx hb d_K_settle_37 hl (k := 0) rfl (nI_1 _) (by decide) rfl (fun ls hl => ?_)
        refine lv_goto (tgt := 2) hx hb d_K_settle_40 (by decide) ?_
        exact ih (i + 1) z5 H locs ls (by omega) (by subst er3 ez4 ez5; rw [hI]; rfl) hP hD hS (lv_sub hl [0, 1, 2] rfl)
  refine lv_iconst (v := 0) hx hb d_K_settle_0 (by decide) ?_
  refine lv_istore_n (lv' := [(2, .int 0), (0, .ref (kd 0)), (1, .int (nI k))]) hx hb d_K_settle_1 rfl hl (by decide) rfl (fun ls hl => ?_)
  exact lp 32 0 z _ _ ls rfl rfl hP hD hS (lv_sub hl [0, 1, 2] rfl)
set_option maxHeartbeats 4000000 in
set_option maxRecDepth 100000 in
theorem c_K_flushStep_ok (l : Launch) (D : va_G) (cI cZ : ClassId) (kd : Nat → Nat) (z : x_S) (k : Nat) (hk : k < 2) (hp : z 0 6 = nI k) : x_C l y_K_flushStep c_K_flushStep 1 none { frames := 2, cells := 0, slots := 0, locals := 44 } D (k_ty cI cZ) (k_w cI cZ kd z) [.ref (kd 0)] (none) (k_w cI cZ kd (k_fl z k)) := by
  refine x_C.of (by decide) (Nat.le_of_ble_eq_true rfl) ?_
  intro p e s m below meth c hx hb hr hml hts hown hlk A hA hK hS hP hD ls hl
  have hown : s.vm.findClass R_K = some m.cls := hown
  have hl : lv_has ls 1 [(0, .ref (kd 0))] := hl
  refine lv_aload_n hx hb d_K_flushStep_0 rfl (lv_at hl 0 rfl) ?_
  refine va_get (D := D) (ci := 5) (C := R_K) (T := T_K) (N := 21) hx hb hts in_K hown hK hP 0 k_h0 rfl 13 (by decide) (hts _ gm_413) (fun _ h9 => h9) rfl d_K_flushStep_1 ?_
  refine lv_if_eq (tgt := 17) hx hb d_K_flushStep_4 (by decide) (fun c1 => ?_) (fun c1 => ?_)
  · refine lv_aload_n hx hb d_K_flushStep_17 rfl (lv_at hl 0 rfl) ?_
    refine lv_aload_n hx hb d_K_flushStep_18 rfl (lv_at hl 0 rfl) ?_
    refine va_get (D := D) (ci := 5) (C := R_K) (T := T_K) (N := 21) hx hb hts in_K hown hK hP 0 k_h0 rfl 10 (by decide) (hts _ gm_410) (fun _ h9 => h9) rfl d_K_flushStep_19 ?_
    refine x_top (show z 0 6 = nI k by first | exact hp | (rw [k_keep_low (by decide)]; exact hp) | (rw [k_settle_low (by decide)]; exact hp)) ?_
    refine x_V (rest := []) ⟨hx, hb, hml, hown, hts⟩ (c_K_settle_ok l D cI cZ kd z k hk) gm_489 gm_491 gm_19 gm_34 gm_492 ⟨rfl, rfl⟩ hd_K_settle ⟨Nat.le_of_ble_eq_true rfl, Nat.le_of_ble_eq_true rfl⟩ hK hP hD hS hA (va_recv hK hP (ci := 5) (q0 := 0) rfl k_h0) rfl hl.1 rfl (Nat.le_of_ble_eq_true rfl) d_K_flushStep_22 ⟨Nat.le_of_ble_eq_true rfl, Nat.le_of_ble_eq_true rfl⟩ (fun H locs hP hD hS => ?_)
    obtain ⟨z2, ez2⟩ : ∃ zt_ : x_S, zt_ = k_settle z k := ⟨_, rfl⟩
    rw [← ez2] at hP hD
    exact x_rv (w := k_w cI cZ kd) (by subst ez2; first | (simp only [k_fl, if_pos c1]; done) | rfl | (simp only [k_fl, if_pos c1]; rfl)) hx hb hr hlk hP hD hS d_K_flushStep_25
  · refine lv_aload_n hx hb d_K_flushStep_7 rfl (lv_at hl 0 rfl) ?_
    refine lv_iconst (v := 1) hx hb d_K_flushStep_8 (by decide) ?_
    refine lv_aload_n hx hb d_K_flushStep_9 rfl (lv_at hl 0 rfl) ?_
    refine va_get (D := D) (ci := 5) (C := R_K) (T := T_K) (N := 21) hx hb hts in_K hown hK hP 0 k_h0 rfl 10 (by decide) (hts _ gm_410) (fun _ h9 => h9) rfl d_K_flushStep_10 ?_
    refine x_top (show z 0 6 = nI k by first | exact hp | (rw [k_keep_low (by decide)]; exact hp) | (rw [k_settle_low (by decide)]; exact hp)) ?_
    refine lv_isub hx hb d_K_flushStep_13 ?_
    refine x_top (x_1k hk) ?_
    refine x_V (rest := []) ⟨hx, hb, hml, hown, hts⟩ (c_K_settle_ok l D cI cZ kd z (1 - k) (x_1lt hk)) gm_489 gm_491 gm_19 gm_34 gm_492 ⟨rfl, rfl⟩ hd_K_settle ⟨Nat.le_of_ble_eq_true rfl, Nat.le_of_ble_eq_true rfl⟩ hK hP hD hS hA (va_recv hK hP (ci := 5) (q0 := 0) rfl k_h0) rfl hl.1 rfl (Nat.le_of_ble_eq_true rfl) d_K_flushStep_14 ⟨Nat.le_of_ble_eq_true rfl, Nat.le_of_ble_eq_true rfl⟩ (fun H locs hP hD hS => ?_)
    obtain ⟨z3, ez3⟩ : ∃ zt_ : x_S, zt_ = k_settle z (1 - k) := ⟨_, rfl⟩
    rw [← ez3] at hP hD
    refine lv_aload_n hx hb d_K_flushStep_17 rfl (lv_at hl 0 rfl) ?_
    refine lv_aload_n hx hb d_K_flushStep_18 rfl (lv_at hl 0 rfl) ?_
    refine va_get (D := D) (ci := 5) (C := R_K) (T := T_K) (N := 21) hx hb hts in_K hown hK hP 0 k_h0 rfl 10 (by decide) (hts _ gm_410) (fun _ h9 => h9) rfl d_K_flushStep_19 ?_
    refine x_top (show z3 0 6 = nI k by subst ez3; first | exact hp | (rw [k_keep_low (by decide)]; exact hp) | (rw [k_settle_low (by decide)]; exact hp)) ?_
    refine x_V (rest := []) ⟨hx, hb, hml, hown, hts⟩ (c_K_settle_ok l D cI cZ kd z3 k hk) gm_489 gm_491 gm_19 gm_34 gm_492 ⟨rfl, rfl⟩ hd_K_settle ⟨Nat.le_of_ble_eq_true rfl, Nat.le_of_ble_eq_true rfl⟩ hK hP hD hS hA (va_recv hK hP (ci := 5) (q0 := 0) rfl k_h0) rfl hl.1 rfl (Nat.le_of_ble_eq_true rfl) d_K_flushStep_22 ⟨Nat.le_of_ble_eq_true rfl, Nat.le_of_ble_eq_true rfl⟩ (fun H locs hP hD hS => ?_)
    obtain ⟨z4, ez4⟩ : ∃ zt_ : x_S, zt_ = k_settle z3 k := ⟨_, rfl⟩
    rw [← ez4] at hP hD
    exact x_rv (w := k_w cI cZ kd) (by subst ez3 ez4; first | (simp only [k_fl, if_neg c1]; done) | rfl | (simp only [k_fl, if_neg c1]; rfl)) hx hb hr hlk hP hD hS d_K_flushStep_25
set_option maxHeartbeats 4000000 in
set_option maxRecDepth 100000 in
theorem c_K_step_ok (l : Launch) (D : va_G) (cI cZ : ClassId) (kd : Nat → Nat) (z : x_S) (k : Nat) (hk : k < 2) (hp : z 0 6 = nI k) (n : Nat) (hn : n ≤ 3) (hcell : ∀ i, i < n → ∃ b, b < 24 ∧ z 3 i = nI b) (t : Nat) (ht : t < 3 * n + 7) : x_C l y_K_step c_K_step 6 none { frames := 3, cells := 0, slots := 0, locals := 64 } D (k_ty cI cZ) (k_w cI cZ kd z) [.ref (kd 0), .int (nI t), .int (nI n)] (none) (k_w cI cZ kd (k_step z k n t)) := by
  refine x_C.of (by decide) (Nat.le_of_ble_eq_true rfl) ?_
  intro p e s m below meth c hx hb hr hml hts hown hlk A hA hK hS hP hD ls hl
  have hown : s.vm.findClass R_K = some m.cls := hown
  have hl : lv_has ls 6 [(0, .ref (kd 0)), (1, .int (nI t)), (2, .int (nI n))] := hl
  refine lv_iconst (v := 3) hx hb d_K_step_0 (by decide) ?_
  refine lv_iconst (v := 2) hx hb d_K_step_1 (by decide) ?_
  refine lv_iload_n hx hb d_K_step_2 rfl (lv_at hl 2 rfl) ?_
  refine lv_imul hx hb d_K_step_3 ?_
  refine lv_iadd hx hb d_K_step_4 ?_
  refine x_top (show 3 + (2 * (nI n)) = nI (3 + 2 * n) from x_n32 n) ?_
  refine lv_istore_n (lv' := [(3, .int (nI (3 + 2 * n))), (0, .ref (kd 0)), (1, .int (nI t)), (2, .int (nI n))]) hx hb d_K_step_5 rfl hl (by decide) rfl (fun ls hl => ?_)
  refine lv_iload_n hx hb d_K_step_6 rfl (lv_at hl 2 rfl) ?_
  refine lv_if_eq (tgt := 27) hx hb d_K_step_7 (by decide) (fun c1 => ?_) (fun c1 => ?_)
  · have c1 : t = 0 := (nI_eq (a := t) (b := 0) (by omega) (by omega)).mp c1
    refine lv_aload_n hx hb d_K_step_27 rfl (lv_at hl 1 rfl) ?_
    refine x_V (rest := []) ⟨hx, hb, hml, hown, hts⟩ (c_K_flushStep_ok l D cI cZ kd z k hk hp) gm_485 gm_487 gm_18 gm_34 gm_488 ⟨rfl, rfl⟩ hd_K_flushStep ⟨Nat.le_of_ble_eq_true rfl, Nat.le_of_ble_eq_true rfl⟩ hK hP hD hS hA (va_recv hK hP (ci := 5) (q0 := 0) rfl k_h0) rfl hl.1 rfl (Nat.le_of_ble_eq_true rfl) d_K_step_28 ⟨Nat.le_of_ble_eq_true rfl, Nat.le_of_ble_eq_true rfl⟩ (fun H locs hP hD hS => ?_)
    obtain ⟨z2, ez2⟩ : ∃ zt_ : x_S, zt_ = k_fl z k := ⟨_, rfl⟩
    rw [← ez2] at hP hD
    refine lv_goto (tgt := 178) hx hb d_K_step_31 (by decide) ?_
    exact x_rv (w := k_w cI cZ kd) (by subst ez2; first | (simp only [k_step, if_pos c1]; done) | rfl | (simp only [k_step, if_pos c1]; rfl)) hx hb hr hlk hP hD hS d_K_step_178
  · have c1 : ¬ t = 0 := fun h => c1 ((nI_eq (a := t) (b := 0) (by omega) (by omega)).mpr h)
    refine lv_iload_n hx hb d_K_step_10 rfl (lv_at hl 2 rfl) ?_
    refine lv_iconst (v := 2) hx hb d_K_step_11 (by decide) ?_
    refine lv_icmp_eq (tgt := 27) hx hb d_K_step_12 (by decide) (fun c3 => ?_) (fun c3 => ?_)
    · have c3 : t = 2 := (nI_eq (a := t) (b := 2) (by omega) (by omega)).mp c3
      refine lv_aload_n hx hb d_K_step_27 rfl (lv_at hl 1 rfl) ?_
      refine x_V (rest := []) ⟨hx, hb, hml, hown, hts⟩ (c_K_flushStep_ok l D cI cZ kd z k hk hp) gm_485 gm_487 gm_18 gm_34 gm_488 ⟨rfl, rfl⟩ hd_K_flushStep ⟨Nat.le_of_ble_eq_true rfl, Nat.le_of_ble_eq_true rfl⟩ hK hP hD hS hA (va_recv hK hP (ci := 5) (q0 := 0) rfl k_h0) rfl hl.1 rfl (Nat.le_of_ble_eq_true rfl) d_K_step_28 ⟨Nat.le_of_ble_eq_true rfl, Nat.le_of_ble_eq_true rfl⟩ (fun H locs hP hD hS => ?_)
      obtain ⟨z4, ez4⟩ : ∃ zt_ : x_S, zt_ = k_fl z k := ⟨_, rfl⟩
      rw [← ez4] at hP hD
      refine lv_goto (tgt := 178) hx hb d_K_step_31 (by decide) ?_
      exact x_rv (w := k_w cI cZ kd) (by subst ez4; first | (simp only [k_step, if_neg c1, if_pos c3]; done) | rfl | (simp only [k_step, if_neg c1, if_pos c3]; rfl)) hx hb hr hlk hP hD hS d_K_step_178
    · have c3 : ¬ t = 2 := fun h => c3 ((nI_eq (a := t) (b := 2) (by omega) (by omega)).mpr h)
      refine lv_iload_n hx hb d_K_step_15 rfl (lv_at hl 2 rfl) ?_
      refine lv_iload_n hx hb d_K_step_16 rfl (lv_at hl 0 rfl) ?_
      refine lv_icmp_eq (tgt := 27) hx hb d_K_step_17 (by decide) (fun c5 => ?_) (fun c5 => ?_)
      · have c5 : t = (3 + 2 * n) := (nI_eq (a := t) (b := 3 + 2 * n) (by omega) (by omega)).mp c5
        refine lv_aload_n hx hb d_K_step_27 rfl (lv_at hl 1 rfl) ?_
        refine x_V (rest := []) ⟨hx, hb, hml, hown, hts⟩ (c_K_flushStep_ok l D cI cZ kd z k hk hp) gm_485 gm_487 gm_18 gm_34 gm_488 ⟨rfl, rfl⟩ hd_K_flushStep ⟨Nat.le_of_ble_eq_true rfl, Nat.le_of_ble_eq_true rfl⟩ hK hP hD hS hA (va_recv hK hP (ci := 5) (q0 := 0) rfl k_h0) rfl hl.1 rfl (Nat.le_of_ble_eq_true rfl) d_K_step_28 ⟨Nat.le_of_ble_eq_true rfl, Nat.le_of_ble_eq_true rfl⟩ (fun H locs hP hD hS => ?_)
        obtain ⟨z6, ez6⟩ : ∃ zt_ : x_S, zt_ = k_fl z k := ⟨_, rfl⟩
        rw [← ez6] at hP hD
        refine lv_goto (tgt := 178) hx hb d_K_step_31 (by decide) ?_
        exact x_rv (w := k_w cI cZ kd) (by subst ez6; first | (simp only [k_step, if_neg c1, if_neg c3, if_pos c5]; done) | rfl | (simp only [k_step, if_neg c1, if_neg c3, if_pos c5]; rfl)) hx hb hr hlk hP hD hS d_K_step_178
      · have c5 : ¬ t = (3 + 2 * n) := fun h => c5 ((nI_eq (a := t) (b := 3 + 2 * n) (by omega) (by omega)).mpr h)
        refine lv_iload_n hx hb d_K_step_20 rfl (lv_at hl 2 rfl) ?_
        refine lv_iload_n hx hb d_K_step_21 rfl (lv_at hl 0 rfl) ?_
        refine lv_iconst (v := 2) hx hb d_K_step_22 (by decide) ?_
        refine lv_iadd hx hb d_K_step_23 ?_
        refine x_top (show (nI (3 + 2 * n)) + 2 = nI (3 + 2 * n + 2) from x_nadd (3 + 2 * n) 2) ?_
        refine lv_icmp_ne (tgt := 34) hx hb d_K_step_24 (by decide) (fun c7 => ?_) (fun c7 => ?_)
        · have c7 : ¬ t = (3 + 2 * n + 2) := fun h => c7 ((nI_eq (a := t) (b := 3 + 2 * n + 2) (by omega) (by omega)).mpr h)
          refine lv_iload_n hx hb d_K_step_34 rfl (lv_at hl 2 rfl) ?_
          refine lv_iconst (v := 1) hx hb d_K_step_35 (by decide) ?_
          refine lv_icmp_ne (tgt := 49) hx hb d_K_step_36 (by decide) (fun c8 => ?_) (fun c8 => ?_)
          · have c8 : ¬ t = 1 := fun h => c8 ((nI_eq (a := t) (b := 1) (by omega) (by omega)).mpr h)
            refine lv_iload_n hx hb d_K_step_49 rfl (lv_at hl 2 rfl) ?_
            refine lv_iload_n hx hb d_K_step_50 rfl (lv_at hl 0 rfl) ?_
            refine lv_iconst (v := 1) hx hb d_K_step_51 (by decide) ?_
            refine lv_iadd hx hb d_K_step_52 ?_
            refine x_top (show (nI (3 + 2 * n)) + 1 = nI (3 + 2 * n + 1) from x_nadd (3 + 2 * n) 1) ?_
            refine lv_icmp_ne (tgt := 66) hx hb d_K_step_53 (by decide) (fun c9 => ?_) (fun c9 => ?_)
            · have c9 : ¬ t = (3 + 2 * n + 1) := fun h => c9 ((nI_eq (a := t) (b := 3 + 2 * n + 1) (by omega) (by omega)).mpr h)
              refine lv_iload_n hx hb d_K_step_66 rfl (lv_at hl 2 rfl) ?_
              refine lv_iload_n hx hb d_K_step_67 rfl (lv_at hl 0 rfl) ?_
              refine lv_icmp_ge (tgt := 144) hx hb d_K_step_68 (by decide) (fun c10 => ?_) (fun c10 => ?_)
              · have c10 : (3 + 2 * n) ≤ t := (nI_leI (a := 3 + 2 * n) (b := t) (by omega) (by omega)).mp c10
                refine lv_iload_n hx hb d_K_step_144 rfl (lv_at hl 2 rfl) ?_
                refine lv_iload_n hx hb d_K_step_145 rfl (lv_at hl 0 rfl) ?_
                refine lv_iconst (v := 3) hx hb d_K_step_146 (by decide) ?_
                refine lv_iadd hx hb d_K_step_147 ?_
                refine lv_iload_n hx hb d_K_step_148 rfl (lv_at hl 3 rfl) ?_
                refine lv_iadd hx hb d_K_step_149 ?_
                refine x_top (show ((nI (3 + 2 * n)) + 3) + (nI n) = nI (3 + 2 * n + 3 + n) by rw [show nI (3 + 2 * n) + 3 = nI (3 + 2 * n + 3) from x_nadd (3 + 2 * n) 3]; exact x_nadd (3 + 2 * n + 3) n) ?_
                refine lv_icmp_ge (tgt := 178) hx hb d_K_step_150 (by decide) (fun c11 => ?_) (fun c11 => ?_)
                · have c11 : (3 + 2 * n + 3 + n) ≤ t := (nI_leI (a := 3 + 2 * n + 3 + n) (b := t) (by omega) (by omega)).mp c11
                  exact x_rv (w := k_w cI cZ kd) (by first | (simp only [k_step, if_neg c1, if_neg c3, if_neg c5, if_neg c7, if_neg c8, if_neg c9, if_pos c10, if_pos c11]; done) | rfl | (simp only [k_step, if_neg c1, if_neg c3, if_neg c5, if_neg c7, if_neg c8, if_neg c9, if_pos c10, if_pos c11]; rfl)) hx hb hr hlk hP hD hS d_K_step_178
                · have c11 : ¬ (3 + 2 * n + 3 + n) ≤ t := fun h => c11 ((nI_leI (a := 3 + 2 * n + 3 + n) (b := t) (by omega) (by omega)).mpr h)
                  refine lv_iload_n hx hb d_K_step_153 rfl (lv_at hl 2 rfl) ?_
                  refine lv_iload_n hx hb d_K_step_154 rfl (lv_at hl 0 rfl) ?_
                  refine lv_isub hx hb d_K_step_155 ?_
                  refine x_top (show (nI t) - (nI (3 + 2 * n)) = nI (t - (3 + 2 * n)) from pk_sub (by omega)) ?_
                  refine lv_iconst (v := 3) hx hb d_K_step_156 (by decide) ?_
                  refine lv_isub hx hb d_K_step_157 ?_
                  refine x_top (show (nI (t - (3 + 2 * n))) - 3 = nI (t - (3 + 2 * n) - 3) from pk_sub (b := 3) (by omega)) ?_
                  refine lv_istore (lv' := [(4, .int (nI (t - (3 + 2 * n) - 3))), (3, .int (nI (3 + 2 * n))), (0, .ref (kd 0)), (1, .int (nI t)), (2, .int (nI n))]) hx hb d_K_step_158 hl (by decide) rfl (fun ls hl => ?_)
                  refine lv_aload_n hx hb d_K_step_160 rfl (lv_at hl 2 rfl) ?_
                  refine lv_aload_n hx hb d_K_step_161 rfl (lv_at hl 2 rfl) ?_
                  refine va_get (D := D) (ci := 5) (C := R_K) (T := T_K) (N := 21) hx hb hts in_K hown hK hP 0 k_h0 rfl 19 (by decide) (hts _ gm_419) (fun _ h9 => h9) rfl d_K_step_162 ?_
                  refine lv_iload hx hb d_K_step_165 (lv_at hl 0 rfl) ?_
                  refine va_iald (D := D) hx hb hK hP 10 0 k_h10 rfl (x_in3 (by omega)) d_K_step_167 ?_
                  refine x_top (show z 3 (nI (t - (3 + 2 * n) - 3)).toNatClampNeg = z 3 (t - (3 + 2 * n) - 3) by rw [x_cl3 (by omega)]) ?_
                  obtain ⟨cc, hcc, ec⟩ := hcell (t - (3 + 2 * n) - 3) (by omega)
                  refine x_top ec ?_
                  refine lv_aload_n hx hb d_K_step_168 rfl (lv_at hl 2 rfl) ?_
                  refine va_get (D := D) (ci := 5) (C := R_K) (T := T_K) (N := 21) hx hb hts in_K hown hK hP 0 k_h0 rfl 20 (by decide) (hts _ gm_420) (fun _ h9 => h9) rfl d_K_step_169 ?_
                  refine lv_iload hx hb d_K_step_172 (lv_at hl 0 rfl) ?_
                  refine va_iald (D := D) hx hb hK hP 11 0 k_h11 rfl (x_in3 (by omega)) d_K_step_174 ?_
                  refine x_top (show z 4 (nI (t - (3 + 2 * n) - 3)).toNatClampNeg = z 4 (t - (3 + 2 * n) - 3) by rw [x_cl3 (by omega)]) ?_
                  refine x_V (rest := []) ⟨hx, hb, hml, hown, hts⟩ (c_K_writeStep_ok l D cI cZ kd z k hk hp cc (by omega) (z 4 (t - (3 + 2 * n) - 3))) gm_497 gm_499 gm_21 gm_34 gm_500 ⟨rfl, rfl⟩ hd_K_writeStep ⟨Nat.le_of_ble_eq_true rfl, Nat.le_of_ble_eq_true rfl⟩ hK hP hD hS hA (va_recv hK hP (ci := 5) (q0 := 0) rfl k_h0) rfl hl.1 rfl (Nat.le_of_ble_eq_true rfl) d_K_step_175 ⟨Nat.le_of_ble_eq_true rfl, Nat.le_of_ble_eq_true rfl⟩ (fun H locs hP hD hS => ?_)
                  obtain ⟨z12, ez12⟩ : ∃ zt_ : x_S, zt_ = k_wr z k cc (z 4 (t - (3 + 2 * n) - 3)) := ⟨_, rfl⟩
                  rw [← ez12] at hP hD
                  exact x_rv (w := k_w cI cZ kd) (by subst ez12; first | (simp only [k_step, if_neg c1, if_neg c3, if_neg c5, if_neg c7, if_neg c8, if_neg c9, if_pos c10, if_neg c11, ec, x_cl32 (show cc < 32 by omega)]; done) | rfl | (simp only [k_step, if_neg c1, if_neg c3, if_neg c5, if_neg c7, if_neg c8, if_neg c9, if_pos c10, if_neg c11, ec, x_cl32 (show cc < 32 by omega)]; rfl)) hx hb hr hlk hP hD hS d_K_step_178
              · have c10 : ¬ (3 + 2 * n) ≤ t := fun h => c10 ((nI_leI (a := 3 + 2 * n) (b := t) (by omega) (by omega)).mpr h)
                refine lv_iload_n hx hb d_K_step_71 rfl (lv_at hl 2 rfl) ?_
                refine lv_iconst (v := 3) hx hb d_K_step_72 (by decide) ?_
                refine lv_isub hx hb d_K_step_73 ?_
                refine x_top (show (nI t) - 3 = nI (t - 3) from pk_sub (b := 3) (by omega)) ?_
                refine lv_iconst (v := 2) hx hb d_K_step_74 (by decide) ?_
                refine lv_idiv hx hb d_K_step_75 (by decide) ?_
                refine x_top (show (nI (t - 3)) / 2 = nI ((t - 3) / 2) from pk_div (d := 2) (by omega) (by decide) (by decide)) ?_
                refine lv_istore (lv' := [(4, .int (nI ((t - 3) / 2))), (3, .int (nI (3 + 2 * n))), (0, .ref (kd 0)), (1, .int (nI t)), (2, .int (nI n))]) hx hb d_K_step_76 hl (by decide) rfl (fun ls hl => ?_)
                refine lv_iload_n hx hb d_K_step_78 rfl (lv_at hl 3 rfl) ?_
                refine lv_iconst (v := 3) hx hb d_K_step_79 (by decide) ?_
                refine lv_isub hx hb d_K_step_80 ?_
                refine x_top (show (nI t) - 3 = nI (t - 3) from pk_sub (b := 3) (by omega)) ?_
                refine lv_iconst (v := 1) hx hb d_K_step_81 (by decide) ?_
                refine lv_iand hx hb d_K_step_82 ?_
                refine x_top (show (nI (t - 3)) &&& 1 = nI ((t - 3) % 2) from k_and1 (by omega)) ?_
                refine lv_if_ne (tgt := 90) hx hb d_K_step_83 (by decide) (fun c13 => ?_) (fun c13 => ?_)
                · have c13 : ¬ ((t - 3) % 2) = 0 := fun h => c13 ((nI_eq (a := (t - 3) % 2) (b := 0) (by omega) (by omega)).mpr h)
                  refine lv_iconst (v := 0) hx hb d_K_step_90 (by decide) ?_
                  refine lv_istore (lv' := [(5, .int 0), (4, .int (nI ((t - 3) / 2))), (3, .int (nI (3 + 2 * n))), (0, .ref (kd 0)), (1, .int (nI t)), (2, .int (nI n))]) hx hb d_K_step_91 hl (by decide) rfl (fun ls hl => ?_)
                  refine lv_aload_n hx hb d_K_step_93 rfl (lv_at hl 3 rfl) ?_
                  refine lv_iload hx hb d_K_step_94 (lv_at hl 0 rfl) ?_
                  refine lv_if_eq (tgt := 109) hx hb d_K_step_96 (by decide) (fun c14 => ?_) (fun c14 => ?_)
                  · refine lv_bipush (v := 26) hx hb d_K_step_109 (by decide) ?_
                    refine lv_iconst (v := 2) hx hb d_K_step_111 (by decide) ?_
                    refine lv_iload hx hb d_K_step_112 (lv_at hl 1 rfl) ?_
                    refine lv_imul hx hb d_K_step_114 ?_
                    refine lv_iadd hx hb d_K_step_115 ?_
                    refine x_top (show 26 + (2 * (nI ((t - 3) / 2))) = nI (26 + 2 * ((t - 3) / 2)) by rw [show (2 : Int32) * nI ((t - 3) / 2) = nI (2 * ((t - 3) / 2)) from x_nmul 2 _]; exact x_nadd 26 _) ?_
                    refine lv_iload hx hb d_K_step_116 (lv_at hl 0 rfl) ?_
                    refine lv_if_eq (tgt := 131) hx hb d_K_step_118 (by decide) (fun c15 => ?_) (fun c15 => ?_)
                    · refine lv_aload_n hx hb d_K_step_131 rfl (lv_at hl 3 rfl) ?_
                      refine va_get (D := D) (ci := 5) (C := R_K) (T := T_K) (N := 21) hx hb hts in_K hown hK hP 0 k_h0 rfl 20 (by decide) (hts _ gm_420) (fun _ h9 => h9) rfl d_K_step_132 ?_
                      refine lv_iload hx hb d_K_step_135 (lv_at hl 1 rfl) ?_
                      refine va_iald (D := D) hx hb hK hP 11 0 k_h11 rfl (x_in3 (by omega)) d_K_step_137 ?_
                      refine x_top (show z 4 (nI ((t - 3) / 2)).toNatClampNeg = z 4 ((t - 3) / 2) by rw [x_cl3 (by omega)]) ?_
                      refine x_V (rest := []) ⟨hx, hb, hml, hown, hts⟩ (c_K_writeStep_ok l D cI cZ kd z k hk hp (26 + 2 * ((t - 3) / 2)) (by omega) (z 4 ((t - 3) / 2))) gm_497 gm_499 gm_21 gm_34 gm_500 ⟨rfl, rfl⟩ hd_K_writeStep ⟨Nat.le_of_ble_eq_true rfl, Nat.le_of_ble_eq_true rfl⟩ hK hP hD hS hA (va_recv hK hP (ci := 5) (q0 := 0) rfl k_h0) rfl hl.1 rfl (Nat.le_of_ble_eq_true rfl) d_K_step_138 ⟨Nat.le_of_ble_eq_true rfl, Nat.le_of_ble_eq_true rfl⟩ (fun H locs hP hD hS => ?_)
                      obtain ⟨z16, ez16⟩ : ∃ zt_ : x_S, zt_ = k_wr z k (26 + 2 * ((t - 3) / 2)) (z 4 ((t - 3) / 2)) := ⟨_, rfl⟩
                      rw [← ez16] at hP hD
                      refine lv_goto (tgt := 178) hx hb d_K_step_141 (by decide) ?_
                      exact x_rv (w := k_w cI cZ kd) (by subst ez16; first | (simp only [k_step, if_neg c1, if_neg c3, if_neg c5, if_neg c7, if_neg c8, if_neg c9, if_neg c10, if_neg c13]; done) | rfl | (simp only [k_step, if_neg c1, if_neg c3, if_neg c5, if_neg c7, if_neg c8, if_neg c9, if_neg c10, if_neg c13]; rfl)) hx hb hr hlk hP hD hS d_K_step_178
                    · exact (c15 (by decide)).elim
                  · exact (c14 (by decide)).elim
                · have c13 : ((t - 3) % 2) = 0 := (nI_eq (a := (t - 3) % 2) (b := 0) (by omega) (by omega)).mp c13
                  refine lv_iconst (v := 1) hx hb d_K_step_86 (by decide) ?_
                  refine lv_goto (tgt := 91) hx hb d_K_step_87 (by decide) ?_
                  refine lv_istore (lv' := [(5, .int 1), (4, .int (nI ((t - 3) / 2))), (3, .int (nI (3 + 2 * n))), (0, .ref (kd 0)), (1, .int (nI t)), (2, .int (nI n))]) hx hb d_K_step_91 hl (by decide) rfl (fun ls hl => ?_)
                  refine lv_aload_n hx hb d_K_step_93 rfl (lv_at hl 3 rfl) ?_
                  refine lv_iload hx hb d_K_step_94 (lv_at hl 0 rfl) ?_
                  refine lv_if_eq (tgt := 109) hx hb d_K_step_96 (by decide) (fun c17 => ?_) (fun c17 => ?_)
                  · exact absurd c17 (by decide)
                  · refine lv_bipush (v := 25) hx hb d_K_step_99 (by decide) ?_
                    refine lv_iconst (v := 2) hx hb d_K_step_101 (by decide) ?_
                    refine lv_iload hx hb d_K_step_102 (lv_at hl 1 rfl) ?_
                    refine lv_imul hx hb d_K_step_104 ?_
                    refine lv_iadd hx hb d_K_step_105 ?_
                    refine lv_goto (tgt := 116) hx hb d_K_step_106 (by decide) ?_
                    refine x_top (show 25 + (2 * (nI ((t - 3) / 2))) = nI (25 + 2 * ((t - 3) / 2)) by rw [show (2 : Int32) * nI ((t - 3) / 2) = nI (2 * ((t - 3) / 2)) from x_nmul 2 _]; exact x_nadd 25 _) ?_
                    refine lv_iload hx hb d_K_step_116 (lv_at hl 0 rfl) ?_
                    refine lv_if_eq (tgt := 131) hx hb d_K_step_118 (by decide) (fun c18 => ?_) (fun c18 => ?_)
                    · exact absurd c18 (by decide)
                    · refine lv_aload_n hx hb d_K_step_121 rfl (lv_at hl 3 rfl) ?_
                      refine va_get (D := D) (ci := 5) (C := R_K) (T := T_K) (N := 21) hx hb hts in_K hown hK hP 0 k_h0 rfl 19 (by decide) (hts _ gm_419) (fun _ h9 => h9) rfl d_K_step_122 ?_
                      refine lv_iload hx hb d_K_step_125 (lv_at hl 1 rfl) ?_
                      refine va_iald (D := D) hx hb hK hP 10 0 k_h10 rfl (x_in3 (by omega)) d_K_step_127 ?_
                      refine x_top (show z 3 (nI ((t - 3) / 2)).toNatClampNeg = z 3 ((t - 3) / 2) by rw [x_cl3 (by omega)]) ?_
                      refine lv_goto (tgt := 138) hx hb d_K_step_128 (by decide) ?_
                      refine x_V (rest := []) ⟨hx, hb, hml, hown, hts⟩ (c_K_writeStep_ok l D cI cZ kd z k hk hp (25 + 2 * ((t - 3) / 2)) (by omega) (z 3 ((t - 3) / 2))) gm_497 gm_499 gm_21 gm_34 gm_500 ⟨rfl, rfl⟩ hd_K_writeStep ⟨Nat.le_of_ble_eq_true rfl, Nat.le_of_ble_eq_true rfl⟩ hK hP hD hS hA (va_recv hK hP (ci := 5) (q0 := 0) rfl k_h0) rfl hl.1 rfl (Nat.le_of_ble_eq_true rfl) d_K_step_138 ⟨Nat.le_of_ble_eq_true rfl, Nat.le_of_ble_eq_true rfl⟩ (fun H locs hP hD hS => ?_)
                      obtain ⟨z19, ez19⟩ : ∃ zt_ : x_S, zt_ = k_wr z k (25 + 2 * ((t - 3) / 2)) (z 3 ((t - 3) / 2)) := ⟨_, rfl⟩
                      rw [← ez19] at hP hD
                      refine lv_goto (tgt := 178) hx hb d_K_step_141 (by decide) ?_
                      exact x_rv (w := k_w cI cZ kd) (by subst ez19; first | (simp only [k_step, if_neg c1, if_neg c3, if_neg c5, if_neg c7, if_neg c8, if_neg c9, if_neg c10, if_pos c13]; done) | rfl | (simp only [k_step, if_neg c1, if_neg c3, if_neg c5, if_neg c7, if_neg c8, if_neg c9, if_neg c10, if_pos c13]; rfl)) hx hb hr hlk hP hD hS d_K_step_178
            · have c9 : t = (3 + 2 * n + 1) := (nI_eq (a := t) (b := 3 + 2 * n + 1) (by omega) (by omega)).mp c9
              refine lv_aload_n hx hb d_K_step_56 rfl (lv_at hl 1 rfl) ?_
              refine lv_bipush (v := 24) hx hb d_K_step_57 (by decide) ?_
              refine x_top (show (24 : Int32) = nI 24 from rfl) ?_
              refine lv_iload_n hx hb d_K_step_59 rfl (lv_at hl 3 rfl) ?_
              refine x_V (rest := []) ⟨hx, hb, hml, hown, hts⟩ (c_K_writeStep_ok l D cI cZ kd z k hk hp 24 (by decide) (nI n)) gm_497 gm_499 gm_21 gm_34 gm_500 ⟨rfl, rfl⟩ hd_K_writeStep ⟨Nat.le_of_ble_eq_true rfl, Nat.le_of_ble_eq_true rfl⟩ hK hP hD hS hA (va_recv hK hP (ci := 5) (q0 := 0) rfl k_h0) rfl hl.1 rfl (Nat.le_of_ble_eq_true rfl) d_K_step_60 ⟨Nat.le_of_ble_eq_true rfl, Nat.le_of_ble_eq_true rfl⟩ (fun H locs hP hD hS => ?_)
              obtain ⟨z20, ez20⟩ : ∃ zt_ : x_S, zt_ = k_wr z k 24 (nI n) := ⟨_, rfl⟩
              rw [← ez20] at hP hD
              refine lv_goto (tgt := 178) hx hb d_K_step_63 (by decide) ?_
              exact x_rv (w := k_w cI cZ kd) (by subst ez20; first | (simp only [k_step, if_neg c1, if_neg c3, if_neg c5, if_neg c7, if_neg c8, if_pos c9]; done) | rfl | (simp only [k_step, if_neg c1, if_neg c3, if_neg c5, if_neg c7, if_neg c8, if_pos c9]; rfl)) hx hb hr hlk hP hD hS d_K_step_178
          · have c8 : t = 1 := (nI_eq (a := t) (b := 1) (by omega) (by omega)).mp c8
            refine lv_aload_n hx hb d_K_step_39 rfl (lv_at hl 1 rfl) ?_
            refine lv_bipush (v := 24) hx hb d_K_step_40 (by decide) ?_
            refine x_top (show (24 : Int32) = nI 24 from rfl) ?_
            refine lv_iconst (v := 0) hx hb d_K_step_42 (by decide) ?_
            refine x_V (rest := []) ⟨hx, hb, hml, hown, hts⟩ (c_K_writeStep_ok l D cI cZ kd z k hk hp 24 (by decide) 0) gm_497 gm_499 gm_21 gm_34 gm_500 ⟨rfl, rfl⟩ hd_K_writeStep ⟨Nat.le_of_ble_eq_true rfl, Nat.le_of_ble_eq_true rfl⟩ hK hP hD hS hA (va_recv hK hP (ci := 5) (q0 := 0) rfl k_h0) rfl hl.1 rfl (Nat.le_of_ble_eq_true rfl) d_K_step_43 ⟨Nat.le_of_ble_eq_true rfl, Nat.le_of_ble_eq_true rfl⟩ (fun H locs hP hD hS => ?_)
            obtain ⟨z21, ez21⟩ : ∃ zt_ : x_S, zt_ = k_wr z k 24 0 := ⟨_, rfl⟩
            rw [← ez21] at hP hD
            refine lv_goto (tgt := 178) hx hb d_K_step_46 (by decide) ?_
            exact x_rv (w := k_w cI cZ kd) (by subst ez21; first | (simp only [k_step, if_neg c1, if_neg c3, if_neg c5, if_neg c7, if_pos c8]; done) | rfl | (simp only [k_step, if_neg c1, if_neg c3, if_neg c5, if_neg c7, if_pos c8]; rfl)) hx hb hr hlk hP hD hS d_K_step_178
        · have c7 : t = (3 + 2 * n + 2) := (nI_eq (a := t) (b := 3 + 2 * n + 2) (by omega) (by omega)).mp c7
          refine lv_aload_n hx hb d_K_step_27 rfl (lv_at hl 1 rfl) ?_
          refine x_V (rest := []) ⟨hx, hb, hml, hown, hts⟩ (c_K_flushStep_ok l D cI cZ kd z k hk hp) gm_485 gm_487 gm_18 gm_34 gm_488 ⟨rfl, rfl⟩ hd_K_flushStep ⟨Nat.le_of_ble_eq_true rfl, Nat.le_of_ble_eq_true rfl⟩ hK hP hD hS hA (va_recv hK hP (ci := 5) (q0 := 0) rfl k_h0) rfl hl.1 rfl (Nat.le_of_ble_eq_true rfl) d_K_step_28 ⟨Nat.le_of_ble_eq_true rfl, Nat.le_of_ble_eq_true rfl⟩ (fun H locs hP hD hS => ?_)
          obtain ⟨z22, ez22⟩ : ∃ zt_ : x_S, zt_ = k_fl z k := ⟨_, rfl⟩
          rw [← ez22] at hP hD
          refine lv_goto (tgt := 178) hx hb d_K_step_31 (by decide) ?_
          exact x_rv (w := k_w cI cZ kd) (by subst ez22; first | (simp only [k_step, if_neg c1, if_neg c3, if_neg c5, if_pos c7]; done) | rfl | (simp only [k_step, if_neg c1, if_neg c3, if_neg c5, if_pos c7]; rfl)) hx hb hr hlk hP hD hS d_K_step_178
end
section
-- ===== 23.kspec2: the reference's public calls; n entries, k the primary where there is one
def k_stage (z : x_S) (n : Nat) (a v : Int32) : Int32 × x_S := if k_out a 24 = 0 then (if z 0 6 = 2 then (-1, z) else if n = 3 then (-2, z) else (x_up (x_up (x_up z 3 n a) 4 n v) 2 0 (nI n + 1) 2 0, x_up (x_up (x_up z 3 n a) 4 n v) 2 0 (nI n + 1))) else (-1, z)
def k_cell (z : x_S) (k : Nat) (a : Int32) : Int64 := if k_out a 24 = 0 then (if z 0 6 = 2 then -1000000000000 else (k_held z k a.toNatClampNeg).toInt64) else -1000000000000
def k_cr2 (z : x_S) (k : Nat) (i : Nat) : x_S := if (x_up z (5 + k) 5 (z (5 + k) 5 ||| k_ext i)) 0 1 = 0 then x_up z (5 + k) 5 (z (5 + k) 5 ||| k_ext i) else x_up (x_up z (5 + k) 5 (z (5 + k) 5 ||| k_ext i)) (5 + (1 - k)) 5 ((x_up z (5 + k) 5 (z (5 + k) 5 ||| k_ext i)) (5 + (1 - k)) 5 ||| k_ext i)
def k_crB (z : x_S) (k : Nat) (keep : Int32) (i : Nat) : x_S := if z (11 + k) i = 0 then z else x_up (if x_sh keep (nI i) &&& 1 = 1 then x_up (k_cr2 z k i) (7 + k) i (k_cr2 z k i (9 + k) i) else k_cr2 z k i) (11 + k) i 0
def k_crL (k : Nat) (keep : Int32) : Nat → Nat → x_S → x_S
  | 0, _, z => z
  | n + 1, i, z => k_crL k keep n (i + 1) (k_crB z k keep i)
def k_crT (z : x_S) (k : Nat) : x_S := if x_up z (5 + k) 0 1 0 6 = nI k then k_disc (k_noP (x_up z (5 + k) 0 1)) else k_disc (x_up z (5 + k) 0 1)
def k_crash (z : x_S) (a keep : Int32) : Int32 × x_S := if k_out a 2 = 0 then (if z (5 + a.toNatClampNeg) 0 = 0 then (0, k_crT (k_crL a.toNatClampNeg keep 32 0 z) a.toNatClampNeg) else (-1, z)) else (-1, z)
def k_restart (z : x_S) (a : Int32) : Int32 × x_S := if k_out a 2 = 0 then (if z (5 + a.toNatClampNeg) 0 = 0 then (-1, z) else (0, x_up z (5 + a.toNatClampNeg) 0 0)) else (-1, z)
def k_swL (k : Nat) : Nat → Nat → x_S → x_S
  | 0, _, z => z
  | n + 1, i, z => k_swL k n (i + 1) (x_up (x_up z (7 + k) i 0) (11 + k) i 0)
def k_swT (z : x_S) (k : Nat) : x_S := x_up (x_up (x_up (x_up z (5 + k) 2 0) (5 + k) 3 0) (5 + k) 4 0) (5 + k) 5 0
def k_swap (z : x_S) (a : Int32) : Int32 × x_S := if k_out a 2 = 0 then (if z (5 + a.toNatClampNeg) 0 = 0 then (-1, z) else (0, k_swT (k_swL a.toNatClampNeg 32 0 z) a.toNatClampNeg)) else (-1, z)
def k_line (z : x_S) (u : Int32) : Int32 × x_S := if u = 0 then (0, k_disc (x_up z 0 0 u)) else (0, x_up z 0 0 u)
def k_wline (z : x_S) (a u : Int32) : Int32 × x_S := if k_out a 2 = 0 then (if u = 0 then (0, x_up z (5 + a.toNatClampNeg) 6 1) else (0, x_up z (5 + a.toNatClampNeg) 6 0)) else (-1, z)
def k_fin (z : x_S) (s : Nat) : x_S :=
  let z1 := k_settle (k_settle z 0) 1
  let z2 := x_up z1 (5 + (1 - s)) 2 (z1 (5 + s) 2)
  x_up (x_up (x_up (x_up (x_up z2 5 4 0) 5 5 0) 6 4 0) 6 5 0) 0 7 2
def k_cntL (u : Int32) : Nat → Nat → Int32 → Int32
  | 0, _, a => a
  | n + 1, i, a => k_cntL u n (i + 1) (a + ((u >>> (nI i &&& 31)) &&& 1))
def k_conT (z : x_S) (s : Nat) (u : Int32) : Int32 × x_S := if u = 0 then (0, k_fin (x_up z 0 1 1) s) else (k_cntL u 8 0 0, x_up (x_up (x_up (x_up (x_up (x_up z 0 1 1) (5 + s) 5 u) (5 + (1 - s)) 5 0) (5 + (1 - s)) 2 0) (5 + (1 - s)) 4 0) 0 7 (nI s))
def k_con4 (z : x_S) (s : Nat) : Int32 × x_S := if z (5 + s) 4 = 0 then k_conT z s 255 else if z (5 + s) 3 = z (5 + (1 - s)) 2 then k_conT z s (z 5 5 ||| z 6 5) else k_conT z s 255
def k_con3 (z : x_S) : Int32 × x_S := if z 6 2 ≤ z 5 2 then (if z 5 2 = z 6 2 then (if z 0 6 = 1 then k_conT z 1 (z 5 5 ||| z 6 5) else k_conT z 0 (z 5 5 ||| z 6 5)) else k_con4 z 0) else (if z 5 2 = z 6 2 then (if z 0 6 = 1 then k_conT z 1 (z 5 5 ||| z 6 5) else k_conT z 0 (z 5 5 ||| z 6 5)) else k_con4 z 1)
def k_connect (z : x_S) : Int32 × x_S := if z 0 1 = 0 then (if z 0 0 = 0 then (-1, z) else if z 5 0 = 0 then (if z 6 0 = 0 then (if z 5 2 = 0 then (if z 6 2 = 0 then (-6, z) else k_con3 z) else k_con3 z) else (-1, z)) else (-1, z)) else (-1, z)
def k_demote (z : x_S) (a : Int32) : Int32 × x_S := if k_out a 2 = 0 then (if z 0 6 = a then (if k_noP z 1 3 = a then (0, x_up (k_noP z) 1 3 2) else (0, k_noP z)) else (-1, z)) else (-1, z)
def k_rnw (z : x_S) (k : Nat) : Int32 × x_S := if z 0 6 = 2 then (-1, z) else if z (5 + k) 6 = 0 then (x_up z 1 4 (z 1 2 + z 1 0) 1 4, x_up z 1 4 (z 1 2 + z 1 0)) else (-1, z)
def k_tickT (z : x_S) : Int32 × x_S := if x_up z 1 3 2 0 6 = 2 then (x_up z 1 3 2 1 2, x_up z 1 3 2) else (k_noP (x_up z 1 3 2) 1 2, k_noP (x_up z 1 3 2))
def k_tick (z : x_S) (b : Int32) : Int32 × x_S := if b < 0 then (-1, z) else if b ≤ 100 then (if x_up z 1 2 (z 1 2 + b) 1 3 = 2 then k_tickT (x_up z 1 2 (z 1 2 + b)) else if x_up z 1 2 (z 1 2 + b) 1 2 < x_up z 1 2 (z 1 2 + b) 1 4 then (x_up z 1 2 (z 1 2 + b) 1 2, x_up z 1 2 (z 1 2 + b)) else k_tickT (x_up z 1 2 (z 1 2 + b))) else (-1, z)
def k_block (z : x_S) (a b f : Int32) : Int64 := if k_out a 2 = 0 then (if k_out b 32 = 0 then (if f = 0 then (k_held z a.toNatClampNeg b.toNatClampNeg).toInt64 else (z (7 + a.toNatClampNeg) b.toNatClampNeg).toInt64) else -1000000000000) else -1000000000000
def k_hasL (z : x_S) (k : Nat) : Nat → Nat → Int32 → Int32
  | 0, _, a => a
  | n + 1, i, a => k_hasL z k n (i + 1) (if z (11 + k) i = 0 then a + 0 else a + 1)
def k_nodeT (z : x_S) (k : Nat) (w : Int32) : Int32 :=
  if w = 0 then (if z (5 + k) 0 = 0 then 1 else 0) else if w = 1 then (if z 0 6 = nI k then 1 else 0) else if w = 2 then z (5 + k) 2 else if w = 3 then z (5 + k) 3 else if w = 4 then (if z (5 + k) 4 = 0 then 0 else 1) else if w = 5 then z (5 + k) 5 else if w = 6 then k_hasL z k 32 0 0 else if w = 7 then (if z (5 + k) 6 = 0 then 1 else 0) else -1
def k_node (z : x_S) (a w : Int32) : Int32 := if k_out a 2 = 0 then k_nodeT z a.toNatClampNeg w else -1
def k_mirror (z : x_S) (w : Int32) : Int32 := if w = 0 then (if z 0 1 = 0 then 0 else 1) else if w = 1 then z 0 7 else if w = 2 then z 1 1 else if w = 3 then z 1 3 else if w = 4 then (if z 1 3 = 2 then 0 else z 1 4) else if w = 5 then z 2 0 else if w = 6 then (if z 0 0 = 0 then 0 else 1) else -1
theorem k_outE {v : Int32} (n : Nat) (hn : n < 2 ^ 31) (h : k_out v (nI n) = 0) : ∃ b : Nat, b < n ∧ v = nI b := by
  unfold k_out at h
  by_cases h0 : v < 0
  · simp [h0] at h
  · by_cases h1 : v < nI n
    · rcases pk_ix v (n := n) hn with q | q | q
      · exact absurd q h0
      · exact absurd h1 (Int32.not_lt.mpr q)
      · exact q
    · simp [h0, h1] at h
theorem k_out2 {v : Int32} (h : k_out v 2 = 0) : ∃ b : Nat, b < 2 ∧ v = nI b := k_outE 2 (by decide) h
theorem k_out24 {v : Int32} (h : k_out v 24 = 0) : ∃ b : Nat, b < 24 ∧ v = nI b := k_outE 24 (by decide) h
theorem k_out32 {v : Int32} (h : k_out v 32 = 0) : ∃ b : Nat, b < 32 ∧ v = nI b := k_outE 32 (by decide) h
theorem k_crB_06 {z : x_S} {k i : Nat} {keep : Int32} : k_crB z k keep i 0 6 = z 0 6 := by
  unfold k_crB
  split
  · rfl
  · rw [x_up_row (by omega)]
    have e : k_cr2 z k i 0 6 = z 0 6 := by
      unfold k_cr2
      split
      · rw [x_up_row (by omega)]
      · rw [x_up_row (by omega), x_up_row (by omega)]
    split
    · rw [x_up_row (by omega)]; exact e
    · exact e
end
section
-- ===== 24.k2a: the reference: public calls
set_option maxHeartbeats 4000000 in
set_option maxRecDepth 100000 in
theorem c_K_stage_ok (l : Launch) (D : va_G) (cI cZ : ClassId) (kd : Nat → Nat) (z : x_S) (n : Nat) (hn : n ≤ 3) (hz : z 2 0 = nI n) (a v : Int32) : x_C l y_K_stage c_K_stage 3 (some .int) { frames := 1, cells := 0, slots := 0, locals := 22 } D (k_ty cI cZ) (k_w cI cZ kd z) [.ref (kd 0), .int a, .int v] (some (.int (k_stage z n a v).1)) (k_w cI cZ kd (k_stage z n a v).2) := by
  refine x_C.of (by decide) (Nat.le_of_ble_eq_true rfl) ?_
  intro p e s m below meth c hx hb hr hml hts hown hlk A hA hK hS hP hD ls hl
  have hown : s.vm.findClass R_K = some m.cls := hown
  have hl : lv_has ls 3 [(0, .ref (kd 0)), (1, .int a), (2, .int v)] := hl
  refine lv_aload_n hx hb d_K_stage_0 rfl (lv_at hl 0 rfl) ?_
  refine lv_iload_n hx hb d_K_stage_1 rfl (lv_at hl 1 rfl) ?_
  refine lv_bipush (v := 24) hx hb d_K_stage_2 (by decide) ?_
  refine x_V (rest := []) ⟨hx, hb, hml, hown, hts⟩ (c_K_out_ok l D cI cZ kd z a 24) gm_469 gm_471 gm_15 gm_34 gm_472 ⟨rfl, rfl⟩ hd_K_out ⟨Nat.le_of_ble_eq_true rfl, Nat.le_of_ble_eq_true rfl⟩ hK hP hD hS hA (va_recv hK hP (ci := 5) (q0 := 0) rfl k_h0) rfl hl.1 rfl (Nat.le_of_ble_eq_true rfl) d_K_stage_4 ⟨Nat.le_of_ble_eq_true rfl, Nat.le_of_ble_eq_true rfl⟩ (fun H locs hP hD hS => ?_)
  refine lv_topi (fun r1 er1 => ?_)
  refine lv_if_ne (tgt := 18) hx hb d_K_stage_7 (by decide) (fun c2 => ?_) (fun c2 => ?_)
  · refine lv_iconst (v := (-1)) hx hb d_K_stage_18 (by decide) ?_
    exact x_ri (w := k_w cI cZ kd) (by subst er1; first | (simp only [k_stage, if_neg c2]; done) | (with_reducible rfl) | (simp only [k_stage, if_neg c2]; with_reducible rfl)) hx hb hr hlk hP hD hS d_K_stage_19
  · refine lv_aload_n hx hb d_K_stage_10 rfl (lv_at hl 0 rfl) ?_
    refine va_get (D := D) (ci := 5) (C := R_K) (T := T_K) (N := 21) hx hb hts in_K hown hK hP 0 k_h0 rfl 10 (by decide) (hts _ gm_410) (fun _ h9 => h9) rfl d_K_stage_11 ?_
    refine lv_iconst (v := 2) hx hb d_K_stage_14 (by decide) ?_
    refine lv_icmp_ne (tgt := 20) hx hb d_K_stage_15 (by decide) (fun c3 => ?_) (fun c3 => ?_)
    · refine lv_aload_n hx hb d_K_stage_20 rfl (lv_at hl 0 rfl) ?_
      refine va_get (D := D) (ci := 5) (C := R_K) (T := T_K) (N := 21) hx hb hts in_K hown hK hP 0 k_h0 rfl 18 (by decide) (hts _ gm_418) (fun _ h9 => h9) rfl d_K_stage_21 ?_
      refine x_top (show z 2 0 = nI n by subst er1; exact hz) ?_
      refine lv_iconst (v := 3) hx hb d_K_stage_24 (by decide) ?_
      refine lv_icmp_ne (tgt := 31) hx hb d_K_stage_25 (by decide) (fun c4 => ?_) (fun c4 => ?_)
      · have c4 : ¬ n = 3 := fun h => c4 ((nI_eq (a := n) (b := 3) (by omega) (by omega)).mpr h)
        refine lv_aload_n hx hb d_K_stage_31 rfl (lv_at hl 0 rfl) ?_
        refine va_get (D := D) (ci := 5) (C := R_K) (T := T_K) (N := 21) hx hb hts in_K hown hK hP 0 k_h0 rfl 19 (by decide) (hts _ gm_419) (fun _ h9 => h9) rfl d_K_stage_32 ?_
        refine lv_aload_n hx hb d_K_stage_35 rfl (lv_at hl 0 rfl) ?_
        refine va_get (D := D) (ci := 5) (C := R_K) (T := T_K) (N := 21) hx hb hts in_K hown hK hP 0 k_h0 rfl 18 (by decide) (hts _ gm_418) (fun _ h9 => h9) rfl d_K_stage_36 ?_
        refine x_top (show z 2 0 = nI n by subst er1; exact hz) ?_
        refine lv_iload_n hx hb d_K_stage_39 rfl (lv_at hl 1 rfl) ?_
        refine va_iast (D := D) hx hb hK hP hD hS 10 0 k_h10 rfl (x_in3 (by omega)) d_K_stage_40 (fun H locs hP hD hS => ?_)
        obtain ⟨z5, ez5⟩ : ∃ zt_ : x_S, zt_ = x_up z 3 n a := ⟨_, rfl⟩
        rw [x_cl3 (by omega)] at hP hD
        have hP : va_P D vwCl (k_w cI cZ kd z5) H := by rw [ez5]; exact (k_s10 n a) ▸ hP
        have hD : va_D A (k_w cI cZ kd z5) := by rw [ez5]; exact (k_s10 n a) ▸ hD
        refine lv_aload_n hx hb d_K_stage_41 rfl (lv_at hl 0 rfl) ?_
        refine va_get (D := D) (ci := 5) (C := R_K) (T := T_K) (N := 21) hx hb hts in_K hown hK hP 0 k_h0 rfl 20 (by decide) (hts _ gm_420) (fun _ h9 => h9) rfl d_K_stage_42 ?_
        refine lv_aload_n hx hb d_K_stage_45 rfl (lv_at hl 0 rfl) ?_
        refine va_get (D := D) (ci := 5) (C := R_K) (T := T_K) (N := 21) hx hb hts in_K hown hK hP 0 k_h0 rfl 18 (by decide) (hts _ gm_418) (fun _ h9 => h9) rfl d_K_stage_46 ?_
        refine x_top (show z5 2 0 = nI n by subst er1 ez5; exact hz) ?_
        refine lv_iload_n hx hb d_K_stage_49 rfl (lv_at hl 2 rfl) ?_
        refine va_iast (D := D) hx hb hK hP hD hS 11 0 k_h11 rfl (x_in3 (by omega)) d_K_stage_50 (fun H locs hP hD hS => ?_)
        obtain ⟨z6, ez6⟩ : ∃ zt_ : x_S, zt_ = x_up z5 4 n v := ⟨_, rfl⟩
        rw [x_cl3 (by omega)] at hP hD
        have hP : va_P D vwCl (k_w cI cZ kd z6) H := by rw [ez6]; exact (k_s11 n v) ▸ hP
        have hD : va_D A (k_w cI cZ kd z6) := by rw [ez6]; exact (k_s11 n v) ▸ hD
        refine lv_aload_n hx hb d_K_stage_51 rfl (lv_at hl 0 rfl) ?_
        refine lv_dup hx hb d_K_stage_52 rfl ?_
        refine va_get (D := D) (ci := 5) (C := R_K) (T := T_K) (N := 21) hx hb hts in_K hown hK hP 0 k_h0 rfl 18 (by decide) (hts _ gm_418) (fun _ h9 => h9) rfl d_K_stage_53 ?_
        refine x_top (show z6 2 0 = nI n by subst er1 ez5 ez6; exact hz) ?_
        refine lv_iconst (v := 1) hx hb d_K_stage_56 (by decide) ?_
        refine lv_iadd hx hb d_K_stage_57 ?_
        refine va_put (D := D) (ci := 5) (v := .int ((nI n) + 1)) (ty := .int) (C := R_K) (T := T_K) (N := 21) hx hb hts in_K fy_K fy_K_ok n_K hown hK hP hD hS 0 k_h0 rfl 18 (by decide) (hts _ gm_418) (fun _ h9 => h9) rfl (by decide +kernel) rfl rfl (Nat.le_of_ble_eq_true rfl) d_K_stage_58 (fun H locs hP hD hS => ?_)
        obtain ⟨z7, ez7⟩ : ∃ zt_ : x_S, zt_ = x_up z6 2 0 ((nI n) + 1) := ⟨_, rfl⟩
        have hP : va_P D vwCl (k_w cI cZ kd z7) H := by rw [ez7]; exact (k_s0_18 ((nI n) + 1)) ▸ hP
        have hD : va_D A (k_w cI cZ kd z7) := by rw [ez7]; exact (k_s0_18 ((nI n) + 1)) ▸ hD
        refine lv_aload_n hx hb d_K_stage_61 rfl (lv_at hl 0 rfl) ?_
        refine va_get (D := D) (ci := 5) (C := R_K) (T := T_K) (N := 21) hx hb hts in_K hown hK hP 0 k_h0 rfl 18 (by decide) (hts _ gm_418) (fun _ h9 => h9) rfl d_K_stage_62 ?_
        exact x_ri (w := k_w cI cZ kd) (by subst er1 ez5 ez6 ez7; first | (simp only [k_stage, if_pos c2, if_neg c3, if_neg c4]; done) | (with_reducible rfl) | (simp only [k_stage, if_pos c2, if_neg c3, if_neg c4]; with_reducible rfl)) hx hb hr hlk hP hD hS d_K_stage_65
      · have c4 : n = 3 := (nI_eq (a := n) (b := 3) (by omega) (by omega)).mp c4
        refine lv_bipush (v := (-2)) hx hb d_K_stage_28 (by decide) ?_
        exact x_ri (w := k_w cI cZ kd) (by subst er1; first | (simp only [k_stage, if_pos c2, if_neg c3, if_pos c4]; done) | (with_reducible rfl) | (simp only [k_stage, if_pos c2, if_neg c3, if_pos c4]; with_reducible rfl)) hx hb hr hlk hP hD hS d_K_stage_30
    · refine lv_iconst (v := (-1)) hx hb d_K_stage_18 (by decide) ?_
      exact x_ri (w := k_w cI cZ kd) (by subst er1; first | (simp only [k_stage, if_pos c2, if_pos c3]; done) | (with_reducible rfl) | (simp only [k_stage, if_pos c2, if_pos c3]; with_reducible rfl)) hx hb hr hlk hP hD hS d_K_stage_19
set_option maxHeartbeats 4000000 in
set_option maxRecDepth 100000 in
theorem c_K_cell_ok (l : Launch) (D : va_G) (cI cZ : ClassId) (kd : Nat → Nat) (z : x_S) (k : Nat) (hk : k < 2) (hq : ¬ z 0 6 = 2 → z 0 6 = nI k) (a : Int32) : x_C l y_K_cell c_K_cell 2 (some .long) { frames := 1, cells := 0, slots := 0, locals := 22 } D (k_ty cI cZ) (k_w cI cZ kd z) [.ref (kd 0), .int a] (some (.long (k_cell z k a))) (k_w cI cZ kd z) := by
  refine x_C.of (by decide) (Nat.le_of_ble_eq_true rfl) ?_
  intro p e s m below meth c hx hb hr hml hts hown hlk A hA hK hS hP hD ls hl
  have hown : s.vm.findClass R_K = some m.cls := hown
  have hl : lv_has ls 2 [(0, .ref (kd 0)), (1, .int a)] := hl
  refine lv_aload_n hx hb d_K_cell_0 rfl (lv_at hl 0 rfl) ?_
  refine lv_iload_n hx hb d_K_cell_1 rfl (lv_at hl 1 rfl) ?_
  refine lv_bipush (v := 24) hx hb d_K_cell_2 (by decide) ?_
  refine x_V (rest := []) ⟨hx, hb, hml, hown, hts⟩ (c_K_out_ok l D cI cZ kd z a 24) gm_469 gm_471 gm_15 gm_34 gm_472 ⟨rfl, rfl⟩ hd_K_out ⟨Nat.le_of_ble_eq_true rfl, Nat.le_of_ble_eq_true rfl⟩ hK hP hD hS hA (va_recv hK hP (ci := 5) (q0 := 0) rfl k_h0) rfl hl.1 rfl (Nat.le_of_ble_eq_true rfl) d_K_cell_4 ⟨Nat.le_of_ble_eq_true rfl, Nat.le_of_ble_eq_true rfl⟩ (fun H locs hP hD hS => ?_)
  refine lv_topi (fun r1 er1 => ?_)
  refine lv_if_ne (tgt := 18) hx hb d_K_cell_7 (by decide) (fun c2 => ?_) (fun c2 => ?_)
  · refine lv_ldc2 (v := (-1000000000000)) hx hb hown (hts (.constantLong R_K 106 (-1000000000000)) gm_525) d_K_cell_18 ?_
    refine lv_goto (tgt := 34) hx hb d_K_cell_21 (by decide) ?_
    exact x_rl (by subst er1; first | (simp only [k_cell, if_neg c2]; done) | (with_reducible rfl) | (simp only [k_cell, if_neg c2]; with_reducible rfl)) hx hb hr hlk hP hD hS d_K_cell_34
  · obtain ⟨bb, hbb, ebb⟩ := k_out24 (v := a) (by rw [← er1]; exact c2)
    subst ebb
    refine lv_aload_n hx hb d_K_cell_10 rfl (lv_at hl 0 rfl) ?_
    refine va_get (D := D) (ci := 5) (C := R_K) (T := T_K) (N := 21) hx hb hts in_K hown hK hP 0 k_h0 rfl 10 (by decide) (hts _ gm_410) (fun _ h9 => h9) rfl d_K_cell_11 ?_
    refine lv_iconst (v := 2) hx hb d_K_cell_14 (by decide) ?_
    refine lv_icmp_ne (tgt := 24) hx hb d_K_cell_15 (by decide) (fun c3 => ?_) (fun c3 => ?_)
    · have hp := hq c3
      refine lv_aload_n hx hb d_K_cell_24 rfl (lv_at hl 0 rfl) ?_
      refine lv_aload_n hx hb d_K_cell_25 rfl (lv_at hl 0 rfl) ?_
      refine va_get (D := D) (ci := 5) (C := R_K) (T := T_K) (N := 21) hx hb hts in_K hown hK hP 0 k_h0 rfl 10 (by decide) (hts _ gm_410) (fun _ h9 => h9) rfl d_K_cell_26 ?_
      refine x_top (show z 0 6 = nI k by subst er1; first | exact hp | (rw [k_keep_low (by decide)]; exact hp) | (rw [k_settle_low (by decide)]; exact hp)) ?_
      refine lv_iload_n hx hb d_K_cell_29 rfl (lv_at hl 1 rfl) ?_
      refine x_V (rest := []) ⟨hx, hb, hml, hown, hts⟩ (c_K_holds_ok l D cI cZ kd z k hk bb (by omega)) gm_493 gm_495 gm_20 gm_34 gm_496 ⟨rfl, rfl⟩ hd_K_holds ⟨Nat.le_of_ble_eq_true rfl, Nat.le_of_ble_eq_true rfl⟩ hK hP hD hS hA (va_recv hK hP (ci := 5) (q0 := 0) rfl k_h0) rfl hl.1 rfl (Nat.le_of_ble_eq_true rfl) d_K_cell_30 ⟨Nat.le_of_ble_eq_true rfl, Nat.le_of_ble_eq_true rfl⟩ (fun H locs hP hD hS => ?_)
      refine lv_topi (fun r4 er4 => ?_)
      refine lv_i2l (v := r4.toInt64) hx hb d_K_cell_33 rfl ?_
      exact x_rl (by subst er1 er4; first | (simp only [k_cell, if_pos c2, if_neg c3, x_cl32 (show bb < 32 by omega)]; done) | (with_reducible rfl) | (simp only [k_cell, if_pos c2, if_neg c3, x_cl32 (show bb < 32 by omega)]; with_reducible rfl)) hx hb hr hlk hP hD hS d_K_cell_34
    · refine lv_ldc2 (v := (-1000000000000)) hx hb hown (hts (.constantLong R_K 106 (-1000000000000)) gm_525) d_K_cell_18 ?_
      refine lv_goto (tgt := 34) hx hb d_K_cell_21 (by decide) ?_
      exact x_rl (by subst er1; first | (simp only [k_cell, if_pos c2, if_pos c3, x_cl32 (show bb < 32 by omega)]; done) | (with_reducible rfl) | (simp only [k_cell, if_pos c2, if_pos c3, x_cl32 (show bb < 32 by omega)]; with_reducible rfl)) hx hb hr hlk hP hD hS d_K_cell_34
set_option maxHeartbeats 4000000 in
set_option maxRecDepth 100000 in
theorem c_K_crash_ok (l : Launch) (D : va_G) (cI cZ : ClassId) (kd : Nat → Nat) (z : x_S) (a keep : Int32) : x_C l y_K_crash c_K_crash 4 (some .int) { frames := 1, cells := 0, slots := 0, locals := 22 } D (k_ty cI cZ) (k_w cI cZ kd z) [.ref (kd 0), .int a, .int keep] (some (.int (k_crash z a keep).1)) (k_w cI cZ kd (k_crash z a keep).2) := by
  refine x_C.of (by decide) (Nat.le_of_ble_eq_true rfl) ?_
  intro p e s m below meth c hx hb hr hml hts hown hlk A hA hK hS hP hD ls hl
  have hown : s.vm.findClass R_K = some m.cls := hown
  have hl : lv_has ls 4 [(0, .ref (kd 0)), (1, .int a), (2, .int keep)] := hl
  have lpo : ∀ (k : Nat) (hk : k < 2), a = nI k → k_crash z a keep = (0, k_crT (k_crL k keep 32 0 z) k) → ∀ (H : Heap) (locs : List Loc) (ls : Array Slot), va_P D vwCl (k_w cI cZ kd z) H → va_D A (k_w cI cZ kd z) → va_S A s.heap H locs → lv_has ls 4 [(3, .int (nI 0)), (0, .ref (kd 0)), (1, .int (nI k)), (2, .int keep)] → W p l e { frames := 1, cells := 0, slots := 0, locals := 22 } s m [.ref (kd 0), .int a, .int keep].toArray below meth c H locs 0 0 (MQ below (x_Q (some (.int (k_crash z a keep).1)) D (k_w cI cZ kd (k_crash z a keep).2) A) [.ref (kd 0), .int a, .int keep].toArray s 0 0 A) (F0 m 22 ls []) := by
    intro k hk ek hG
    have lp : ∀ (n i : Nat) (y : x_S) (H : Heap) (locs : List Loc) (ls : Array Slot), i + n = 32 → k_crash z a keep = (0, k_crT (k_crL k keep n i y) k) → va_P D vwCl (k_w cI cZ kd y) H → va_D A (k_w cI cZ kd y) → va_S A s.heap H locs → lv_has ls 4 [(3, .int (nI i)), (0, .ref (kd 0)), (1, .int (nI k)), (2, .int keep)] → W p l e { frames := 1, cells := 0, slots := 0, locals := 22 } s m [.ref (kd 0), .int a, .int keep].toArray below meth c H locs 0 0 (MQ below (x_Q (some (.int (k_crash z a keep).1)) D (k_w cI cZ kd (k_crash z a keep).2) A) [.ref (kd 0), .int a, .int keep].toArray s 0 0 A) (F0 m 22 ls []) := by
      intro n
      induction n with
      | zero =>
        intro i y  H locs ls hn hI hP hD hS hl
        refine lv_iload_n hx hb d_K_crash_22 rfl (lv_at hl 0 rfl) ?_
        refine lv_bipush (v := 32) hx hb d_K_crash_23 (by decide) ?_
        refine lv_icmp_ge (tgt := 128) hx hb d_K_crash_25 (by decide) (fun c1 => ?_) (fun c1 => ?_)
        · refine lv_aload_n hx hb d_K_crash_128 rfl (lv_at hl 1 rfl) ?_
          refine va_get (D := D) (ci := 5) (C := R_K) (T := T_K) (N := 21) hx hb hts in_K hown hK hP 0 k_h0 rfl 4 (by decide) (hts _ gm_404) (fun _ h9 => h9) rfl d_K_crash_129 ?_
          refine lv_iload_n hx hb d_K_crash_132 rfl (lv_at hl 2 rfl) ?_
          refine lv_iconst (v := 1) hx hb d_K_crash_133 (by decide) ?_
          refine va_zast (D := D) hx hb hK hP hD hS 4 1 k_h4 rfl (x_in2 (k := k) hk) d_K_crash_134 (fun H locs hP hD hS => ?_)
          obtain ⟨z2, ez2⟩ : ∃ zt_ : x_S, zt_ = x_up y (5 + k) 0 1 := ⟨_, rfl⟩
          rw [x_cl (k := k) hk] at hP hD
          have hP : va_P D vwCl (k_w cI cZ kd z2) H := by rw [ez2]; exact (k_s4 (k := k) hk 1) ▸ hP
          have hD : va_D A (k_w cI cZ kd z2) := by rw [ez2]; exact (k_s4 (k := k) hk 1) ▸ hD
          refine lv_aload_n hx hb d_K_crash_135 rfl (lv_at hl 1 rfl) ?_
          refine va_get (D := D) (ci := 5) (C := R_K) (T := T_K) (N := 21) hx hb hts in_K hown hK hP 0 k_h0 rfl 10 (by decide) (hts _ gm_410) (fun _ h9 => h9) rfl d_K_crash_136 ?_
          refine lv_iload_n hx hb d_K_crash_139 rfl (lv_at hl 2 rfl) ?_
          refine lv_icmp_ne (tgt := 147) hx hb d_K_crash_140 (by decide) (fun c3 => ?_) (fun c3 => ?_)
          · refine lv_aload_n hx hb d_K_crash_147 rfl (lv_at hl 1 rfl) ?_
            refine x_V (rest := []) ⟨hx, hb, hml, hown, hts⟩ (c_K_disconnect_ok l D cI cZ kd z2) gm_517 gm_519 gm_25 gm_34 gm_520 ⟨rfl, rfl⟩ hd_K_disconnect ⟨Nat.le_of_ble_eq_true rfl, Nat.le_of_ble_eq_true rfl⟩ hK hP hD hS hA (va_recv hK hP (ci := 5) (q0 := 0) rfl k_h0) rfl hl.1 rfl (Nat.le_of_ble_eq_true rfl) d_K_crash_148 ⟨Nat.le_of_ble_eq_true rfl, Nat.le_of_ble_eq_true rfl⟩ (fun H locs hP hD hS => ?_)
            obtain ⟨z4, ez4⟩ : ∃ zt_ : x_S, zt_ = k_disc z2 := ⟨_, rfl⟩
            rw [← ez4] at hP hD
            refine lv_iconst (v := 0) hx hb d_K_crash_151 (by decide) ?_
            exact x_ri (w := k_w cI cZ kd) (by subst ez2 ez4; rw [hI]; simp only [k_crL]; simp only [k_crT, if_pos c1, if_neg c3]) hx hb hr hlk hP hD hS d_K_crash_152
          · refine lv_aload_n hx hb d_K_crash_143 rfl (lv_at hl 1 rfl) ?_
            refine x_V (rest := []) ⟨hx, hb, hml, hown, hts⟩ (c_K_noPrimary_ok l D cI cZ kd z2) gm_513 gm_515 gm_24 gm_34 gm_516 ⟨rfl, rfl⟩ hd_K_noPrimary ⟨Nat.le_of_ble_eq_true rfl, Nat.le_of_ble_eq_true rfl⟩ hK hP hD hS hA (va_recv hK hP (ci := 5) (q0 := 0) rfl k_h0) rfl hl.1 rfl (Nat.le_of_ble_eq_true rfl) d_K_crash_144 ⟨Nat.le_of_ble_eq_true rfl, Nat.le_of_ble_eq_true rfl⟩ (fun H locs hP hD hS => ?_)
            obtain ⟨z5, ez5⟩ : ∃ zt_ : x_S, zt_ = k_noP z2 := ⟨_, rfl⟩
            rw [← ez5] at hP hD
            refine lv_aload_n hx hb d_K_crash_147 rfl (lv_at hl 1 rfl) ?_
            refine x_V (rest := []) ⟨hx, hb, hml, hown, hts⟩ (c_K_disconnect_ok l D cI cZ kd z5) gm_517 gm_519 gm_25 gm_34 gm_520 ⟨rfl, rfl⟩ hd_K_disconnect ⟨Nat.le_of_ble_eq_true rfl, Nat.le_of_ble_eq_true rfl⟩ hK hP hD hS hA (va_recv hK hP (ci := 5) (q0 := 0) rfl k_h0) rfl hl.1 rfl (Nat.le_of_ble_eq_true rfl) d_K_crash_148 ⟨Nat.le_of_ble_eq_true rfl, Nat.le_of_ble_eq_true rfl⟩ (fun H locs hP hD hS => ?_)
            obtain ⟨z6, ez6⟩ : ∃ zt_ : x_S, zt_ = k_disc z5 := ⟨_, rfl⟩
            rw [← ez6] at hP hD
            refine lv_iconst (v := 0) hx hb d_K_crash_151 (by decide) ?_
            exact x_ri (w := k_w cI cZ kd) (by subst ez2 ez5 ez6; rw [hI]; simp only [k_crL]; simp only [k_crT, if_pos c1, if_pos c3]) hx hb hr hlk hP hD hS d_K_crash_152
        · exact absurd (show (32 : Int32) ≤ nI i from nI_le (a := 32) (by omega) (by omega)) c1
      | succ n ih =>
        intro i y  H locs ls hn hI hP hD hS hl
        have hi : i < 32 := by omega
        refine lv_iload_n hx hb d_K_crash_22 rfl (lv_at hl 0 rfl) ?_
        refine lv_bipush (v := 32) hx hb d_K_crash_23 (by decide) ?_
        refine lv_icmp_ge (tgt := 128) hx hb d_K_crash_25 (by decide) (fun c7 => ?_) (fun c7 => ?_)
        · exact absurd c7 (show ¬ (32 : Int32) ≤ nI i from nI_ge (b := 32) (by omega) (by decide))
        · refine lv_aload_n hx hb d_K_crash_28 rfl (lv_at hl 1 rfl) ?_
          refine va_get (D := D) (ci := 5) (C := R_K) (T := T_K) (N := 21) hx hb hts in_K hown hK hP 0 k_h0 rfl 3 (by decide) (hts _ gm_403) (fun _ h9 => h9) rfl d_K_crash_29 ?_
          refine lv_iload_n hx hb d_K_crash_32 rfl (lv_at hl 2 rfl) ?_
          refine lv_bipush (v := 32) hx hb d_K_crash_33 (by decide) ?_
          refine lv_imul hx hb d_K_crash_35 ?_
          refine lv_iload_n hx hb d_K_crash_36 rfl (lv_at hl 0 rfl) ?_
          refine lv_iadd hx hb d_K_crash_37 ?_
          refine x_top (show ((nI k) * 32) + (nI i) = nI (32 * k + i) from k_ix) ?_
          refine va_zald (D := D) hx hb hK hP 3 1 k_h3 rfl (k_in64 hk hi) d_K_crash_38 ?_
          refine x_top (k_b_at hk hi) ?_
          refine lv_if_eq (tgt := 122) hx hb d_K_crash_39 (by decide) (fun c8 => ?_) (fun c8 => ?_)
          · refine lv_iinc (v := nI (i + 1)) (lv' := [(3, .int (nI (i + 1))), (0, .ref (kd 0)), (1, .int (nI k)), (2, .int keep)]) hx hb d_K_crash_122 hl (k := 0) rfl (nI_1 _) (by decide) rfl (fun ls hl => ?_)
            refine lv_goto (tgt := 22) hx hb d_K_crash_125 (by decide) ?_
            exact ih (i + 1) y H locs ls (by omega) (by rw [hI]; simp only [k_crL, k_crB, k_cr2, if_neg c7, if_pos c8]) hP hD hS (lv_sub hl [0, 1, 2, 3] rfl)
          · refine lv_aload_n hx hb d_K_crash_42 rfl (lv_at hl 1 rfl) ?_
            refine va_get (D := D) (ci := 5) (C := R_K) (T := T_K) (N := 21) hx hb hts in_K hown hK hP 0 k_h0 rfl 9 (by decide) (hts _ gm_409) (fun _ h9 => h9) rfl d_K_crash_43 ?_
            refine lv_iload_n hx hb d_K_crash_46 rfl (lv_at hl 2 rfl) ?_
            refine lv_dup2_11 hx hb d_K_crash_47 rfl rfl ?_
            refine va_iald (D := D) hx hb hK hP 9 0 k_h9 rfl (x_in2 hk) d_K_crash_48 ?_
            refine x_top (k_col_at hk) ?_
            refine lv_aload_n hx hb d_K_crash_49 rfl (lv_at hl 1 rfl) ?_
            refine lv_iload_n hx hb d_K_crash_50 rfl (lv_at hl 0 rfl) ?_
            refine x_V (rest := [.int (y (5 + k) 5), .int (nI k), .ref (kd 9)]) ⟨hx, hb, hml, hown, hts⟩ (c_K_extentBit_ok l D cI cZ kd y i) gm_505 gm_507 gm_23 gm_34 gm_508 ⟨rfl, rfl⟩ hd_K_extentBit ⟨Nat.le_of_ble_eq_true rfl, Nat.le_of_ble_eq_true rfl⟩ hK hP hD hS hA (va_recv hK hP (ci := 5) (q0 := 0) rfl k_h0) rfl hl.1 rfl (Nat.le_of_ble_eq_true rfl) d_K_crash_51 ⟨Nat.le_of_ble_eq_true rfl, Nat.le_of_ble_eq_true rfl⟩ (fun H locs hP hD hS => ?_)
            refine lv_topi (fun r9 er9 => ?_)
            refine lv_ior hx hb d_K_crash_54 ?_
            refine va_iast (D := D) hx hb hK hP hD hS 9 0 k_h9 rfl (x_in2 (k := k) hk) d_K_crash_55 (fun H locs hP hD hS => ?_)
            obtain ⟨z10, ez10⟩ : ∃ zt_ : x_S, zt_ = x_up y (5 + k) 5 ((y (5 + k) 5) ||| r9) := ⟨_, rfl⟩
            rw [x_cl (k := k) hk] at hP hD
            have hP : va_P D vwCl (k_w cI cZ kd z10) H := by rw [ez10]; exact (k_s9 (k := k) hk ((y (5 + k) 5) ||| r9)) ▸ hP
            have hD : va_D A (k_w cI cZ kd z10) := by rw [ez10]; exact (k_s9 (k := k) hk ((y (5 + k) 5) ||| r9)) ▸ hD
            refine lv_aload_n hx hb d_K_crash_56 rfl (lv_at hl 1 rfl) ?_
            refine va_get (D := D) (ci := 5) (C := R_K) (T := T_K) (N := 21) hx hb hts in_K hown hK hP 0 k_h0 rfl 13 (by decide) (hts _ gm_413) (fun _ h9 => h9) rfl d_K_crash_57 ?_
            refine lv_if_eq (tgt := 79) hx hb d_K_crash_60 (by decide) (fun c11 => ?_) (fun c11 => ?_)
            · refine lv_iload_n hx hb d_K_crash_79 rfl (lv_at hl 3 rfl) ?_
              refine lv_iload_n hx hb d_K_crash_80 rfl (lv_at hl 0 rfl) ?_
              refine lv_iushr (v := x_sh keep (nI i)) hx hb d_K_crash_81 rfl ?_
              refine lv_iconst (v := 1) hx hb d_K_crash_82 (by decide) ?_
              refine lv_iand hx hb d_K_crash_83 ?_
              refine lv_iconst (v := 1) hx hb d_K_crash_84 (by decide) ?_
              refine lv_icmp_ne (tgt := 110) hx hb d_K_crash_85 (by decide) (fun c12 => ?_) (fun c12 => ?_)
              · refine lv_aload_n hx hb d_K_crash_110 rfl (lv_at hl 1 rfl) ?_
                refine va_get (D := D) (ci := 5) (C := R_K) (T := T_K) (N := 21) hx hb hts in_K hown hK hP 0 k_h0 rfl 3 (by decide) (hts _ gm_403) (fun _ h9 => h9) rfl d_K_crash_111 ?_
                refine lv_iload_n hx hb d_K_crash_114 rfl (lv_at hl 2 rfl) ?_
                refine lv_bipush (v := 32) hx hb d_K_crash_115 (by decide) ?_
                refine lv_imul hx hb d_K_crash_117 ?_
                refine lv_iload_n hx hb d_K_crash_118 rfl (lv_at hl 0 rfl) ?_
                refine lv_iadd hx hb d_K_crash_119 ?_
                refine x_top (show ((nI k) * 32) + (nI i) = nI (32 * k + i) from k_ix) ?_
                refine lv_iconst (v := 0) hx hb d_K_crash_120 (by decide) ?_
                refine va_zast (D := D) hx hb hK hP hD hS 3 1 k_h3 rfl (k_in64 hk hi) d_K_crash_121 (fun H locs hP hD hS => ?_)
                obtain ⟨z13, ez13⟩ : ∃ zt_ : x_S, zt_ = x_up z10 (11 + k) i 0 := ⟨_, rfl⟩
                rw [k_cl64 hk hi] at hP hD
                have hP : va_P D vwCl (k_w cI cZ kd z13) H := by rw [ez13]; exact (k_s3 hk hi 0) ▸ hP
                have hD : va_D A (k_w cI cZ kd z13) := by rw [ez13]; exact (k_s3 hk hi 0) ▸ hD
                refine lv_iinc (v := nI (i + 1)) (lv' := [(3, .int (nI (i + 1))), (0, .ref (kd 0)), (1, .int (nI k)), (2, .int keep)]) hx hb d_K_crash_122 hl (k := 0) rfl (nI_1 _) (by decide) rfl (fun ls hl => ?_)
                refine lv_goto (tgt := 22) hx hb d_K_crash_125 (by decide) ?_
                exact ih (i + 1) z13 H locs ls (by omega) (by subst er9 ez10 ez13; rw [hI]; simp only [k_crL, k_crB, k_cr2, if_neg c7, if_neg c8, if_pos c11, if_neg c12]) hP hD hS (lv_sub hl [0, 1, 2, 3] rfl)
              · refine lv_aload_n hx hb d_K_crash_88 rfl (lv_at hl 1 rfl) ?_
                refine va_get (D := D) (ci := 5) (C := R_K) (T := T_K) (N := 21) hx hb hts in_K hown hK hP 0 k_h0 rfl 1 (by decide) (hts _ gm_401) (fun _ h9 => h9) rfl d_K_crash_89 ?_
                refine lv_iload_n hx hb d_K_crash_92 rfl (lv_at hl 2 rfl) ?_
                refine lv_bipush (v := 32) hx hb d_K_crash_93 (by decide) ?_
                refine lv_imul hx hb d_K_crash_95 ?_
                refine lv_iload_n hx hb d_K_crash_96 rfl (lv_at hl 0 rfl) ?_
                refine lv_iadd hx hb d_K_crash_97 ?_
                refine x_top (show ((nI k) * 32) + (nI i) = nI (32 * k + i) from k_ix) ?_
                refine lv_aload_n hx hb d_K_crash_98 rfl (lv_at hl 1 rfl) ?_
                refine va_get (D := D) (ci := 5) (C := R_K) (T := T_K) (N := 21) hx hb hts in_K hown hK hP 0 k_h0 rfl 2 (by decide) (hts _ gm_402) (fun _ h9 => h9) rfl d_K_crash_99 ?_
                refine lv_iload_n hx hb d_K_crash_102 rfl (lv_at hl 2 rfl) ?_
                refine lv_bipush (v := 32) hx hb d_K_crash_103 (by decide) ?_
                refine lv_imul hx hb d_K_crash_105 ?_
                refine lv_iload_n hx hb d_K_crash_106 rfl (lv_at hl 0 rfl) ?_
                refine lv_iadd hx hb d_K_crash_107 ?_
                refine x_top (show ((nI k) * 32) + (nI i) = nI (32 * k + i) from k_ix) ?_
                refine va_iald (D := D) hx hb hK hP 2 0 k_h2 rfl (k_in64 hk hi) d_K_crash_108 ?_
                refine x_top (k_b_at hk hi) ?_
                refine va_iast (D := D) hx hb hK hP hD hS 1 0 k_h1 rfl (k_in64 hk hi) d_K_crash_109 (fun H locs hP hD hS => ?_)
                obtain ⟨z14, ez14⟩ : ∃ zt_ : x_S, zt_ = x_up z10 (7 + k) i (z10 (9 + k) i) := ⟨_, rfl⟩
                rw [k_cl64 hk hi] at hP hD
                have hP : va_P D vwCl (k_w cI cZ kd z14) H := by rw [ez14]; exact (k_s1 hk hi (z10 (9 + k) i)) ▸ hP
                have hD : va_D A (k_w cI cZ kd z14) := by rw [ez14]; exact (k_s1 hk hi (z10 (9 + k) i)) ▸ hD
                refine lv_aload_n hx hb d_K_crash_110 rfl (lv_at hl 1 rfl) ?_
                refine va_get (D := D) (ci := 5) (C := R_K) (T := T_K) (N := 21) hx hb hts in_K hown hK hP 0 k_h0 rfl 3 (by decide) (hts _ gm_403) (fun _ h9 => h9) rfl d_K_crash_111 ?_
                refine lv_iload_n hx hb d_K_crash_114 rfl (lv_at hl 2 rfl) ?_
                refine lv_bipush (v := 32) hx hb d_K_crash_115 (by decide) ?_
                refine lv_imul hx hb d_K_crash_117 ?_
                refine lv_iload_n hx hb d_K_crash_118 rfl (lv_at hl 0 rfl) ?_
                refine lv_iadd hx hb d_K_crash_119 ?_
                refine x_top (show ((nI k) * 32) + (nI i) = nI (32 * k + i) from k_ix) ?_
                refine lv_iconst (v := 0) hx hb d_K_crash_120 (by decide) ?_
                refine va_zast (D := D) hx hb hK hP hD hS 3 1 k_h3 rfl (k_in64 hk hi) d_K_crash_121 (fun H locs hP hD hS => ?_)
                obtain ⟨z15, ez15⟩ : ∃ zt_ : x_S, zt_ = x_up z14 (11 + k) i 0 := ⟨_, rfl⟩
                rw [k_cl64 hk hi] at hP hD
                have hP : va_P D vwCl (k_w cI cZ kd z15) H := by rw [ez15]; exact (k_s3 hk hi 0) ▸ hP
                have hD : va_D A (k_w cI cZ kd z15) := by rw [ez15]; exact (k_s3 hk hi 0) ▸ hD
                refine lv_iinc (v := nI (i + 1)) (lv' := [(3, .int (nI (i + 1))), (0, .ref (kd 0)), (1, .int (nI k)), (2, .int keep)]) hx hb d_K_crash_122 hl (k := 0) rfl (nI_1 _) (by decide) rfl (fun ls hl => ?_)
                refine lv_goto (tgt := 22) hx hb d_K_crash_125 (by decide) ?_
                exact ih (i + 1) z15 H locs ls (by omega) (by subst er9 ez10 ez14 ez15; rw [hI]; simp only [k_crL, k_crB, k_cr2, if_neg c7, if_neg c8, if_pos c11, if_pos c12]) hP hD hS (lv_sub hl [0, 1, 2, 3] rfl)
            · refine lv_aload_n hx hb d_K_crash_63 rfl (lv_at hl 1 rfl) ?_
              refine va_get (D := D) (ci := 5) (C := R_K) (T := T_K) (N := 21) hx hb hts in_K hown hK hP 0 k_h0 rfl 9 (by decide) (hts _ gm_409) (fun _ h9 => h9) rfl d_K_crash_64 ?_
              refine lv_iconst (v := 1) hx hb d_K_crash_67 (by decide) ?_
              refine lv_iload_n hx hb d_K_crash_68 rfl (lv_at hl 2 rfl) ?_
              refine lv_isub hx hb d_K_crash_69 ?_
              refine x_top (x_1k hk) ?_
              refine lv_dup2_11 hx hb d_K_crash_70 rfl rfl ?_
              refine va_iald (D := D) hx hb hK hP 9 0 k_h9 rfl (x_in2 (x_1lt hk)) d_K_crash_71 ?_
              refine x_top (k_col_at (x_1lt hk)) ?_
              refine lv_aload_n hx hb d_K_crash_72 rfl (lv_at hl 1 rfl) ?_
              refine lv_iload_n hx hb d_K_crash_73 rfl (lv_at hl 0 rfl) ?_
              refine x_V (rest := [.int (z10 (5 + (1 - k)) 5), .int (nI (1 - k)), .ref (kd 9)]) ⟨hx, hb, hml, hown, hts⟩ (c_K_extentBit_ok l D cI cZ kd z10 i) gm_505 gm_507 gm_23 gm_34 gm_508 ⟨rfl, rfl⟩ hd_K_extentBit ⟨Nat.le_of_ble_eq_true rfl, Nat.le_of_ble_eq_true rfl⟩ hK hP hD hS hA (va_recv hK hP (ci := 5) (q0 := 0) rfl k_h0) rfl hl.1 rfl (Nat.le_of_ble_eq_true rfl) d_K_crash_74 ⟨Nat.le_of_ble_eq_true rfl, Nat.le_of_ble_eq_true rfl⟩ (fun H locs hP hD hS => ?_)
              refine lv_topi (fun r16 er16 => ?_)
              refine lv_ior hx hb d_K_crash_77 ?_
              refine va_iast (D := D) hx hb hK hP hD hS 9 0 k_h9 rfl (x_in2 (k := 1 - k) (x_1lt hk)) d_K_crash_78 (fun H locs hP hD hS => ?_)
              obtain ⟨z17, ez17⟩ : ∃ zt_ : x_S, zt_ = x_up z10 (5 + (1 - k)) 5 ((z10 (5 + (1 - k)) 5) ||| r16) := ⟨_, rfl⟩
              rw [x_cl (k := 1 - k) (x_1lt hk)] at hP hD
              have hP : va_P D vwCl (k_w cI cZ kd z17) H := by rw [ez17]; exact (k_s9 (k := 1 - k) (x_1lt hk) ((z10 (5 + (1 - k)) 5) ||| r16)) ▸ hP
              have hD : va_D A (k_w cI cZ kd z17) := by rw [ez17]; exact (k_s9 (k := 1 - k) (x_1lt hk) ((z10 (5 + (1 - k)) 5) ||| r16)) ▸ hD
              refine lv_iload_n hx hb d_K_crash_79 rfl (lv_at hl 3 rfl) ?_
              refine lv_iload_n hx hb d_K_crash_80 rfl (lv_at hl 0 rfl) ?_
              refine lv_iushr (v := x_sh keep (nI i)) hx hb d_K_crash_81 rfl ?_
              refine lv_iconst (v := 1) hx hb d_K_crash_82 (by decide) ?_
              refine lv_iand hx hb d_K_crash_83 ?_
              refine lv_iconst (v := 1) hx hb d_K_crash_84 (by decide) ?_
              refine lv_icmp_ne (tgt := 110) hx hb d_K_crash_85 (by decide) (fun c18 => ?_) (fun c18 => ?_)
              · refine lv_aload_n hx hb d_K_crash_110 rfl (lv_at hl 1 rfl) ?_
                refine va_get (D := D) (ci := 5) (C := R_K) (T := T_K) (N := 21) hx hb hts in_K hown hK hP 0 k_h0 rfl 3 (by decide) (hts _ gm_403) (fun _ h9 => h9) rfl d_K_crash_111 ?_
                refine lv_iload_n hx hb d_K_crash_114 rfl (lv_at hl 2 rfl) ?_
                refine lv_bipush (v := 32) hx hb d_K_crash_115 (by decide) ?_
                refine lv_imul hx hb d_K_crash_117 ?_
                refine lv_iload_n hx hb d_K_crash_118 rfl (lv_at hl 0 rfl) ?_
                refine lv_iadd hx hb d_K_crash_119 ?_
                refine x_top (show ((nI k) * 32) + (nI i) = nI (32 * k + i) from k_ix) ?_
                refine lv_iconst (v := 0) hx hb d_K_crash_120 (by decide) ?_
                refine va_zast (D := D) hx hb hK hP hD hS 3 1 k_h3 rfl (k_in64 hk hi) d_K_crash_121 (fun H locs hP hD hS => ?_)
                obtain ⟨z19, ez19⟩ : ∃ zt_ : x_S, zt_ = x_up z17 (11 + k) i 0 := ⟨_, rfl⟩
                rw [k_cl64 hk hi] at hP hD
                have hP : va_P D vwCl (k_w cI cZ kd z19) H := by rw [ez19]; exact (k_s3 hk hi 0) ▸ hP
                have hD : va_D A (k_w cI cZ kd z19) := by rw [ez19]; exact (k_s3 hk hi 0) ▸ hD
                refine lv_iinc (v := nI (i + 1)) (lv' := [(3, .int (nI (i + 1))), (0, .ref (kd 0)), (1, .int (nI k)), (2, .int keep)]) hx hb d_K_crash_122 hl (k := 0) rfl (nI_1 _) (by decide) rfl (fun ls hl => ?_)
                refine lv_goto (tgt := 22) hx hb d_K_crash_125 (by decide) ?_
                exact ih (i + 1) z19 H locs ls (by omega) (by subst er9 ez10 er16 ez17 ez19; rw [hI]; simp only [k_crL, k_crB, k_cr2, if_neg c7, if_neg c8, if_neg c11, if_neg c18]) hP hD hS (lv_sub hl [0, 1, 2, 3] rfl)
              · refine lv_aload_n hx hb d_K_crash_88 rfl (lv_at hl 1 rfl) ?_
                refine va_get (D := D) (ci := 5) (C := R_K) (T := T_K) (N := 21) hx hb hts in_K hown hK hP 0 k_h0 rfl 1 (by decide) (hts _ gm_401) (fun _ h9 => h9) rfl d_K_crash_89 ?_
                refine lv_iload_n hx hb d_K_crash_92 rfl (lv_at hl 2 rfl) ?_
                refine lv_bipush (v := 32) hx hb d_K_crash_93 (by decide) ?_
                refine lv_imul hx hb d_K_crash_95 ?_
                refine lv_iload_n hx hb d_K_crash_96 rfl (lv_at hl 0 rfl) ?_
                refine lv_iadd hx hb d_K_crash_97 ?_
                refine x_top (show ((nI k) * 32) + (nI i) = nI (32 * k + i) from k_ix) ?_
                refine lv_aload_n hx hb d_K_crash_98 rfl (lv_at hl 1 rfl) ?_
                refine va_get (D := D) (ci := 5) (C := R_K) (T := T_K) (N := 21) hx hb hts in_K hown hK hP 0 k_h0 rfl 2 (by decide) (hts _ gm_402) (fun _ h9 => h9) rfl d_K_crash_99 ?_
                refine lv_iload_n hx hb d_K_crash_102 rfl (lv_at hl 2 rfl) ?_
                refine lv_bipush (v := 32) hx hb d_K_crash_103 (by decide) ?_
                refine lv_imul hx hb d_K_crash_105 ?_
                refine lv_iload_n hx hb d_K_crash_106 rfl (lv_at hl 0 rfl) ?_
                refine lv_iadd hx hb d_K_crash_107 ?_
                refine x_top (show ((nI k) * 32) + (nI i) = nI (32 * k + i) from k_ix) ?_
                refine va_iald (D := D) hx hb hK hP 2 0 k_h2 rfl (k_in64 hk hi) d_K_crash_108 ?_
                refine x_top (k_b_at hk hi) ?_
                refine va_iast (D := D) hx hb hK hP hD hS 1 0 k_h1 rfl (k_in64 hk hi) d_K_crash_109 (fun H locs hP hD hS => ?_)
                obtain ⟨z20, ez20⟩ : ∃ zt_ : x_S, zt_ = x_up z17 (7 + k) i (z17 (9 + k) i) := ⟨_, rfl⟩
                rw [k_cl64 hk hi] at hP hD
                have hP : va_P D vwCl (k_w cI cZ kd z20) H := by rw [ez20]; exact (k_s1 hk hi (z17 (9 + k) i)) ▸ hP
                have hD : va_D A (k_w cI cZ kd z20) := by rw [ez20]; exact (k_s1 hk hi (z17 (9 + k) i)) ▸ hD
                refine lv_aload_n hx hb d_K_crash_110 rfl (lv_at hl 1 rfl) ?_
                refine va_get (D := D) (ci := 5) (C := R_K) (T := T_K) (N := 21) hx hb hts in_K hown hK hP 0 k_h0 rfl 3 (by decide) (hts _ gm_403) (fun _ h9 => h9) rfl d_K_crash_111 ?_
                refine lv_iload_n hx hb d_K_crash_114 rfl (lv_at hl 2 rfl) ?_
                refine lv_bipush (v := 32) hx hb d_K_crash_115 (by decide) ?_
                refine lv_imul hx hb d_K_crash_117 ?_
                refine lv_iload_n hx hb d_K_crash_118 rfl (lv_at hl 0 rfl) ?_
                refine lv_iadd hx hb d_K_crash_119 ?_
                refine x_top (show ((nI k) * 32) + (nI i) = nI (32 * k + i) from k_ix) ?_
                refine lv_iconst (v := 0) hx hb d_K_crash_120 (by decide) ?_
                refine va_zast (D := D) hx hb hK hP hD hS 3 1 k_h3 rfl (k_in64 hk hi) d_K_crash_121 (fun H locs hP hD hS => ?_)
                obtain ⟨z21, ez21⟩ : ∃ zt_ : x_S, zt_ = x_up z20 (11 + k) i 0 := ⟨_, rfl⟩
                rw [k_cl64 hk hi] at hP hD
                have hP : va_P D vwCl (k_w cI cZ kd z21) H := by rw [ez21]; exact (k_s3 hk hi 0) ▸ hP
                have hD : va_D A (k_w cI cZ kd z21) := by rw [ez21]; exact (k_s3 hk hi 0) ▸ hD
                refine lv_iinc (v := nI (i + 1)) (lv' := [(3, .int (nI (i + 1))), (0, .ref (kd 0)), (1, .int (nI k)), (2, .int keep)]) hx hb d_K_crash_122 hl (k := 0) rfl (nI_1 _) (by decide) rfl (fun ls hl => ?_)
                refine lv_goto (tgt := 22) hx hb d_K_crash_125 (by decide) ?_
                exact ih (i + 1) z21 H locs ls (by omega) (by subst er9 ez10 er16 ez17 ez20 ez21; rw [hI]; simp only [k_crL, k_crB, k_cr2, if_neg c7, if_neg c8, if_neg c11, if_pos c18]) hP hD hS (lv_sub hl [0, 1, 2, 3] rfl)
    intro H locs ls hP hD hS hl
    exact lp 32 0 z H locs ls rfl hG hP hD hS hl
  refine lv_aload_n hx hb d_K_crash_0 rfl (lv_at hl 0 rfl) ?_
  refine lv_iload_n hx hb d_K_crash_1 rfl (lv_at hl 1 rfl) ?_
  refine lv_iconst (v := 2) hx hb d_K_crash_2 (by decide) ?_
  refine x_V (rest := []) ⟨hx, hb, hml, hown, hts⟩ (c_K_out_ok l D cI cZ kd z a 2) gm_469 gm_471 gm_15 gm_34 gm_472 ⟨rfl, rfl⟩ hd_K_out ⟨Nat.le_of_ble_eq_true rfl, Nat.le_of_ble_eq_true rfl⟩ hK hP hD hS hA (va_recv hK hP (ci := 5) (q0 := 0) rfl k_h0) rfl hl.1 rfl (Nat.le_of_ble_eq_true rfl) d_K_crash_3 ⟨Nat.le_of_ble_eq_true rfl, Nat.le_of_ble_eq_true rfl⟩ (fun H locs hP hD hS => ?_)
  refine lv_topi (fun r22 er22 => ?_)
  refine lv_if_ne (tgt := 18) hx hb d_K_crash_6 (by decide) (fun c23 => ?_) (fun c23 => ?_)
  · refine lv_iconst (v := (-1)) hx hb d_K_crash_18 (by decide) ?_
    exact x_ri (w := k_w cI cZ kd) (by subst er22; first | (simp only [k_crash, if_neg c23]; done) | (with_reducible rfl) | (simp only [k_crash, if_neg c23]; with_reducible rfl)) hx hb hr hlk hP hD hS d_K_crash_19
  · obtain ⟨k, hk, ek⟩ := k_out2 (v := a) (by rw [← er22]; exact c23)
    subst ek
    refine lv_aload_n hx hb d_K_crash_9 rfl (lv_at hl 0 rfl) ?_
    refine va_get (D := D) (ci := 5) (C := R_K) (T := T_K) (N := 21) hx hb hts in_K hown hK hP 0 k_h0 rfl 4 (by decide) (hts _ gm_404) (fun _ h9 => h9) rfl d_K_crash_10 ?_
    refine lv_iload_n hx hb d_K_crash_13 rfl (lv_at hl 1 rfl) ?_
    refine va_zald (D := D) hx hb hK hP 4 1 k_h4 rfl (x_in2 hk) d_K_crash_14 ?_
    refine x_top (k_col_at hk) ?_
    refine lv_if_eq (tgt := 20) hx hb d_K_crash_15 (by decide) (fun c24 => ?_) (fun c24 => ?_)
    · refine lv_iconst (v := 0) hx hb d_K_crash_20 (by decide) ?_
      refine lv_istore_n (lv' := [(3, .int 0), (0, .ref (kd 0)), (1, .int (nI k)), (2, .int keep)]) hx hb d_K_crash_21 rfl hl (by decide) rfl (fun ls hl => ?_)
      exact lpo k hk rfl (by subst er22; simp only [k_crash, if_pos c23, if_pos c24, x_cl hk]) _ _ ls hP hD hS (lv_sub hl [0, 1, 2, 3] rfl)
    · refine lv_iconst (v := (-1)) hx hb d_K_crash_18 (by decide) ?_
      exact x_ri (w := k_w cI cZ kd) (by subst er22; first | (simp only [k_crash, if_pos c23, if_neg c24, x_cl hk]; done) | (with_reducible rfl) | (simp only [k_crash, if_pos c23, if_neg c24, x_cl hk]; with_reducible rfl)) hx hb hr hlk hP hD hS d_K_crash_19
set_option maxHeartbeats 4000000 in
set_option maxRecDepth 100000 in
theorem c_K_restart_ok (l : Launch) (D : va_G) (cI cZ : ClassId) (kd : Nat → Nat) (z : x_S) (a : Int32) : x_C l y_K_restart c_K_restart 2 (some .int) { frames := 1, cells := 0, slots := 0, locals := 22 } D (k_ty cI cZ) (k_w cI cZ kd z) [.ref (kd 0), .int a] (some (.int (k_restart z a).1)) (k_w cI cZ kd (k_restart z a).2) := by
  refine x_C.of (by decide) (Nat.le_of_ble_eq_true rfl) ?_
  intro p e s m below meth c hx hb hr hml hts hown hlk A hA hK hS hP hD ls hl
  have hown : s.vm.findClass R_K = some m.cls := hown
  have hl : lv_has ls 2 [(0, .ref (kd 0)), (1, .int a)] := hl
  refine lv_aload_n hx hb d_K_restart_0 rfl (lv_at hl 0 rfl) ?_
  refine lv_iload_n hx hb d_K_restart_1 rfl (lv_at hl 1 rfl) ?_
  refine lv_iconst (v := 2) hx hb d_K_restart_2 (by decide) ?_
  refine x_V (rest := []) ⟨hx, hb, hml, hown, hts⟩ (c_K_out_ok l D cI cZ kd z a 2) gm_469 gm_471 gm_15 gm_34 gm_472 ⟨rfl, rfl⟩ hd_K_out ⟨Nat.le_of_ble_eq_true rfl, Nat.le_of_ble_eq_true rfl⟩ hK hP hD hS hA (va_recv hK hP (ci := 5) (q0 := 0) rfl k_h0) rfl hl.1 rfl (Nat.le_of_ble_eq_true rfl) d_K_restart_3 ⟨Nat.le_of_ble_eq_true rfl, Nat.le_of_ble_eq_true rfl⟩ (fun H locs hP hD hS => ?_)
  refine lv_topi (fun r1 er1 => ?_)
  refine lv_if_ne (tgt := 18) hx hb d_K_restart_6 (by decide) (fun c2 => ?_) (fun c2 => ?_)
  · refine lv_iconst (v := (-1)) hx hb d_K_restart_18 (by decide) ?_
    exact x_ri (w := k_w cI cZ kd) (by subst er1; first | (simp only [k_restart, if_neg c2]; done) | (with_reducible rfl) | (simp only [k_restart, if_neg c2]; with_reducible rfl)) hx hb hr hlk hP hD hS d_K_restart_19
  · obtain ⟨k, hk, ek⟩ := k_out2 (v := a) (by rw [← er1]; exact c2)
    subst ek
    refine lv_aload_n hx hb d_K_restart_9 rfl (lv_at hl 0 rfl) ?_
    refine va_get (D := D) (ci := 5) (C := R_K) (T := T_K) (N := 21) hx hb hts in_K hown hK hP 0 k_h0 rfl 4 (by decide) (hts _ gm_404) (fun _ h9 => h9) rfl d_K_restart_10 ?_
    refine lv_iload_n hx hb d_K_restart_13 rfl (lv_at hl 1 rfl) ?_
    refine va_zald (D := D) hx hb hK hP 4 1 k_h4 rfl (x_in2 hk) d_K_restart_14 ?_
    refine x_top (k_col_at hk) ?_
    refine lv_if_ne (tgt := 20) hx hb d_K_restart_15 (by decide) (fun c3 => ?_) (fun c3 => ?_)
    · refine lv_aload_n hx hb d_K_restart_20 rfl (lv_at hl 0 rfl) ?_
      refine va_get (D := D) (ci := 5) (C := R_K) (T := T_K) (N := 21) hx hb hts in_K hown hK hP 0 k_h0 rfl 4 (by decide) (hts _ gm_404) (fun _ h9 => h9) rfl d_K_restart_21 ?_
      refine lv_iload_n hx hb d_K_restart_24 rfl (lv_at hl 1 rfl) ?_
      refine lv_iconst (v := 0) hx hb d_K_restart_25 (by decide) ?_
      refine va_zast (D := D) hx hb hK hP hD hS 4 1 k_h4 rfl (x_in2 (k := k) hk) d_K_restart_26 (fun H locs hP hD hS => ?_)
      obtain ⟨z4, ez4⟩ : ∃ zt_ : x_S, zt_ = x_up z (5 + k) 0 0 := ⟨_, rfl⟩
      rw [x_cl (k := k) hk] at hP hD
      have hP : va_P D vwCl (k_w cI cZ kd z4) H := by rw [ez4]; exact (k_s4 (k := k) hk 0) ▸ hP
      have hD : va_D A (k_w cI cZ kd z4) := by rw [ez4]; exact (k_s4 (k := k) hk 0) ▸ hD
      refine lv_iconst (v := 0) hx hb d_K_restart_27 (by decide) ?_
      exact x_ri (w := k_w cI cZ kd) (by subst er1 ez4; first | (simp only [k_restart, if_pos c2, if_neg c3, x_cl hk]; done) | (with_reducible rfl) | (simp only [k_restart, if_pos c2, if_neg c3, x_cl hk]; with_reducible rfl)) hx hb hr hlk hP hD hS d_K_restart_28
    · refine lv_iconst (v := (-1)) hx hb d_K_restart_18 (by decide) ?_
      exact x_ri (w := k_w cI cZ kd) (by subst er1; first | (simp only [k_restart, if_pos c2, if_pos c3, x_cl hk]; done) | (with_reducible rfl) | (simp only [k_restart, if_pos c2, if_pos c3, x_cl hk]; with_reducible rfl)) hx hb hr hlk hP hD hS d_K_restart_19
end
section
-- ===== 24.k2b: the reference: public calls
set_option maxHeartbeats 4000000 in
set_option maxRecDepth 100000 in
theorem c_K_swap_ok (l : Launch) (D : va_G) (cI cZ : ClassId) (kd : Nat → Nat) (z : x_S) (a : Int32) : x_C l y_K_swap c_K_swap 3 (some .int) { frames := 1, cells := 0, slots := 0, locals := 22 } D (k_ty cI cZ) (k_w cI cZ kd z) [.ref (kd 0), .int a] (some (.int (k_swap z a).1)) (k_w cI cZ kd (k_swap z a).2) := by
  refine x_C.of (by decide) (Nat.le_of_ble_eq_true rfl) ?_
  intro p e s m below meth c hx hb hr hml hts hown hlk A hA hK hS hP hD ls hl
  have hown : s.vm.findClass R_K = some m.cls := hown
  have hl : lv_has ls 3 [(0, .ref (kd 0)), (1, .int a)] := hl
  have lpo : ∀ (k : Nat) (hk : k < 2), a = nI k → k_swap z a = (0, k_swT (k_swL k 32 0 z) k) → ∀ (H : Heap) (locs : List Loc) (ls : Array Slot), va_P D vwCl (k_w cI cZ kd z) H → va_D A (k_w cI cZ kd z) → va_S A s.heap H locs → lv_has ls 3 [(2, .int (nI 0)), (0, .ref (kd 0)), (1, .int (nI k))] → W p l e { frames := 1, cells := 0, slots := 0, locals := 22 } s m [.ref (kd 0), .int a].toArray below meth c H locs 0 0 (MQ below (x_Q (some (.int (k_swap z a).1)) D (k_w cI cZ kd (k_swap z a).2) A) [.ref (kd 0), .int a].toArray s 0 0 A) (F0 m 22 ls []) := by
    intro k hk ek hG
    have lp : ∀ (n i : Nat) (y : x_S) (H : Heap) (locs : List Loc) (ls : Array Slot), i + n = 32 → k_swap z a = (0, k_swT (k_swL k n i y) k) → va_P D vwCl (k_w cI cZ kd y) H → va_D A (k_w cI cZ kd y) → va_S A s.heap H locs → lv_has ls 3 [(2, .int (nI i)), (0, .ref (kd 0)), (1, .int (nI k))] → W p l e { frames := 1, cells := 0, slots := 0, locals := 22 } s m [.ref (kd 0), .int a].toArray below meth c H locs 0 0 (MQ below (x_Q (some (.int (k_swap z a).1)) D (k_w cI cZ kd (k_swap z a).2) A) [.ref (kd 0), .int a].toArray s 0 0 A) (F0 m 22 ls []) := by
      intro n
      induction n with
      | zero =>
        intro i y  H locs ls hn hI hP hD hS hl
        refine lv_iload_n hx hb d_K_swap_22 rfl (lv_at hl 0 rfl) ?_
        refine lv_bipush (v := 32) hx hb d_K_swap_23 (by decide) ?_
        refine lv_icmp_ge (tgt := 58) hx hb d_K_swap_25 (by decide) (fun c1 => ?_) (fun c1 => ?_)
        · refine lv_aload_n hx hb d_K_swap_58 rfl (lv_at hl 1 rfl) ?_
          refine va_get (D := D) (ci := 5) (C := R_K) (T := T_K) (N := 21) hx hb hts in_K hown hK hP 0 k_h0 rfl 7 (by decide) (hts _ gm_407) (fun _ h9 => h9) rfl d_K_swap_59 ?_
          refine lv_iload_n hx hb d_K_swap_62 rfl (lv_at hl 2 rfl) ?_
          refine lv_iconst (v := 0) hx hb d_K_swap_63 (by decide) ?_
          refine va_iast (D := D) hx hb hK hP hD hS 7 0 k_h7 rfl (x_in2 (k := k) hk) d_K_swap_64 (fun H locs hP hD hS => ?_)
          obtain ⟨z2, ez2⟩ : ∃ zt_ : x_S, zt_ = x_up y (5 + k) 2 0 := ⟨_, rfl⟩
          rw [x_cl (k := k) hk] at hP hD
          have hP : va_P D vwCl (k_w cI cZ kd z2) H := by rw [ez2]; exact (k_s7 (k := k) hk 0) ▸ hP
          have hD : va_D A (k_w cI cZ kd z2) := by rw [ez2]; exact (k_s7 (k := k) hk 0) ▸ hD
          refine lv_aload_n hx hb d_K_swap_65 rfl (lv_at hl 1 rfl) ?_
          refine va_get (D := D) (ci := 5) (C := R_K) (T := T_K) (N := 21) hx hb hts in_K hown hK hP 0 k_h0 rfl 8 (by decide) (hts _ gm_408) (fun _ h9 => h9) rfl d_K_swap_66 ?_
          refine lv_iload_n hx hb d_K_swap_69 rfl (lv_at hl 2 rfl) ?_
          refine lv_iconst (v := 0) hx hb d_K_swap_70 (by decide) ?_
          refine va_iast (D := D) hx hb hK hP hD hS 8 0 k_h8 rfl (x_in2 (k := k) hk) d_K_swap_71 (fun H locs hP hD hS => ?_)
          obtain ⟨z3, ez3⟩ : ∃ zt_ : x_S, zt_ = x_up z2 (5 + k) 3 0 := ⟨_, rfl⟩
          rw [x_cl (k := k) hk] at hP hD
          have hP : va_P D vwCl (k_w cI cZ kd z3) H := by rw [ez3]; exact (k_s8 (k := k) hk 0) ▸ hP
          have hD : va_D A (k_w cI cZ kd z3) := by rw [ez3]; exact (k_s8 (k := k) hk 0) ▸ hD
          refine lv_aload_n hx hb d_K_swap_72 rfl (lv_at hl 1 rfl) ?_
          refine va_get (D := D) (ci := 5) (C := R_K) (T := T_K) (N := 21) hx hb hts in_K hown hK hP 0 k_h0 rfl 5 (by decide) (hts _ gm_405) (fun _ h9 => h9) rfl d_K_swap_73 ?_
          refine lv_iload_n hx hb d_K_swap_76 rfl (lv_at hl 2 rfl) ?_
          refine lv_iconst (v := 0) hx hb d_K_swap_77 (by decide) ?_
          refine va_zast (D := D) hx hb hK hP hD hS 5 1 k_h5 rfl (x_in2 (k := k) hk) d_K_swap_78 (fun H locs hP hD hS => ?_)
          obtain ⟨z4, ez4⟩ : ∃ zt_ : x_S, zt_ = x_up z3 (5 + k) 4 0 := ⟨_, rfl⟩
          rw [x_cl (k := k) hk] at hP hD
          have hP : va_P D vwCl (k_w cI cZ kd z4) H := by rw [ez4]; exact (k_s5 (k := k) hk 0) ▸ hP
          have hD : va_D A (k_w cI cZ kd z4) := by rw [ez4]; exact (k_s5 (k := k) hk 0) ▸ hD
          refine lv_aload_n hx hb d_K_swap_79 rfl (lv_at hl 1 rfl) ?_
          refine va_get (D := D) (ci := 5) (C := R_K) (T := T_K) (N := 21) hx hb hts in_K hown hK hP 0 k_h0 rfl 9 (by decide) (hts _ gm_409) (fun _ h9 => h9) rfl d_K_swap_80 ?_
          refine lv_iload_n hx hb d_K_swap_83 rfl (lv_at hl 2 rfl) ?_
          refine lv_iconst (v := 0) hx hb d_K_swap_84 (by decide) ?_
          refine va_iast (D := D) hx hb hK hP hD hS 9 0 k_h9 rfl (x_in2 (k := k) hk) d_K_swap_85 (fun H locs hP hD hS => ?_)
          obtain ⟨z5, ez5⟩ : ∃ zt_ : x_S, zt_ = x_up z4 (5 + k) 5 0 := ⟨_, rfl⟩
          rw [x_cl (k := k) hk] at hP hD
          have hP : va_P D vwCl (k_w cI cZ kd z5) H := by rw [ez5]; exact (k_s9 (k := k) hk 0) ▸ hP
          have hD : va_D A (k_w cI cZ kd z5) := by rw [ez5]; exact (k_s9 (k := k) hk 0) ▸ hD
          refine lv_iconst (v := 0) hx hb d_K_swap_86 (by decide) ?_
          exact x_ri (w := k_w cI cZ kd) (by subst ez2 ez3 ez4 ez5; rw [hI]; simp only [k_swL]; simp only [k_swT]) hx hb hr hlk hP hD hS d_K_swap_87
        · exact absurd (show (32 : Int32) ≤ nI i from nI_le (a := 32) (by omega) (by omega)) c1
      | succ n ih =>
        intro i y  H locs ls hn hI hP hD hS hl
        have hi : i < 32 := by omega
        refine lv_iload_n hx hb d_K_swap_22 rfl (lv_at hl 0 rfl) ?_
        refine lv_bipush (v := 32) hx hb d_K_swap_23 (by decide) ?_
        refine lv_icmp_ge (tgt := 58) hx hb d_K_swap_25 (by decide) (fun c6 => ?_) (fun c6 => ?_)
        · exact absurd c6 (show ¬ (32 : Int32) ≤ nI i from nI_ge (b := 32) (by omega) (by decide))
        · refine lv_aload_n hx hb d_K_swap_28 rfl (lv_at hl 1 rfl) ?_
          refine va_get (D := D) (ci := 5) (C := R_K) (T := T_K) (N := 21) hx hb hts in_K hown hK hP 0 k_h0 rfl 1 (by decide) (hts _ gm_401) (fun _ h9 => h9) rfl d_K_swap_29 ?_
          refine lv_iload_n hx hb d_K_swap_32 rfl (lv_at hl 2 rfl) ?_
          refine lv_bipush (v := 32) hx hb d_K_swap_33 (by decide) ?_
          refine lv_imul hx hb d_K_swap_35 ?_
          refine lv_iload_n hx hb d_K_swap_36 rfl (lv_at hl 0 rfl) ?_
          refine lv_iadd hx hb d_K_swap_37 ?_
          refine x_top (show ((nI k) * 32) + (nI i) = nI (32 * k + i) from k_ix) ?_
          refine lv_iconst (v := 0) hx hb d_K_swap_38 (by decide) ?_
          refine va_iast (D := D) hx hb hK hP hD hS 1 0 k_h1 rfl (k_in64 hk hi) d_K_swap_39 (fun H locs hP hD hS => ?_)
          obtain ⟨z7, ez7⟩ : ∃ zt_ : x_S, zt_ = x_up y (7 + k) i 0 := ⟨_, rfl⟩
          rw [k_cl64 hk hi] at hP hD
          have hP : va_P D vwCl (k_w cI cZ kd z7) H := by rw [ez7]; exact (k_s1 hk hi 0) ▸ hP
          have hD : va_D A (k_w cI cZ kd z7) := by rw [ez7]; exact (k_s1 hk hi 0) ▸ hD
          refine lv_aload_n hx hb d_K_swap_40 rfl (lv_at hl 1 rfl) ?_
          refine va_get (D := D) (ci := 5) (C := R_K) (T := T_K) (N := 21) hx hb hts in_K hown hK hP 0 k_h0 rfl 3 (by decide) (hts _ gm_403) (fun _ h9 => h9) rfl d_K_swap_41 ?_
          refine lv_iload_n hx hb d_K_swap_44 rfl (lv_at hl 2 rfl) ?_
          refine lv_bipush (v := 32) hx hb d_K_swap_45 (by decide) ?_
          refine lv_imul hx hb d_K_swap_47 ?_
          refine lv_iload_n hx hb d_K_swap_48 rfl (lv_at hl 0 rfl) ?_
          refine lv_iadd hx hb d_K_swap_49 ?_
          refine x_top (show ((nI k) * 32) + (nI i) = nI (32 * k + i) from k_ix) ?_
          refine lv_iconst (v := 0) hx hb d_K_swap_50 (by decide) ?_
          refine va_zast (D := D) hx hb hK hP hD hS 3 1 k_h3 rfl (k_in64 hk hi) d_K_swap_51 (fun H locs hP hD hS => ?_)
          obtain ⟨z8, ez8⟩ : ∃ zt_ : x_S, zt_ = x_up z7 (11 + k) i 0 := ⟨_, rfl⟩
          rw [k_cl64 hk hi] at hP hD
          have hP : va_P D vwCl (k_w cI cZ kd z8) H := by rw [ez8]; exact (k_s3 hk hi 0) ▸ hP
          have hD : va_D A (k_w cI cZ kd z8) := by rw [ez8]; exact (k_s3 hk hi 0) ▸ hD
          refine lv_iinc (v := nI (i + 1)) (lv' := [(2, .int (nI (i + 1))), (0, .ref (kd 0)), (1, .int (nI k))]) hx hb d_K_swap_52 hl (k := 0) rfl (nI_1 _) (by decide) rfl (fun ls hl => ?_)
          refine lv_goto (tgt := 22) hx hb d_K_swap_55 (by decide) ?_
          exact ih (i + 1) z8 H locs ls (by omega) (by subst ez7 ez8; rw [hI]; rfl) hP hD hS (lv_sub hl [0, 1, 2] rfl)
    intro H locs ls hP hD hS hl
    exact lp 32 0 z H locs ls rfl hG hP hD hS hl
  refine lv_aload_n hx hb d_K_swap_0 rfl (lv_at hl 0 rfl) ?_
  refine lv_iload_n hx hb d_K_swap_1 rfl (lv_at hl 1 rfl) ?_
  refine lv_iconst (v := 2) hx hb d_K_swap_2 (by decide) ?_
  refine x_V (rest := []) ⟨hx, hb, hml, hown, hts⟩ (c_K_out_ok l D cI cZ kd z a 2) gm_469 gm_471 gm_15 gm_34 gm_472 ⟨rfl, rfl⟩ hd_K_out ⟨Nat.le_of_ble_eq_true rfl, Nat.le_of_ble_eq_true rfl⟩ hK hP hD hS hA (va_recv hK hP (ci := 5) (q0 := 0) rfl k_h0) rfl hl.1 rfl (Nat.le_of_ble_eq_true rfl) d_K_swap_3 ⟨Nat.le_of_ble_eq_true rfl, Nat.le_of_ble_eq_true rfl⟩ (fun H locs hP hD hS => ?_)
  refine lv_topi (fun r9 er9 => ?_)
  refine lv_if_ne (tgt := 18) hx hb d_K_swap_6 (by decide) (fun c10 => ?_) (fun c10 => ?_)
  · refine lv_iconst (v := (-1)) hx hb d_K_swap_18 (by decide) ?_
    exact x_ri (w := k_w cI cZ kd) (by subst er9; first | (simp only [k_swap, if_neg c10]; done) | (with_reducible rfl) | (simp only [k_swap, if_neg c10]; with_reducible rfl)) hx hb hr hlk hP hD hS d_K_swap_19
  · obtain ⟨k, hk, ek⟩ := k_out2 (v := a) (by rw [← er9]; exact c10)
    subst ek
    refine lv_aload_n hx hb d_K_swap_9 rfl (lv_at hl 0 rfl) ?_
    refine va_get (D := D) (ci := 5) (C := R_K) (T := T_K) (N := 21) hx hb hts in_K hown hK hP 0 k_h0 rfl 4 (by decide) (hts _ gm_404) (fun _ h9 => h9) rfl d_K_swap_10 ?_
    refine lv_iload_n hx hb d_K_swap_13 rfl (lv_at hl 1 rfl) ?_
    refine va_zald (D := D) hx hb hK hP 4 1 k_h4 rfl (x_in2 hk) d_K_swap_14 ?_
    refine x_top (k_col_at hk) ?_
    refine lv_if_ne (tgt := 20) hx hb d_K_swap_15 (by decide) (fun c11 => ?_) (fun c11 => ?_)
    · refine lv_iconst (v := 0) hx hb d_K_swap_20 (by decide) ?_
      refine lv_istore_n (lv' := [(2, .int 0), (0, .ref (kd 0)), (1, .int (nI k))]) hx hb d_K_swap_21 rfl hl (by decide) rfl (fun ls hl => ?_)
      exact lpo k hk rfl (by subst er9; simp only [k_swap, if_pos c10, if_neg c11, x_cl hk]) _ _ ls hP hD hS (lv_sub hl [0, 1, 2] rfl)
    · refine lv_iconst (v := (-1)) hx hb d_K_swap_18 (by decide) ?_
      exact x_ri (w := k_w cI cZ kd) (by subst er9; first | (simp only [k_swap, if_pos c10, if_pos c11, x_cl hk]; done) | (with_reducible rfl) | (simp only [k_swap, if_pos c10, if_pos c11, x_cl hk]; with_reducible rfl)) hx hb hr hlk hP hD hS d_K_swap_19
set_option maxHeartbeats 4000000 in
set_option maxRecDepth 100000 in
theorem c_K_line_ok (l : Launch) (D : va_G) (cI cZ : ClassId) (kd : Nat → Nat) (z : x_S) (u : Int32) (hu : u = 0 ∨ u = 1) : x_C l y_K_line c_K_line 2 (some .int) { frames := 1, cells := 0, slots := 0, locals := 20 } D (k_ty cI cZ) (k_w cI cZ kd z) [.ref (kd 0), .int u] (some (.int (k_line z u).1)) (k_w cI cZ kd (k_line z u).2) := by
  refine x_C.of (by decide) (Nat.le_of_ble_eq_true rfl) ?_
  intro p e s m below meth c hx hb hr hml hts hown hlk A hA hK hS hP hD ls hl
  have hown : s.vm.findClass R_K = some m.cls := hown
  have hl : lv_has ls 2 [(0, .ref (kd 0)), (1, .int u)] := hl
  refine lv_aload_n hx hb d_K_line_0 rfl (lv_at hl 0 rfl) ?_
  refine lv_iload_n hx hb d_K_line_1 rfl (lv_at hl 1 rfl) ?_
  refine va_put (D := D) (ci := 5) (v := .int u) (ty := .boolean) (C := R_K) (T := T_K) (N := 21) hx hb hts in_K fy_K fy_K_ok n_K hown hK hP hD hS 0 k_h0 rfl 14 (by decide) (hts _ gm_414) (fun _ h9 => h9) rfl (by decide +kernel) (x_nb hu) (x_fb hu) (Nat.le_of_ble_eq_true rfl) d_K_line_2 (fun H locs hP hD hS => ?_)
  obtain ⟨z1, ez1⟩ : ∃ zt_ : x_S, zt_ = x_up z 0 0 u := ⟨_, rfl⟩
  have hP : va_P D vwCl (k_w cI cZ kd z1) H := by rw [ez1]; exact (k_s0_14 u) ▸ hP
  have hD : va_D A (k_w cI cZ kd z1) := by rw [ez1]; exact (k_s0_14 u) ▸ hD
  refine lv_iload_n hx hb d_K_line_5 rfl (lv_at hl 1 rfl) ?_
  refine lv_if_ne (tgt := 13) hx hb d_K_line_6 (by decide) (fun c2 => ?_) (fun c2 => ?_)
  · refine lv_iconst (v := 0) hx hb d_K_line_13 (by decide) ?_
    exact x_ri (w := k_w cI cZ kd) (by subst ez1; first | (simp only [k_line, if_neg c2]; done) | (with_reducible rfl) | (simp only [k_line, if_neg c2]; with_reducible rfl)) hx hb hr hlk hP hD hS d_K_line_14
  · refine lv_aload_n hx hb d_K_line_9 rfl (lv_at hl 0 rfl) ?_
    refine x_V (rest := []) ⟨hx, hb, hml, hown, hts⟩ (c_K_disconnect_ok l D cI cZ kd z1) gm_517 gm_519 gm_25 gm_34 gm_520 ⟨rfl, rfl⟩ hd_K_disconnect ⟨Nat.le_of_ble_eq_true rfl, Nat.le_of_ble_eq_true rfl⟩ hK hP hD hS hA (va_recv hK hP (ci := 5) (q0 := 0) rfl k_h0) rfl hl.1 rfl (Nat.le_of_ble_eq_true rfl) d_K_line_10 ⟨Nat.le_of_ble_eq_true rfl, Nat.le_of_ble_eq_true rfl⟩ (fun H locs hP hD hS => ?_)
    obtain ⟨z3, ez3⟩ : ∃ zt_ : x_S, zt_ = k_disc z1 := ⟨_, rfl⟩
    rw [← ez3] at hP hD
    refine lv_iconst (v := 0) hx hb d_K_line_13 (by decide) ?_
    exact x_ri (w := k_w cI cZ kd) (by subst ez1 ez3; first | (simp only [k_line, if_pos c2]; done) | (with_reducible rfl) | (simp only [k_line, if_pos c2]; with_reducible rfl)) hx hb hr hlk hP hD hS d_K_line_14
set_option maxHeartbeats 4000000 in
set_option maxRecDepth 100000 in
theorem c_K_witnessLine_ok (l : Launch) (D : va_G) (cI cZ : ClassId) (kd : Nat → Nat) (z : x_S) (a u : Int32) : x_C l y_K_witnessLine c_K_witnessLine 3 (some .int) { frames := 1, cells := 0, slots := 0, locals := 22 } D (k_ty cI cZ) (k_w cI cZ kd z) [.ref (kd 0), .int a, .int u] (some (.int (k_wline z a u).1)) (k_w cI cZ kd (k_wline z a u).2) := by
  refine x_C.of (by decide) (Nat.le_of_ble_eq_true rfl) ?_
  intro p e s m below meth c hx hb hr hml hts hown hlk A hA hK hS hP hD ls hl
  have hown : s.vm.findClass R_K = some m.cls := hown
  have hl : lv_has ls 3 [(0, .ref (kd 0)), (1, .int a), (2, .int u)] := hl
  refine lv_aload_n hx hb d_K_witnessLine_0 rfl (lv_at hl 0 rfl) ?_
  refine lv_iload_n hx hb d_K_witnessLine_1 rfl (lv_at hl 1 rfl) ?_
  refine lv_iconst (v := 2) hx hb d_K_witnessLine_2 (by decide) ?_
  refine x_V (rest := []) ⟨hx, hb, hml, hown, hts⟩ (c_K_out_ok l D cI cZ kd z a 2) gm_469 gm_471 gm_15 gm_34 gm_472 ⟨rfl, rfl⟩ hd_K_out ⟨Nat.le_of_ble_eq_true rfl, Nat.le_of_ble_eq_true rfl⟩ hK hP hD hS hA (va_recv hK hP (ci := 5) (q0 := 0) rfl k_h0) rfl hl.1 rfl (Nat.le_of_ble_eq_true rfl) d_K_witnessLine_3 ⟨Nat.le_of_ble_eq_true rfl, Nat.le_of_ble_eq_true rfl⟩ (fun H locs hP hD hS => ?_)
  refine lv_topi (fun r1 er1 => ?_)
  refine lv_if_eq (tgt := 11) hx hb d_K_witnessLine_6 (by decide) (fun c2 => ?_) (fun c2 => ?_)
  · obtain ⟨k, hk, ek⟩ := k_out2 (v := a) (by rw [← er1]; exact c2)
    subst ek
    refine lv_aload_n hx hb d_K_witnessLine_11 rfl (lv_at hl 0 rfl) ?_
    refine va_get (D := D) (ci := 5) (C := R_K) (T := T_K) (N := 21) hx hb hts in_K hown hK hP 0 k_h0 rfl 6 (by decide) (hts _ gm_406) (fun _ h9 => h9) rfl d_K_witnessLine_12 ?_
    refine lv_iload_n hx hb d_K_witnessLine_15 rfl (lv_at hl 1 rfl) ?_
    refine lv_iload_n hx hb d_K_witnessLine_16 rfl (lv_at hl 2 rfl) ?_
    refine lv_if_ne (tgt := 24) hx hb d_K_witnessLine_17 (by decide) (fun c3 => ?_) (fun c3 => ?_)
    · refine lv_iconst (v := 0) hx hb d_K_witnessLine_24 (by decide) ?_
      refine va_zast (D := D) hx hb hK hP hD hS 6 1 k_h6 rfl (x_in2 (k := k) hk) d_K_witnessLine_25 (fun H locs hP hD hS => ?_)
      obtain ⟨z4, ez4⟩ : ∃ zt_ : x_S, zt_ = x_up z (5 + k) 6 0 := ⟨_, rfl⟩
      rw [x_cl (k := k) hk] at hP hD
      have hP : va_P D vwCl (k_w cI cZ kd z4) H := by rw [ez4]; exact (k_s6 (k := k) hk 0) ▸ hP
      have hD : va_D A (k_w cI cZ kd z4) := by rw [ez4]; exact (k_s6 (k := k) hk 0) ▸ hD
      refine lv_iconst (v := 0) hx hb d_K_witnessLine_26 (by decide) ?_
      exact x_ri (w := k_w cI cZ kd) (by subst er1 ez4; first | (simp only [k_wline, if_pos c2, if_neg c3, x_cl hk]; done) | (with_reducible rfl) | (simp only [k_wline, if_pos c2, if_neg c3, x_cl hk]; with_reducible rfl)) hx hb hr hlk hP hD hS d_K_witnessLine_27
    · refine lv_iconst (v := 1) hx hb d_K_witnessLine_20 (by decide) ?_
      refine lv_goto (tgt := 25) hx hb d_K_witnessLine_21 (by decide) ?_
      refine va_zast (D := D) hx hb hK hP hD hS 6 1 k_h6 rfl (x_in2 (k := k) hk) d_K_witnessLine_25 (fun H locs hP hD hS => ?_)
      obtain ⟨z5, ez5⟩ : ∃ zt_ : x_S, zt_ = x_up z (5 + k) 6 1 := ⟨_, rfl⟩
      rw [x_cl (k := k) hk] at hP hD
      have hP : va_P D vwCl (k_w cI cZ kd z5) H := by rw [ez5]; exact (k_s6 (k := k) hk 1) ▸ hP
      have hD : va_D A (k_w cI cZ kd z5) := by rw [ez5]; exact (k_s6 (k := k) hk 1) ▸ hD
      refine lv_iconst (v := 0) hx hb d_K_witnessLine_26 (by decide) ?_
      exact x_ri (w := k_w cI cZ kd) (by subst er1 ez5; first | (simp only [k_wline, if_pos c2, if_pos c3, x_cl hk]; done) | (with_reducible rfl) | (simp only [k_wline, if_pos c2, if_pos c3, x_cl hk]; with_reducible rfl)) hx hb hr hlk hP hD hS d_K_witnessLine_27
  · refine lv_iconst (v := (-1)) hx hb d_K_witnessLine_9 (by decide) ?_
    exact x_ri (w := k_w cI cZ kd) (by subst er1; first | (simp only [k_wline, if_neg c2]; done) | (with_reducible rfl) | (simp only [k_wline, if_neg c2]; with_reducible rfl)) hx hb hr hlk hP hD hS d_K_witnessLine_10
end
section
-- ===== 24.k2c: the reference: public calls
set_option maxHeartbeats 4000000 in
set_option maxRecDepth 100000 in
theorem c_K_finished_ok (l : Launch) (D : va_G) (cI cZ : ClassId) (kd : Nat → Nat) (z : x_S) (s0 : Nat) (hs0 : s0 < 2) : x_C l y_K_finished c_K_finished 3 none { frames := 2, cells := 0, slots := 0, locals := 44 } D (k_ty cI cZ) (k_w cI cZ kd z) [.ref (kd 0), .int (nI s0)] (none) (k_w cI cZ kd (k_fin z s0)) := by
  refine x_C.of (by decide) (Nat.le_of_ble_eq_true rfl) ?_
  intro p e s m below meth c hx hb hr hml hts hown hlk A hA hK hS hP hD ls hl
  have hown : s.vm.findClass R_K = some m.cls := hown
  have hl : lv_has ls 3 [(0, .ref (kd 0)), (1, .int (nI s0))] := hl
  refine lv_aload_n hx hb d_K_finished_0 rfl (lv_at hl 0 rfl) ?_
  refine lv_iconst (v := 0) hx hb d_K_finished_1 (by decide) ?_
  refine x_top (show (0 : Int32) = nI 0 from rfl) ?_
  refine x_V (rest := []) ⟨hx, hb, hml, hown, hts⟩ (c_K_settle_ok l D cI cZ kd z 0 (by decide)) gm_489 gm_491 gm_19 gm_34 gm_492 ⟨rfl, rfl⟩ hd_K_settle ⟨Nat.le_of_ble_eq_true rfl, Nat.le_of_ble_eq_true rfl⟩ hK hP hD hS hA (va_recv hK hP (ci := 5) (q0 := 0) rfl k_h0) rfl hl.1 rfl (Nat.le_of_ble_eq_true rfl) d_K_finished_2 ⟨Nat.le_of_ble_eq_true rfl, Nat.le_of_ble_eq_true rfl⟩ (fun H locs hP hD hS => ?_)
  obtain ⟨z1, ez1⟩ : ∃ zt_ : x_S, zt_ = k_settle z 0 := ⟨_, rfl⟩
  rw [← ez1] at hP hD
  refine lv_aload_n hx hb d_K_finished_5 rfl (lv_at hl 0 rfl) ?_
  refine lv_iconst (v := 1) hx hb d_K_finished_6 (by decide) ?_
  refine x_top (show (1 : Int32) = nI 1 from rfl) ?_
  refine x_V (rest := []) ⟨hx, hb, hml, hown, hts⟩ (c_K_settle_ok l D cI cZ kd z1 1 (by decide)) gm_489 gm_491 gm_19 gm_34 gm_492 ⟨rfl, rfl⟩ hd_K_settle ⟨Nat.le_of_ble_eq_true rfl, Nat.le_of_ble_eq_true rfl⟩ hK hP hD hS hA (va_recv hK hP (ci := 5) (q0 := 0) rfl k_h0) rfl hl.1 rfl (Nat.le_of_ble_eq_true rfl) d_K_finished_7 ⟨Nat.le_of_ble_eq_true rfl, Nat.le_of_ble_eq_true rfl⟩ (fun H locs hP hD hS => ?_)
  obtain ⟨z2, ez2⟩ : ∃ zt_ : x_S, zt_ = k_settle z1 1 := ⟨_, rfl⟩
  rw [← ez2] at hP hD
  refine lv_aload_n hx hb d_K_finished_10 rfl (lv_at hl 0 rfl) ?_
  refine va_get (D := D) (ci := 5) (C := R_K) (T := T_K) (N := 21) hx hb hts in_K hown hK hP 0 k_h0 rfl 7 (by decide) (hts _ gm_407) (fun _ h9 => h9) rfl d_K_finished_11 ?_
  refine lv_iconst (v := 1) hx hb d_K_finished_14 (by decide) ?_
  refine lv_iload_n hx hb d_K_finished_15 rfl (lv_at hl 1 rfl) ?_
  refine lv_isub hx hb d_K_finished_16 ?_
  refine x_top (x_1k hs0) ?_
  refine lv_aload_n hx hb d_K_finished_17 rfl (lv_at hl 0 rfl) ?_
  refine va_get (D := D) (ci := 5) (C := R_K) (T := T_K) (N := 21) hx hb hts in_K hown hK hP 0 k_h0 rfl 7 (by decide) (hts _ gm_407) (fun _ h9 => h9) rfl d_K_finished_18 ?_
  refine lv_iload_n hx hb d_K_finished_21 rfl (lv_at hl 1 rfl) ?_
  refine va_iald (D := D) hx hb hK hP 7 0 k_h7 rfl (x_in2 hs0) d_K_finished_22 ?_
  refine x_top (k_col_at hs0) ?_
  refine va_iast (D := D) hx hb hK hP hD hS 7 0 k_h7 rfl (x_in2 (k := 1 - s0) (x_1lt hs0)) d_K_finished_23 (fun H locs hP hD hS => ?_)
  obtain ⟨z3, ez3⟩ : ∃ zt_ : x_S, zt_ = x_up z2 (5 + (1 - s0)) 2 (z2 (5 + s0) 2) := ⟨_, rfl⟩
  rw [x_cl (k := 1 - s0) (x_1lt hs0)] at hP hD
  have hP : va_P D vwCl (k_w cI cZ kd z3) H := by rw [ez3]; exact (k_s7 (k := 1 - s0) (x_1lt hs0) (z2 (5 + s0) 2)) ▸ hP
  have hD : va_D A (k_w cI cZ kd z3) := by rw [ez3]; exact (k_s7 (k := 1 - s0) (x_1lt hs0) (z2 (5 + s0) 2)) ▸ hD
  refine lv_iconst (v := 0) hx hb d_K_finished_24 (by decide) ?_
  refine lv_istore_n (lv' := [(2, .int 0), (0, .ref (kd 0)), (1, .int (nI s0))]) hx hb d_K_finished_25 rfl hl (by decide) rfl (fun ls hl => ?_)
  refine lv_iload_n hx hb d_K_finished_26 rfl (lv_at hl 0 rfl) ?_
  refine lv_iconst (v := 2) hx hb d_K_finished_27 (by decide) ?_
  refine lv_icmp_ge (tgt := 51) hx hb d_K_finished_28 (by decide) (fun c4 => ?_) (fun c4 => ?_)
  · exact absurd c4 (by decide)
  · refine lv_aload_n hx hb d_K_finished_31 rfl (lv_at hl 1 rfl) ?_
    refine va_get (D := D) (ci := 5) (C := R_K) (T := T_K) (N := 21) hx hb hts in_K hown hK hP 0 k_h0 rfl 5 (by decide) (hts _ gm_405) (fun _ h9 => h9) rfl d_K_finished_32 ?_
    refine lv_iload_n hx hb d_K_finished_35 rfl (lv_at hl 0 rfl) ?_
    refine lv_iconst (v := 0) hx hb d_K_finished_36 (by decide) ?_
    refine va_zast (D := D) (i := nI 0) hx hb hK hP hD hS 5 1 k_h5 rfl (x_in2 (k := 0) (by decide)) d_K_finished_37 (fun H locs hP hD hS => ?_)
    obtain ⟨z5, ez5⟩ : ∃ zt_ : x_S, zt_ = x_up z3 5 4 0 := ⟨_, rfl⟩
    rw [x_cl (k := 0) (by decide)] at hP hD
    have hP : va_P D vwCl (k_w cI cZ kd z5) H := by rw [ez5]; exact (k_s5 (k := 0) (by decide) 0) ▸ hP
    have hD : va_D A (k_w cI cZ kd z5) := by rw [ez5]; exact (k_s5 (k := 0) (by decide) 0) ▸ hD
    refine lv_aload_n hx hb d_K_finished_38 rfl (lv_at hl 1 rfl) ?_
    refine va_get (D := D) (ci := 5) (C := R_K) (T := T_K) (N := 21) hx hb hts in_K hown hK hP 0 k_h0 rfl 9 (by decide) (hts _ gm_409) (fun _ h9 => h9) rfl d_K_finished_39 ?_
    refine lv_iload_n hx hb d_K_finished_42 rfl (lv_at hl 0 rfl) ?_
    refine lv_iconst (v := 0) hx hb d_K_finished_43 (by decide) ?_
    refine va_iast (D := D) (i := nI 0) hx hb hK hP hD hS 9 0 k_h9 rfl (x_in2 (k := 0) (by decide)) d_K_finished_44 (fun H locs hP hD hS => ?_)
    obtain ⟨z6, ez6⟩ : ∃ zt_ : x_S, zt_ = x_up z5 5 5 0 := ⟨_, rfl⟩
    rw [x_cl (k := 0) (by decide)] at hP hD
    have hP : va_P D vwCl (k_w cI cZ kd z6) H := by rw [ez6]; exact (k_s9 (k := 0) (by decide) 0) ▸ hP
    have hD : va_D A (k_w cI cZ kd z6) := by rw [ez6]; exact (k_s9 (k := 0) (by decide) 0) ▸ hD
    refine lv_iinc (v := 1) (lv' := [(2, .int 1), (0, .ref (kd 0)), (1, .int (nI s0))]) hx hb d_K_finished_45 hl (k := 0) rfl rfl (by decide) rfl (fun ls hl => ?_)
    refine lv_goto (tgt := 26) hx hb d_K_finished_48 (by decide) ?_
    refine lv_iload_n hx hb d_K_finished_26 rfl (lv_at hl 0 rfl) ?_
    refine lv_iconst (v := 2) hx hb d_K_finished_27 (by decide) ?_
    refine lv_icmp_ge (tgt := 51) hx hb d_K_finished_28 (by decide) (fun c7 => ?_) (fun c7 => ?_)
    · exact absurd c7 (by decide)
    · refine lv_aload_n hx hb d_K_finished_31 rfl (lv_at hl 1 rfl) ?_
      refine va_get (D := D) (ci := 5) (C := R_K) (T := T_K) (N := 21) hx hb hts in_K hown hK hP 0 k_h0 rfl 5 (by decide) (hts _ gm_405) (fun _ h9 => h9) rfl d_K_finished_32 ?_
      refine lv_iload_n hx hb d_K_finished_35 rfl (lv_at hl 0 rfl) ?_
      refine lv_iconst (v := 0) hx hb d_K_finished_36 (by decide) ?_
      refine va_zast (D := D) (i := nI 1) hx hb hK hP hD hS 5 1 k_h5 rfl (x_in2 (k := 1) (by decide)) d_K_finished_37 (fun H locs hP hD hS => ?_)
      obtain ⟨z8, ez8⟩ : ∃ zt_ : x_S, zt_ = x_up z6 6 4 0 := ⟨_, rfl⟩
      rw [x_cl (k := 1) (by decide)] at hP hD
      have hP : va_P D vwCl (k_w cI cZ kd z8) H := by rw [ez8]; exact (k_s5 (k := 1) (by decide) 0) ▸ hP
      have hD : va_D A (k_w cI cZ kd z8) := by rw [ez8]; exact (k_s5 (k := 1) (by decide) 0) ▸ hD
      refine lv_aload_n hx hb d_K_finished_38 rfl (lv_at hl 1 rfl) ?_
      refine va_get (D := D) (ci := 5) (C := R_K) (T := T_K) (N := 21) hx hb hts in_K hown hK hP 0 k_h0 rfl 9 (by decide) (hts _ gm_409) (fun _ h9 => h9) rfl d_K_finished_39 ?_
      refine lv_iload_n hx hb d_K_finished_42 rfl (lv_at hl 0 rfl) ?_
      refine lv_iconst (v := 0) hx hb d_K_finished_43 (by decide) ?_
      refine va_iast (D := D) (i := nI 1) hx hb hK hP hD hS 9 0 k_h9 rfl (x_in2 (k := 1) (by decide)) d_K_finished_44 (fun H locs hP hD hS => ?_)
      obtain ⟨z9, ez9⟩ : ∃ zt_ : x_S, zt_ = x_up z8 6 5 0 := ⟨_, rfl⟩
      rw [x_cl (k := 1) (by decide)] at hP hD
      have hP : va_P D vwCl (k_w cI cZ kd z9) H := by rw [ez9]; exact (k_s9 (k := 1) (by decide) 0) ▸ hP
      have hD : va_D A (k_w cI cZ kd z9) := by rw [ez9]; exact (k_s9 (k := 1) (by decide) 0) ▸ hD
      refine lv_iinc (v := 2) (lv' := [(2, .int 2), (0, .ref (kd 0)), (1, .int (nI s0))]) hx hb d_K_finished_45 hl (k := 0) rfl rfl (by decide) rfl (fun ls hl => ?_)
      refine lv_goto (tgt := 26) hx hb d_K_finished_48 (by decide) ?_
      refine lv_iload_n hx hb d_K_finished_26 rfl (lv_at hl 0 rfl) ?_
      refine lv_iconst (v := 2) hx hb d_K_finished_27 (by decide) ?_
      refine lv_icmp_ge (tgt := 51) hx hb d_K_finished_28 (by decide) (fun c10 => ?_) (fun c10 => ?_)
      · refine lv_aload_n hx hb d_K_finished_51 rfl (lv_at hl 1 rfl) ?_
        refine lv_iconst (v := 2) hx hb d_K_finished_52 (by decide) ?_
        refine va_put (D := D) (ci := 5) (v := .int 2) (ty := .int) (C := R_K) (T := T_K) (N := 21) hx hb hts in_K fy_K fy_K_ok n_K hown hK hP hD hS 0 k_h0 rfl 11 (by decide) (hts _ gm_411) (fun _ h9 => h9) rfl (by decide +kernel) rfl rfl (Nat.le_of_ble_eq_true rfl) d_K_finished_53 (fun H locs hP hD hS => ?_)
        obtain ⟨z11, ez11⟩ : ∃ zt_ : x_S, zt_ = x_up z9 0 7 2 := ⟨_, rfl⟩
        have hP : va_P D vwCl (k_w cI cZ kd z11) H := by rw [ez11]; exact (k_s0_11 2) ▸ hP
        have hD : va_D A (k_w cI cZ kd z11) := by rw [ez11]; exact (k_s0_11 2) ▸ hD
        exact x_rv (w := k_w cI cZ kd) (by subst ez1 ez2 ez3 ez5 ez6 ez8 ez9 ez11; first | (simp only [k_fin]; done) | (with_reducible rfl) | (simp only [k_fin]; with_reducible rfl)) hx hb hr hlk hP hD hS d_K_finished_56
      · exact (c10 (by decide)).elim
set_option maxHeartbeats 4000000 in
set_option maxRecDepth 100000 in
theorem c_K_demote_ok (l : Launch) (D : va_G) (cI cZ : ClassId) (kd : Nat → Nat) (z : x_S) (a : Int32) : x_C l y_K_demote c_K_demote 2 (some .int) { frames := 1, cells := 0, slots := 0, locals := 22 } D (k_ty cI cZ) (k_w cI cZ kd z) [.ref (kd 0), .int a] (some (.int (k_demote z a).1)) (k_w cI cZ kd (k_demote z a).2) := by
  refine x_C.of (by decide) (Nat.le_of_ble_eq_true rfl) ?_
  intro p e s m below meth c hx hb hr hml hts hown hlk A hA hK hS hP hD ls hl
  have hown : s.vm.findClass R_K = some m.cls := hown
  have hl : lv_has ls 2 [(0, .ref (kd 0)), (1, .int a)] := hl
  refine lv_aload_n hx hb d_K_demote_0 rfl (lv_at hl 0 rfl) ?_
  refine lv_iload_n hx hb d_K_demote_1 rfl (lv_at hl 1 rfl) ?_
  refine lv_iconst (v := 2) hx hb d_K_demote_2 (by decide) ?_
  refine x_V (rest := []) ⟨hx, hb, hml, hown, hts⟩ (c_K_out_ok l D cI cZ kd z a 2) gm_469 gm_471 gm_15 gm_34 gm_472 ⟨rfl, rfl⟩ hd_K_out ⟨Nat.le_of_ble_eq_true rfl, Nat.le_of_ble_eq_true rfl⟩ hK hP hD hS hA (va_recv hK hP (ci := 5) (q0 := 0) rfl k_h0) rfl hl.1 rfl (Nat.le_of_ble_eq_true rfl) d_K_demote_3 ⟨Nat.le_of_ble_eq_true rfl, Nat.le_of_ble_eq_true rfl⟩ (fun H locs hP hD hS => ?_)
  refine lv_topi (fun r1 er1 => ?_)
  refine lv_if_ne (tgt := 17) hx hb d_K_demote_6 (by decide) (fun c2 => ?_) (fun c2 => ?_)
  · refine lv_iconst (v := (-1)) hx hb d_K_demote_17 (by decide) ?_
    exact x_ri (w := k_w cI cZ kd) (by subst er1; first | (simp only [k_demote, if_neg c2]; done) | (with_reducible rfl) | (simp only [k_demote, if_neg c2]; with_reducible rfl)) hx hb hr hlk hP hD hS d_K_demote_18
  · obtain ⟨k, hk, ek⟩ := k_out2 (v := a) (by rw [← er1]; exact c2)
    subst ek
    refine lv_aload_n hx hb d_K_demote_9 rfl (lv_at hl 0 rfl) ?_
    refine va_get (D := D) (ci := 5) (C := R_K) (T := T_K) (N := 21) hx hb hts in_K hown hK hP 0 k_h0 rfl 10 (by decide) (hts _ gm_410) (fun _ h9 => h9) rfl d_K_demote_10 ?_
    refine lv_iload_n hx hb d_K_demote_13 rfl (lv_at hl 1 rfl) ?_
    refine lv_icmp_eq (tgt := 19) hx hb d_K_demote_14 (by decide) (fun c3 => ?_) (fun c3 => ?_)
    · refine lv_aload_n hx hb d_K_demote_19 rfl (lv_at hl 0 rfl) ?_
      refine x_V (rest := []) ⟨hx, hb, hml, hown, hts⟩ (c_K_noPrimary_ok l D cI cZ kd z) gm_513 gm_515 gm_24 gm_34 gm_516 ⟨rfl, rfl⟩ hd_K_noPrimary ⟨Nat.le_of_ble_eq_true rfl, Nat.le_of_ble_eq_true rfl⟩ hK hP hD hS hA (va_recv hK hP (ci := 5) (q0 := 0) rfl k_h0) rfl hl.1 rfl (Nat.le_of_ble_eq_true rfl) d_K_demote_20 ⟨Nat.le_of_ble_eq_true rfl, Nat.le_of_ble_eq_true rfl⟩ (fun H locs hP hD hS => ?_)
      obtain ⟨z4, ez4⟩ : ∃ zt_ : x_S, zt_ = k_noP z := ⟨_, rfl⟩
      rw [← ez4] at hP hD
      refine lv_aload_n hx hb d_K_demote_23 rfl (lv_at hl 0 rfl) ?_
      refine va_get (D := D) (ci := 5) (C := R_K) (T := T_K) (N := 21) hx hb hts in_K hown hK hP 0 k_h0 rfl 12 (by decide) (hts _ gm_412) (fun _ h9 => h9) rfl d_K_demote_24 ?_
      refine lv_iload_n hx hb d_K_demote_27 rfl (lv_at hl 1 rfl) ?_
      refine lv_icmp_ne (tgt := 36) hx hb d_K_demote_28 (by decide) (fun c5 => ?_) (fun c5 => ?_)
      · refine lv_iconst (v := 0) hx hb d_K_demote_36 (by decide) ?_
        exact x_ri (w := k_w cI cZ kd) (by subst er1 ez4; first | (simp only [k_demote, if_pos c2, if_pos c3, if_neg c5, x_cl hk]; done) | (with_reducible rfl) | (simp only [k_demote, if_pos c2, if_pos c3, if_neg c5, x_cl hk]; with_reducible rfl)) hx hb hr hlk hP hD hS d_K_demote_37
      · refine lv_aload_n hx hb d_K_demote_31 rfl (lv_at hl 0 rfl) ?_
        refine lv_iconst (v := 2) hx hb d_K_demote_32 (by decide) ?_
        refine va_put (D := D) (ci := 5) (v := .int 2) (ty := .int) (C := R_K) (T := T_K) (N := 21) hx hb hts in_K fy_K fy_K_ok n_K hown hK hP hD hS 0 k_h0 rfl 12 (by decide) (hts _ gm_412) (fun _ h9 => h9) rfl (by decide +kernel) rfl rfl (Nat.le_of_ble_eq_true rfl) d_K_demote_33 (fun H locs hP hD hS => ?_)
        obtain ⟨z6, ez6⟩ : ∃ zt_ : x_S, zt_ = x_up z4 1 3 2 := ⟨_, rfl⟩
        have hP : va_P D vwCl (k_w cI cZ kd z6) H := by rw [ez6]; exact (k_s0_12 2) ▸ hP
        have hD : va_D A (k_w cI cZ kd z6) := by rw [ez6]; exact (k_s0_12 2) ▸ hD
        refine lv_iconst (v := 0) hx hb d_K_demote_36 (by decide) ?_
        exact x_ri (w := k_w cI cZ kd) (by subst er1 ez4 ez6; first | (simp only [k_demote, if_pos c2, if_pos c3, if_pos c5, x_cl hk]; done) | (with_reducible rfl) | (simp only [k_demote, if_pos c2, if_pos c3, if_pos c5, x_cl hk]; with_reducible rfl)) hx hb hr hlk hP hD hS d_K_demote_37
    · refine lv_iconst (v := (-1)) hx hb d_K_demote_17 (by decide) ?_
      exact x_ri (w := k_w cI cZ kd) (by subst er1; first | (simp only [k_demote, if_pos c2, if_neg c3, x_cl hk]; done) | (with_reducible rfl) | (simp only [k_demote, if_pos c2, if_neg c3, x_cl hk]; with_reducible rfl)) hx hb hr hlk hP hD hS d_K_demote_18
set_option maxHeartbeats 4000000 in
set_option maxRecDepth 100000 in
theorem c_K_renew_ok (l : Launch) (D : va_G) (cI cZ : ClassId) (kd : Nat → Nat) (z : x_S) (k : Nat) (hk : k < 2) (hq : ¬ z 0 6 = 2 → z 0 6 = nI k) : x_C l y_K_renew c_K_renew 1 (some .int) { frames := 0, cells := 0, slots := 0, locals := 0 } D (k_ty cI cZ) (k_w cI cZ kd z) [.ref (kd 0)] (some (.int (k_rnw z k).1)) (k_w cI cZ kd (k_rnw z k).2) := by
  refine x_C.of (by decide) (Nat.le_of_ble_eq_true rfl) ?_
  intro p e s m below meth c hx hb hr hml hts hown hlk A hA hK hS hP hD ls hl
  have hown : s.vm.findClass R_K = some m.cls := hown
  have hl : lv_has ls 1 [(0, .ref (kd 0))] := hl
  refine lv_aload_n hx hb d_K_renew_0 rfl (lv_at hl 0 rfl) ?_
  refine va_get (D := D) (ci := 5) (C := R_K) (T := T_K) (N := 21) hx hb hts in_K hown hK hP 0 k_h0 rfl 10 (by decide) (hts _ gm_410) (fun _ h9 => h9) rfl d_K_renew_1 ?_
  refine lv_iconst (v := 2) hx hb d_K_renew_4 (by decide) ?_
  refine lv_icmp_eq (tgt := 20) hx hb d_K_renew_5 (by decide) (fun c1 => ?_) (fun c1 => ?_)
  · refine lv_iconst (v := (-1)) hx hb d_K_renew_20 (by decide) ?_
    exact x_ri (w := k_w cI cZ kd) (by first | (simp only [k_rnw, if_pos c1]; done) | (with_reducible rfl) | (simp only [k_rnw, if_pos c1]; with_reducible rfl)) hx hb hr hlk hP hD hS d_K_renew_21
  · have hp := hq c1
    refine lv_aload_n hx hb d_K_renew_8 rfl (lv_at hl 0 rfl) ?_
    refine va_get (D := D) (ci := 5) (C := R_K) (T := T_K) (N := 21) hx hb hts in_K hown hK hP 0 k_h0 rfl 6 (by decide) (hts _ gm_406) (fun _ h9 => h9) rfl d_K_renew_9 ?_
    refine lv_aload_n hx hb d_K_renew_12 rfl (lv_at hl 0 rfl) ?_
    refine va_get (D := D) (ci := 5) (C := R_K) (T := T_K) (N := 21) hx hb hts in_K hown hK hP 0 k_h0 rfl 10 (by decide) (hts _ gm_410) (fun _ h9 => h9) rfl d_K_renew_13 ?_
    refine x_top (show z 0 6 = nI k by first | exact hp | (rw [k_keep_low (by decide)]; exact hp) | (rw [k_settle_low (by decide)]; exact hp)) ?_
    refine va_zald (D := D) hx hb hK hP 6 1 k_h6 rfl (x_in2 hk) d_K_renew_16 ?_
    refine x_top (k_col_at hk) ?_
    refine lv_if_eq (tgt := 22) hx hb d_K_renew_17 (by decide) (fun c2 => ?_) (fun c2 => ?_)
    · refine lv_aload_n hx hb d_K_renew_22 rfl (lv_at hl 0 rfl) ?_
      refine lv_aload_n hx hb d_K_renew_23 rfl (lv_at hl 0 rfl) ?_
      refine va_get (D := D) (ci := 5) (C := R_K) (T := T_K) (N := 21) hx hb hts in_K hown hK hP 0 k_h0 rfl 16 (by decide) (hts _ gm_416) (fun _ h9 => h9) rfl d_K_renew_24 ?_
      refine lv_aload_n hx hb d_K_renew_27 rfl (lv_at hl 0 rfl) ?_
      refine va_get (D := D) (ci := 5) (C := R_K) (T := T_K) (N := 21) hx hb hts in_K hown hK hP 0 k_h0 rfl 0 (by decide) (hts _ gm_400) (fun _ h9 => h9) rfl d_K_renew_28 ?_
      refine lv_iadd hx hb d_K_renew_31 ?_
      refine va_put (D := D) (ci := 5) (v := .int ((z 1 2) + (z 1 0))) (ty := .int) (C := R_K) (T := T_K) (N := 21) hx hb hts in_K fy_K fy_K_ok n_K hown hK hP hD hS 0 k_h0 rfl 17 (by decide) (hts _ gm_417) (fun _ h9 => h9) rfl (by decide +kernel) rfl rfl (Nat.le_of_ble_eq_true rfl) d_K_renew_32 (fun H locs hP hD hS => ?_)
      obtain ⟨z3, ez3⟩ : ∃ zt_ : x_S, zt_ = x_up z 1 4 ((z 1 2) + (z 1 0)) := ⟨_, rfl⟩
      have hP : va_P D vwCl (k_w cI cZ kd z3) H := by rw [ez3]; exact (k_s0_17 ((z 1 2) + (z 1 0))) ▸ hP
      have hD : va_D A (k_w cI cZ kd z3) := by rw [ez3]; exact (k_s0_17 ((z 1 2) + (z 1 0))) ▸ hD
      refine lv_aload_n hx hb d_K_renew_35 rfl (lv_at hl 0 rfl) ?_
      refine va_get (D := D) (ci := 5) (C := R_K) (T := T_K) (N := 21) hx hb hts in_K hown hK hP 0 k_h0 rfl 17 (by decide) (hts _ gm_417) (fun _ h9 => h9) rfl d_K_renew_36 ?_
      exact x_ri (w := k_w cI cZ kd) (by subst ez3; first | (simp only [k_rnw, if_neg c1, if_pos c2]; done) | (with_reducible rfl) | (simp only [k_rnw, if_neg c1, if_pos c2]; with_reducible rfl)) hx hb hr hlk hP hD hS d_K_renew_39
    · refine lv_iconst (v := (-1)) hx hb d_K_renew_20 (by decide) ?_
      exact x_ri (w := k_w cI cZ kd) (by first | (simp only [k_rnw, if_neg c1, if_neg c2]; done) | (with_reducible rfl) | (simp only [k_rnw, if_neg c1, if_neg c2]; with_reducible rfl)) hx hb hr hlk hP hD hS d_K_renew_21
end
section
-- ===== 24.k2d: the reference: public calls
set_option maxHeartbeats 4000000 in
set_option maxRecDepth 100000 in
theorem c_K_tick_ok (l : Launch) (D : va_G) (cI cZ : ClassId) (kd : Nat → Nat) (z : x_S) (b : Int32) : x_C l y_K_tick c_K_tick 2 (some .int) { frames := 1, cells := 0, slots := 0, locals := 20 } D (k_ty cI cZ) (k_w cI cZ kd z) [.ref (kd 0), .int b] (some (.int (k_tick z b).1)) (k_w cI cZ kd (k_tick z b).2) := by
  refine x_C.of (by decide) (Nat.le_of_ble_eq_true rfl) ?_
  intro p e s m below meth c hx hb hr hml hts hown hlk A hA hK hS hP hD ls hl
  have hown : s.vm.findClass R_K = some m.cls := hown
  have hl : lv_has ls 2 [(0, .ref (kd 0)), (1, .int b)] := hl
  refine lv_iload_n hx hb d_K_tick_0 rfl (lv_at hl 1 rfl) ?_
  refine lv_if_lt (tgt := 10) hx hb d_K_tick_1 (by decide) (fun c1 => ?_) (fun c1 => ?_)
  · refine lv_iconst (v := (-1)) hx hb d_K_tick_10 (by decide) ?_
    exact x_ri (w := k_w cI cZ kd) (by first | (simp only [k_tick, k_tickT, if_pos c1]; done) | (with_reducible rfl) | (simp only [k_tick, k_tickT, if_pos c1]; with_reducible rfl)) hx hb hr hlk hP hD hS d_K_tick_11
  · refine lv_iload_n hx hb d_K_tick_4 rfl (lv_at hl 1 rfl) ?_
    refine lv_bipush (v := 100) hx hb d_K_tick_5 (by decide) ?_
    refine lv_icmp_le (tgt := 12) hx hb d_K_tick_7 (by decide) (fun c2 => ?_) (fun c2 => ?_)
    · refine lv_aload_n hx hb d_K_tick_12 rfl (lv_at hl 0 rfl) ?_
      refine lv_dup hx hb d_K_tick_13 rfl ?_
      refine va_get (D := D) (ci := 5) (C := R_K) (T := T_K) (N := 21) hx hb hts in_K hown hK hP 0 k_h0 rfl 16 (by decide) (hts _ gm_416) (fun _ h9 => h9) rfl d_K_tick_14 ?_
      refine lv_iload_n hx hb d_K_tick_17 rfl (lv_at hl 1 rfl) ?_
      refine lv_iadd hx hb d_K_tick_18 ?_
      refine va_put (D := D) (ci := 5) (v := .int ((z 1 2) + b)) (ty := .int) (C := R_K) (T := T_K) (N := 21) hx hb hts in_K fy_K fy_K_ok n_K hown hK hP hD hS 0 k_h0 rfl 16 (by decide) (hts _ gm_416) (fun _ h9 => h9) rfl (by decide +kernel) rfl rfl (Nat.le_of_ble_eq_true rfl) d_K_tick_19 (fun H locs hP hD hS => ?_)
      obtain ⟨z3, ez3⟩ : ∃ zt_ : x_S, zt_ = x_up z 1 2 ((z 1 2) + b) := ⟨_, rfl⟩
      have hP : va_P D vwCl (k_w cI cZ kd z3) H := by rw [ez3]; exact (k_s0_16 ((z 1 2) + b)) ▸ hP
      have hD : va_D A (k_w cI cZ kd z3) := by rw [ez3]; exact (k_s0_16 ((z 1 2) + b)) ▸ hD
      refine lv_aload_n hx hb d_K_tick_22 rfl (lv_at hl 0 rfl) ?_
      refine va_get (D := D) (ci := 5) (C := R_K) (T := T_K) (N := 21) hx hb hts in_K hown hK hP 0 k_h0 rfl 12 (by decide) (hts _ gm_412) (fun _ h9 => h9) rfl d_K_tick_23 ?_
      refine lv_iconst (v := 2) hx hb d_K_tick_26 (by decide) ?_
      refine lv_icmp_eq (tgt := 41) hx hb d_K_tick_27 (by decide) (fun c4 => ?_) (fun c4 => ?_)
      · refine lv_aload_n hx hb d_K_tick_41 rfl (lv_at hl 0 rfl) ?_
        refine lv_iconst (v := 2) hx hb d_K_tick_42 (by decide) ?_
        refine va_put (D := D) (ci := 5) (v := .int 2) (ty := .int) (C := R_K) (T := T_K) (N := 21) hx hb hts in_K fy_K fy_K_ok n_K hown hK hP hD hS 0 k_h0 rfl 12 (by decide) (hts _ gm_412) (fun _ h9 => h9) rfl (by decide +kernel) rfl rfl (Nat.le_of_ble_eq_true rfl) d_K_tick_43 (fun H locs hP hD hS => ?_)
        obtain ⟨z5, ez5⟩ : ∃ zt_ : x_S, zt_ = x_up z3 1 3 2 := ⟨_, rfl⟩
        have hP : va_P D vwCl (k_w cI cZ kd z5) H := by rw [ez5]; exact (k_s0_12 2) ▸ hP
        have hD : va_D A (k_w cI cZ kd z5) := by rw [ez5]; exact (k_s0_12 2) ▸ hD
        refine lv_aload_n hx hb d_K_tick_46 rfl (lv_at hl 0 rfl) ?_
        refine va_get (D := D) (ci := 5) (C := R_K) (T := T_K) (N := 21) hx hb hts in_K hown hK hP 0 k_h0 rfl 10 (by decide) (hts _ gm_410) (fun _ h9 => h9) rfl d_K_tick_47 ?_
        refine lv_iconst (v := 2) hx hb d_K_tick_50 (by decide) ?_
        refine lv_icmp_eq (tgt := 58) hx hb d_K_tick_51 (by decide) (fun c6 => ?_) (fun c6 => ?_)
        · refine lv_aload_n hx hb d_K_tick_58 rfl (lv_at hl 0 rfl) ?_
          refine va_get (D := D) (ci := 5) (C := R_K) (T := T_K) (N := 21) hx hb hts in_K hown hK hP 0 k_h0 rfl 16 (by decide) (hts _ gm_416) (fun _ h9 => h9) rfl d_K_tick_59 ?_
          exact x_ri (w := k_w cI cZ kd) (by subst ez3 ez5; first | (simp only [k_tick, k_tickT, if_neg c1, if_pos c2, if_pos c4, if_pos c6]; done) | (with_reducible rfl) | (simp only [k_tick, k_tickT, if_neg c1, if_pos c2, if_pos c4, if_pos c6]; with_reducible rfl)) hx hb hr hlk hP hD hS d_K_tick_62
        · refine lv_aload_n hx hb d_K_tick_54 rfl (lv_at hl 0 rfl) ?_
          refine x_V (rest := []) ⟨hx, hb, hml, hown, hts⟩ (c_K_noPrimary_ok l D cI cZ kd z5) gm_513 gm_515 gm_24 gm_34 gm_516 ⟨rfl, rfl⟩ hd_K_noPrimary ⟨Nat.le_of_ble_eq_true rfl, Nat.le_of_ble_eq_true rfl⟩ hK hP hD hS hA (va_recv hK hP (ci := 5) (q0 := 0) rfl k_h0) rfl hl.1 rfl (Nat.le_of_ble_eq_true rfl) d_K_tick_55 ⟨Nat.le_of_ble_eq_true rfl, Nat.le_of_ble_eq_true rfl⟩ (fun H locs hP hD hS => ?_)
          obtain ⟨z7, ez7⟩ : ∃ zt_ : x_S, zt_ = k_noP z5 := ⟨_, rfl⟩
          rw [← ez7] at hP hD
          refine lv_aload_n hx hb d_K_tick_58 rfl (lv_at hl 0 rfl) ?_
          refine va_get (D := D) (ci := 5) (C := R_K) (T := T_K) (N := 21) hx hb hts in_K hown hK hP 0 k_h0 rfl 16 (by decide) (hts _ gm_416) (fun _ h9 => h9) rfl d_K_tick_59 ?_
          exact x_ri (w := k_w cI cZ kd) (by subst ez3 ez5 ez7; first | (simp only [k_tick, k_tickT, if_neg c1, if_pos c2, if_pos c4, if_neg c6]; done) | (with_reducible rfl) | (simp only [k_tick, k_tickT, if_neg c1, if_pos c2, if_pos c4, if_neg c6]; with_reducible rfl)) hx hb hr hlk hP hD hS d_K_tick_62
      · refine lv_aload_n hx hb d_K_tick_30 rfl (lv_at hl 0 rfl) ?_
        refine va_get (D := D) (ci := 5) (C := R_K) (T := T_K) (N := 21) hx hb hts in_K hown hK hP 0 k_h0 rfl 17 (by decide) (hts _ gm_417) (fun _ h9 => h9) rfl d_K_tick_31 ?_
        refine lv_aload_n hx hb d_K_tick_34 rfl (lv_at hl 0 rfl) ?_
        refine va_get (D := D) (ci := 5) (C := R_K) (T := T_K) (N := 21) hx hb hts in_K hown hK hP 0 k_h0 rfl 16 (by decide) (hts _ gm_416) (fun _ h9 => h9) rfl d_K_tick_35 ?_
        refine lv_icmp_gt (tgt := 58) hx hb d_K_tick_38 (by decide) (fun c8 => ?_) (fun c8 => ?_)
        · refine lv_aload_n hx hb d_K_tick_58 rfl (lv_at hl 0 rfl) ?_
          refine va_get (D := D) (ci := 5) (C := R_K) (T := T_K) (N := 21) hx hb hts in_K hown hK hP 0 k_h0 rfl 16 (by decide) (hts _ gm_416) (fun _ h9 => h9) rfl d_K_tick_59 ?_
          exact x_ri (w := k_w cI cZ kd) (by subst ez3; first | (simp only [k_tick, k_tickT, if_neg c1, if_pos c2, if_neg c4, if_pos c8]; done) | (with_reducible rfl) | (simp only [k_tick, k_tickT, if_neg c1, if_pos c2, if_neg c4, if_pos c8]; with_reducible rfl)) hx hb hr hlk hP hD hS d_K_tick_62
        · refine lv_aload_n hx hb d_K_tick_41 rfl (lv_at hl 0 rfl) ?_
          refine lv_iconst (v := 2) hx hb d_K_tick_42 (by decide) ?_
          refine va_put (D := D) (ci := 5) (v := .int 2) (ty := .int) (C := R_K) (T := T_K) (N := 21) hx hb hts in_K fy_K fy_K_ok n_K hown hK hP hD hS 0 k_h0 rfl 12 (by decide) (hts _ gm_412) (fun _ h9 => h9) rfl (by decide +kernel) rfl rfl (Nat.le_of_ble_eq_true rfl) d_K_tick_43 (fun H locs hP hD hS => ?_)
          obtain ⟨z9, ez9⟩ : ∃ zt_ : x_S, zt_ = x_up z3 1 3 2 := ⟨_, rfl⟩
          have hP : va_P D vwCl (k_w cI cZ kd z9) H := by rw [ez9]; exact (k_s0_12 2) ▸ hP
          have hD : va_D A (k_w cI cZ kd z9) := by rw [ez9]; exact (k_s0_12 2) ▸ hD
          refine lv_aload_n hx hb d_K_tick_46 rfl (lv_at hl 0 rfl) ?_
          refine va_get (D := D) (ci := 5) (C := R_K) (T := T_K) (N := 21) hx hb hts in_K hown hK hP 0 k_h0 rfl 10 (by decide) (hts _ gm_410) (fun _ h9 => h9) rfl d_K_tick_47 ?_
          refine lv_iconst (v := 2) hx hb d_K_tick_50 (by decide) ?_
          refine lv_icmp_eq (tgt := 58) hx hb d_K_tick_51 (by decide) (fun c10 => ?_) (fun c10 => ?_)
          · refine lv_aload_n hx hb d_K_tick_58 rfl (lv_at hl 0 rfl) ?_
            refine va_get (D := D) (ci := 5) (C := R_K) (T := T_K) (N := 21) hx hb hts in_K hown hK hP 0 k_h0 rfl 16 (by decide) (hts _ gm_416) (fun _ h9 => h9) rfl d_K_tick_59 ?_
            exact x_ri (w := k_w cI cZ kd) (by subst ez3 ez9; first | (simp only [k_tick, k_tickT, if_neg c1, if_pos c2, if_neg c4, if_neg c8, if_pos c10]; done) | (with_reducible rfl) | (simp only [k_tick, k_tickT, if_neg c1, if_pos c2, if_neg c4, if_neg c8, if_pos c10]; with_reducible rfl)) hx hb hr hlk hP hD hS d_K_tick_62
          · refine lv_aload_n hx hb d_K_tick_54 rfl (lv_at hl 0 rfl) ?_
            refine x_V (rest := []) ⟨hx, hb, hml, hown, hts⟩ (c_K_noPrimary_ok l D cI cZ kd z9) gm_513 gm_515 gm_24 gm_34 gm_516 ⟨rfl, rfl⟩ hd_K_noPrimary ⟨Nat.le_of_ble_eq_true rfl, Nat.le_of_ble_eq_true rfl⟩ hK hP hD hS hA (va_recv hK hP (ci := 5) (q0 := 0) rfl k_h0) rfl hl.1 rfl (Nat.le_of_ble_eq_true rfl) d_K_tick_55 ⟨Nat.le_of_ble_eq_true rfl, Nat.le_of_ble_eq_true rfl⟩ (fun H locs hP hD hS => ?_)
            obtain ⟨z11, ez11⟩ : ∃ zt_ : x_S, zt_ = k_noP z9 := ⟨_, rfl⟩
            rw [← ez11] at hP hD
            refine lv_aload_n hx hb d_K_tick_58 rfl (lv_at hl 0 rfl) ?_
            refine va_get (D := D) (ci := 5) (C := R_K) (T := T_K) (N := 21) hx hb hts in_K hown hK hP 0 k_h0 rfl 16 (by decide) (hts _ gm_416) (fun _ h9 => h9) rfl d_K_tick_59 ?_
            exact x_ri (w := k_w cI cZ kd) (by subst ez3 ez9 ez11; first | (simp only [k_tick, k_tickT, if_neg c1, if_pos c2, if_neg c4, if_neg c8, if_neg c10]; done) | (with_reducible rfl) | (simp only [k_tick, k_tickT, if_neg c1, if_pos c2, if_neg c4, if_neg c8, if_neg c10]; with_reducible rfl)) hx hb hr hlk hP hD hS d_K_tick_62
    · refine lv_iconst (v := (-1)) hx hb d_K_tick_10 (by decide) ?_
      exact x_ri (w := k_w cI cZ kd) (by first | (simp only [k_tick, k_tickT, if_neg c1, if_neg c2]; done) | (with_reducible rfl) | (simp only [k_tick, k_tickT, if_neg c1, if_neg c2]; with_reducible rfl)) hx hb hr hlk hP hD hS d_K_tick_11
set_option maxHeartbeats 4000000 in
set_option maxRecDepth 100000 in
theorem c_K_block_ok (l : Launch) (D : va_G) (cI cZ : ClassId) (kd : Nat → Nat) (z : x_S) (a b f : Int32) : x_C l y_K_block c_K_block 4 (some .long) { frames := 1, cells := 0, slots := 0, locals := 22 } D (k_ty cI cZ) (k_w cI cZ kd z) [.ref (kd 0), .int a, .int b, .int f] (some (.long (k_block z a b f))) (k_w cI cZ kd z) := by
  refine x_C.of (by decide) (Nat.le_of_ble_eq_true rfl) ?_
  intro p e s m below meth c hx hb hr hml hts hown hlk A hA hK hS hP hD ls hl
  have hown : s.vm.findClass R_K = some m.cls := hown
  have hl : lv_has ls 4 [(0, .ref (kd 0)), (1, .int a), (2, .int b), (3, .int f)] := hl
  refine lv_aload_n hx hb d_K_block_0 rfl (lv_at hl 0 rfl) ?_
  refine lv_iload_n hx hb d_K_block_1 rfl (lv_at hl 1 rfl) ?_
  refine lv_iconst (v := 2) hx hb d_K_block_2 (by decide) ?_
  refine x_V (rest := []) ⟨hx, hb, hml, hown, hts⟩ (c_K_out_ok l D cI cZ kd z a 2) gm_469 gm_471 gm_15 gm_34 gm_472 ⟨rfl, rfl⟩ hd_K_out ⟨Nat.le_of_ble_eq_true rfl, Nat.le_of_ble_eq_true rfl⟩ hK hP hD hS hA (va_recv hK hP (ci := 5) (q0 := 0) rfl k_h0) rfl hl.1 rfl (Nat.le_of_ble_eq_true rfl) d_K_block_3 ⟨Nat.le_of_ble_eq_true rfl, Nat.le_of_ble_eq_true rfl⟩ (fun H locs hP hD hS => ?_)
  refine lv_topi (fun r1 er1 => ?_)
  refine lv_if_ne (tgt := 19) hx hb d_K_block_6 (by decide) (fun c2 => ?_) (fun c2 => ?_)
  · refine lv_ldc2 (v := (-1000000000000)) hx hb hown (hts (.constantLong R_K 106 (-1000000000000)) gm_525) d_K_block_19 ?_
    exact x_rl (by subst er1; first | (simp only [k_block, if_neg c2]; done) | (with_reducible rfl) | (simp only [k_block, if_neg c2]; with_reducible rfl)) hx hb hr hlk hP hD hS d_K_block_22
  · obtain ⟨k, hk, ek⟩ := k_out2 (v := a) (by rw [← er1]; exact c2)
    subst ek
    refine lv_aload_n hx hb d_K_block_9 rfl (lv_at hl 0 rfl) ?_
    refine lv_iload_n hx hb d_K_block_10 rfl (lv_at hl 2 rfl) ?_
    refine lv_bipush (v := 32) hx hb d_K_block_11 (by decide) ?_
    refine x_V (rest := []) ⟨hx, hb, hml, hown, hts⟩ (c_K_out_ok l D cI cZ kd z b 32) gm_469 gm_471 gm_15 gm_34 gm_472 ⟨rfl, rfl⟩ hd_K_out ⟨Nat.le_of_ble_eq_true rfl, Nat.le_of_ble_eq_true rfl⟩ hK hP hD hS hA (va_recv hK hP (ci := 5) (q0 := 0) rfl k_h0) rfl hl.1 rfl (Nat.le_of_ble_eq_true rfl) d_K_block_13 ⟨Nat.le_of_ble_eq_true rfl, Nat.le_of_ble_eq_true rfl⟩ (fun H locs hP hD hS => ?_)
    refine lv_topi (fun r3 er3 => ?_)
    refine lv_if_eq (tgt := 23) hx hb d_K_block_16 (by decide) (fun c4 => ?_) (fun c4 => ?_)
    · obtain ⟨bb, hbb, ebb⟩ := k_out32 (v := b) (by rw [← er3]; exact c4)
      subst ebb
      refine lv_iload_n hx hb d_K_block_23 rfl (lv_at hl 3 rfl) ?_
      refine lv_if_eq (tgt := 42) hx hb d_K_block_24 (by decide) (fun c5 => ?_) (fun c5 => ?_)
      · refine lv_aload_n hx hb d_K_block_42 rfl (lv_at hl 0 rfl) ?_
        refine lv_iload_n hx hb d_K_block_43 rfl (lv_at hl 1 rfl) ?_
        refine lv_iload_n hx hb d_K_block_44 rfl (lv_at hl 2 rfl) ?_
        refine x_V (rest := []) ⟨hx, hb, hml, hown, hts⟩ (c_K_holds_ok l D cI cZ kd z k hk bb hbb) gm_493 gm_495 gm_20 gm_34 gm_496 ⟨rfl, rfl⟩ hd_K_holds ⟨Nat.le_of_ble_eq_true rfl, Nat.le_of_ble_eq_true rfl⟩ hK hP hD hS hA (va_recv hK hP (ci := 5) (q0 := 0) rfl k_h0) rfl hl.1 rfl (Nat.le_of_ble_eq_true rfl) d_K_block_45 ⟨Nat.le_of_ble_eq_true rfl, Nat.le_of_ble_eq_true rfl⟩ (fun H locs hP hD hS => ?_)
        refine lv_topi (fun r6 er6 => ?_)
        refine lv_i2l (v := r6.toInt64) hx hb d_K_block_48 rfl ?_
        exact x_rl (by subst er1 er3 er6; first | (simp only [k_block, if_pos c2, if_pos c4, if_pos c5, x_cl hk, x_cl32 (show bb < 32 by omega)]; done) | (with_reducible rfl) | (simp only [k_block, if_pos c2, if_pos c4, if_pos c5, x_cl hk, x_cl32 (show bb < 32 by omega)]; with_reducible rfl)) hx hb hr hlk hP hD hS d_K_block_49
      · refine lv_aload_n hx hb d_K_block_27 rfl (lv_at hl 0 rfl) ?_
        refine va_get (D := D) (ci := 5) (C := R_K) (T := T_K) (N := 21) hx hb hts in_K hown hK hP 0 k_h0 rfl 1 (by decide) (hts _ gm_401) (fun _ h9 => h9) rfl d_K_block_28 ?_
        refine lv_iload_n hx hb d_K_block_31 rfl (lv_at hl 1 rfl) ?_
        refine lv_bipush (v := 32) hx hb d_K_block_32 (by decide) ?_
        refine lv_imul hx hb d_K_block_34 ?_
        refine lv_iload_n hx hb d_K_block_35 rfl (lv_at hl 2 rfl) ?_
        refine lv_iadd hx hb d_K_block_36 ?_
        refine x_top (show ((nI k) * 32) + (nI bb) = nI (32 * k + bb) from k_ix) ?_
        refine va_iald (D := D) hx hb hK hP 1 0 k_h1 rfl (k_in64 hk hbb) d_K_block_37 ?_
        refine x_top (k_b_at hk hbb) ?_
        refine lv_i2l (v := (z (7 + k) bb).toInt64) hx hb d_K_block_38 rfl ?_
        refine lv_goto (tgt := 49) hx hb d_K_block_39 (by decide) ?_
        exact x_rl (by subst er1 er3; first | (simp only [k_block, if_pos c2, if_pos c4, if_neg c5, x_cl hk, x_cl32 (show bb < 32 by omega)]; done) | (with_reducible rfl) | (simp only [k_block, if_pos c2, if_pos c4, if_neg c5, x_cl hk, x_cl32 (show bb < 32 by omega)]; with_reducible rfl)) hx hb hr hlk hP hD hS d_K_block_49
    · refine lv_ldc2 (v := (-1000000000000)) hx hb hown (hts (.constantLong R_K 106 (-1000000000000)) gm_525) d_K_block_19 ?_
      exact x_rl (by subst er1 er3; first | (simp only [k_block, if_pos c2, if_neg c4, x_cl hk]; done) | (with_reducible rfl) | (simp only [k_block, if_pos c2, if_neg c4, x_cl hk]; with_reducible rfl)) hx hb hr hlk hP hD hS d_K_block_22
set_option maxHeartbeats 4000000 in
set_option maxRecDepth 100000 in
theorem c_K_mirror_ok (l : Launch) (D : va_G) (cI cZ : ClassId) (kd : Nat → Nat) (z : x_S) (w : Int32) : x_C l y_K_mirror c_K_mirror 2 (some .int) { frames := 0, cells := 0, slots := 0, locals := 0 } D (k_ty cI cZ) (k_w cI cZ kd z) [.ref (kd 0), .int w] (some (.int (k_mirror z w))) (k_w cI cZ kd z) := by
  refine x_C.of (by decide) (Nat.le_of_ble_eq_true rfl) ?_
  intro p e s m below meth c hx hb hr hml hts hown hlk A hA hK hS hP hD ls hl
  have hown : s.vm.findClass R_K = some m.cls := hown
  have hl : lv_has ls 2 [(0, .ref (kd 0)), (1, .int w)] := hl
  refine lv_iload_n hx hb d_K_mirror_0 rfl (lv_at hl 1 rfl) ?_
  rcases x_sw 7 w with hsw | ⟨jj, hjj, ejj⟩
  · refine lv_tableOut (tgt := 107) hx hb d_K_mirror_1 hsw (by decide) ?_
    have hne0 : ¬ w = 0 := by rintro rfl; revert hsw; decide
    have hne1 : ¬ w = 1 := by rintro rfl; revert hsw; decide
    have hne2 : ¬ w = 2 := by rintro rfl; revert hsw; decide
    have hne3 : ¬ w = 3 := by rintro rfl; revert hsw; decide
    have hne4 : ¬ w = 4 := by rintro rfl; revert hsw; decide
    have hne5 : ¬ w = 5 := by rintro rfl; revert hsw; decide
    have hne6 : ¬ w = 6 := by rintro rfl; revert hsw; decide
    refine lv_iconst (v := (-1)) hx hb d_K_mirror_107 (by decide) ?_
    exact x_rp (by first | (simp only [k_mirror, if_neg hne0, if_neg hne1, if_neg hne2, if_neg hne3, if_neg hne4, if_neg hne5, if_neg hne6]; done) | (with_reducible rfl) | (simp only [k_mirror, if_neg hne0, if_neg hne1, if_neg hne2, if_neg hne3, if_neg hne4, if_neg hne5, if_neg hne6]; with_reducible rfl)) hx hb hr hlk hP hD hS d_K_mirror_108
  · subst ejj
    match jj, hjj with
    | 0, _ =>
      refine lv_tableIn (off := 43) (tgt := 44) hx hb d_K_mirror_1 (by decide) (by decide) rfl (by decide) ?_
      refine lv_aload_n hx hb d_K_mirror_44 rfl (lv_at hl 0 rfl) ?_
      refine va_get (D := D) (ci := 5) (C := R_K) (T := T_K) (N := 21) hx hb hts in_K hown hK hP 0 k_h0 rfl 13 (by decide) (hts _ gm_413) (fun _ h9 => h9) rfl d_K_mirror_45 ?_
      refine lv_if_eq (tgt := 55) hx hb d_K_mirror_48 (by decide) (fun c1 => ?_) (fun c1 => ?_)
      · refine lv_iconst (v := 0) hx hb d_K_mirror_55 (by decide) ?_
        exact x_rp (by first | (simp only [k_mirror, if_pos (by decide : nI 0 = 0), if_pos c1]; done) | (with_reducible rfl) | (simp only [k_mirror, if_pos (by decide : nI 0 = 0), if_pos c1]; with_reducible rfl)) hx hb hr hlk hP hD hS d_K_mirror_56
      · refine lv_iconst (v := 1) hx hb d_K_mirror_51 (by decide) ?_
        refine lv_goto (tgt := 56) hx hb d_K_mirror_52 (by decide) ?_
        exact x_rp (by first | (simp only [k_mirror, if_pos (by decide : nI 0 = 0), if_neg c1]; done) | (with_reducible rfl) | (simp only [k_mirror, if_pos (by decide : nI 0 = 0), if_neg c1]; with_reducible rfl)) hx hb hr hlk hP hD hS d_K_mirror_56
    | 1, _ =>
      refine lv_tableIn (off := 56) (tgt := 57) hx hb d_K_mirror_1 (by decide) (by decide) rfl (by decide) ?_
      refine lv_aload_n hx hb d_K_mirror_57 rfl (lv_at hl 0 rfl) ?_
      refine va_get (D := D) (ci := 5) (C := R_K) (T := T_K) (N := 21) hx hb hts in_K hown hK hP 0 k_h0 rfl 11 (by decide) (hts _ gm_411) (fun _ h9 => h9) rfl d_K_mirror_58 ?_
      exact x_rp (by first | (simp only [k_mirror, if_neg (by decide : ¬ nI 1 = 0), if_pos (by decide : nI 1 = 1)]; done) | (with_reducible rfl) | (simp only [k_mirror, if_neg (by decide : ¬ nI 1 = 0), if_pos (by decide : nI 1 = 1)]; with_reducible rfl)) hx hb hr hlk hP hD hS d_K_mirror_61
    | 2, _ =>
      refine lv_tableIn (off := 61) (tgt := 62) hx hb d_K_mirror_1 (by decide) (by decide) rfl (by decide) ?_
      refine lv_aload_n hx hb d_K_mirror_62 rfl (lv_at hl 0 rfl) ?_
      refine va_get (D := D) (ci := 5) (C := R_K) (T := T_K) (N := 21) hx hb hts in_K hown hK hP 0 k_h0 rfl 15 (by decide) (hts _ gm_415) (fun _ h9 => h9) rfl d_K_mirror_63 ?_
      exact x_rp (by first | (simp only [k_mirror, if_neg (by decide : ¬ nI 2 = 0), if_neg (by decide : ¬ nI 2 = 1), if_pos (by decide : nI 2 = 2)]; done) | (with_reducible rfl) | (simp only [k_mirror, if_neg (by decide : ¬ nI 2 = 0), if_neg (by decide : ¬ nI 2 = 1), if_pos (by decide : nI 2 = 2)]; with_reducible rfl)) hx hb hr hlk hP hD hS d_K_mirror_66
    | 3, _ =>
      refine lv_tableIn (off := 66) (tgt := 67) hx hb d_K_mirror_1 (by decide) (by decide) rfl (by decide) ?_
      refine lv_aload_n hx hb d_K_mirror_67 rfl (lv_at hl 0 rfl) ?_
      refine va_get (D := D) (ci := 5) (C := R_K) (T := T_K) (N := 21) hx hb hts in_K hown hK hP 0 k_h0 rfl 12 (by decide) (hts _ gm_412) (fun _ h9 => h9) rfl d_K_mirror_68 ?_
      exact x_rp (by first | (simp only [k_mirror, if_neg (by decide : ¬ nI 3 = 0), if_neg (by decide : ¬ nI 3 = 1), if_neg (by decide : ¬ nI 3 = 2), if_pos (by decide : nI 3 = 3)]; done) | (with_reducible rfl) | (simp only [k_mirror, if_neg (by decide : ¬ nI 3 = 0), if_neg (by decide : ¬ nI 3 = 1), if_neg (by decide : ¬ nI 3 = 2), if_pos (by decide : nI 3 = 3)]; with_reducible rfl)) hx hb hr hlk hP hD hS d_K_mirror_71
    | 4, _ =>
      refine lv_tableIn (off := 71) (tgt := 72) hx hb d_K_mirror_1 (by decide) (by decide) rfl (by decide) ?_
      refine lv_aload_n hx hb d_K_mirror_72 rfl (lv_at hl 0 rfl) ?_
      refine va_get (D := D) (ci := 5) (C := R_K) (T := T_K) (N := 21) hx hb hts in_K hown hK hP 0 k_h0 rfl 12 (by decide) (hts _ gm_412) (fun _ h9 => h9) rfl d_K_mirror_73 ?_
      refine lv_iconst (v := 2) hx hb d_K_mirror_76 (by decide) ?_
      refine lv_icmp_ne (tgt := 84) hx hb d_K_mirror_77 (by decide) (fun c2 => ?_) (fun c2 => ?_)
      · refine lv_aload_n hx hb d_K_mirror_84 rfl (lv_at hl 0 rfl) ?_
        refine va_get (D := D) (ci := 5) (C := R_K) (T := T_K) (N := 21) hx hb hts in_K hown hK hP 0 k_h0 rfl 17 (by decide) (hts _ gm_417) (fun _ h9 => h9) rfl d_K_mirror_85 ?_
        exact x_rp (by first | (simp only [k_mirror, if_neg (by decide : ¬ nI 4 = 0), if_neg (by decide : ¬ nI 4 = 1), if_neg (by decide : ¬ nI 4 = 2), if_neg (by decide : ¬ nI 4 = 3), if_pos (by decide : nI 4 = 4), if_neg c2]; done) | (with_reducible rfl) | (simp only [k_mirror, if_neg (by decide : ¬ nI 4 = 0), if_neg (by decide : ¬ nI 4 = 1), if_neg (by decide : ¬ nI 4 = 2), if_neg (by decide : ¬ nI 4 = 3), if_pos (by decide : nI 4 = 4), if_neg c2]; with_reducible rfl)) hx hb hr hlk hP hD hS d_K_mirror_88
      · refine lv_iconst (v := 0) hx hb d_K_mirror_80 (by decide) ?_
        refine lv_goto (tgt := 88) hx hb d_K_mirror_81 (by decide) ?_
        exact x_rp (by first | (simp only [k_mirror, if_neg (by decide : ¬ nI 4 = 0), if_neg (by decide : ¬ nI 4 = 1), if_neg (by decide : ¬ nI 4 = 2), if_neg (by decide : ¬ nI 4 = 3), if_pos (by decide : nI 4 = 4), if_pos c2]; done) | (with_reducible rfl) | (simp only [k_mirror, if_neg (by decide : ¬ nI 4 = 0), if_neg (by decide : ¬ nI 4 = 1), if_neg (by decide : ¬ nI 4 = 2), if_neg (by decide : ¬ nI 4 = 3), if_pos (by decide : nI 4 = 4), if_pos c2]; with_reducible rfl)) hx hb hr hlk hP hD hS d_K_mirror_88
    | 5, _ =>
      refine lv_tableIn (off := 88) (tgt := 89) hx hb d_K_mirror_1 (by decide) (by decide) rfl (by decide) ?_
      refine lv_aload_n hx hb d_K_mirror_89 rfl (lv_at hl 0 rfl) ?_
      refine va_get (D := D) (ci := 5) (C := R_K) (T := T_K) (N := 21) hx hb hts in_K hown hK hP 0 k_h0 rfl 18 (by decide) (hts _ gm_418) (fun _ h9 => h9) rfl d_K_mirror_90 ?_
      exact x_rp (by first | (simp only [k_mirror, if_neg (by decide : ¬ nI 5 = 0), if_neg (by decide : ¬ nI 5 = 1), if_neg (by decide : ¬ nI 5 = 2), if_neg (by decide : ¬ nI 5 = 3), if_neg (by decide : ¬ nI 5 = 4), if_pos (by decide : nI 5 = 5)]; done) | (with_reducible rfl) | (simp only [k_mirror, if_neg (by decide : ¬ nI 5 = 0), if_neg (by decide : ¬ nI 5 = 1), if_neg (by decide : ¬ nI 5 = 2), if_neg (by decide : ¬ nI 5 = 3), if_neg (by decide : ¬ nI 5 = 4), if_pos (by decide : nI 5 = 5)]; with_reducible rfl)) hx hb hr hlk hP hD hS d_K_mirror_93
    | 6, _ =>
      refine lv_tableIn (off := 93) (tgt := 94) hx hb d_K_mirror_1 (by decide) (by decide) rfl (by decide) ?_
      refine lv_aload_n hx hb d_K_mirror_94 rfl (lv_at hl 0 rfl) ?_
      refine va_get (D := D) (ci := 5) (C := R_K) (T := T_K) (N := 21) hx hb hts in_K hown hK hP 0 k_h0 rfl 14 (by decide) (hts _ gm_414) (fun _ h9 => h9) rfl d_K_mirror_95 ?_
      refine lv_if_eq (tgt := 105) hx hb d_K_mirror_98 (by decide) (fun c3 => ?_) (fun c3 => ?_)
      · refine lv_iconst (v := 0) hx hb d_K_mirror_105 (by decide) ?_
        exact x_rp (by first | (simp only [k_mirror, if_neg (by decide : ¬ nI 6 = 0), if_neg (by decide : ¬ nI 6 = 1), if_neg (by decide : ¬ nI 6 = 2), if_neg (by decide : ¬ nI 6 = 3), if_neg (by decide : ¬ nI 6 = 4), if_neg (by decide : ¬ nI 6 = 5), if_pos (by decide : nI 6 = 6), if_pos c3]; done) | (with_reducible rfl) | (simp only [k_mirror, if_neg (by decide : ¬ nI 6 = 0), if_neg (by decide : ¬ nI 6 = 1), if_neg (by decide : ¬ nI 6 = 2), if_neg (by decide : ¬ nI 6 = 3), if_neg (by decide : ¬ nI 6 = 4), if_neg (by decide : ¬ nI 6 = 5), if_pos (by decide : nI 6 = 6), if_pos c3]; with_reducible rfl)) hx hb hr hlk hP hD hS d_K_mirror_106
      · refine lv_iconst (v := 1) hx hb d_K_mirror_101 (by decide) ?_
        refine lv_goto (tgt := 106) hx hb d_K_mirror_102 (by decide) ?_
        exact x_rp (by first | (simp only [k_mirror, if_neg (by decide : ¬ nI 6 = 0), if_neg (by decide : ¬ nI 6 = 1), if_neg (by decide : ¬ nI 6 = 2), if_neg (by decide : ¬ nI 6 = 3), if_neg (by decide : ¬ nI 6 = 4), if_neg (by decide : ¬ nI 6 = 5), if_pos (by decide : nI 6 = 6), if_neg c3]; done) | (with_reducible rfl) | (simp only [k_mirror, if_neg (by decide : ¬ nI 6 = 0), if_neg (by decide : ¬ nI 6 = 1), if_neg (by decide : ¬ nI 6 = 2), if_neg (by decide : ¬ nI 6 = 3), if_neg (by decide : ¬ nI 6 = 4), if_neg (by decide : ¬ nI 6 = 5), if_pos (by decide : nI 6 = 6), if_neg c3]; with_reducible rfl)) hx hb hr hlk hP hD hS d_K_mirror_106
    | jj + 7, h => exact absurd h (by omega)
end
section
-- ===== 24.k2e: the reference: public calls
set_option maxHeartbeats 4000000 in
set_option maxRecDepth 100000 in
theorem c_K_node_ok (l : Launch) (D : va_G) (cI cZ : ClassId) (kd : Nat → Nat) (z : x_S) (a w : Int32) : x_C l y_K_node c_K_node 5 (some .int) { frames := 1, cells := 0, slots := 0, locals := 22 } D (k_ty cI cZ) (k_w cI cZ kd z) [.ref (kd 0), .int a, .int w] (some (.int (k_node z a w))) (k_w cI cZ kd z) := by
  refine x_C.of (by decide) (Nat.le_of_ble_eq_true rfl) ?_
  intro p e s m below meth c hx hb hr hml hts hown hlk A hA hK hS hP hD ls hl
  have hown : s.vm.findClass R_K = some m.cls := hown
  have hl : lv_has ls 5 [(0, .ref (kd 0)), (1, .int a), (2, .int w)] := hl
  have lpo : ∀ (k : Nat) (hk : k < 2), a = nI k → k_node z a w = k_nodeT z k w → ∀ (H : Heap) (locs : List Loc) (ls : Array Slot), va_P D vwCl (k_w cI cZ kd z) H → va_D A (k_w cI cZ kd z) → va_S A s.heap H locs → lv_has ls 5 [(4, .int (nI 0)), (3, .int 0), (0, .ref (kd 0)), (1, .int (nI k)), (2, .int w)] → W p l e { frames := 1, cells := 0, slots := 0, locals := 22 } s m [.ref (kd 0), .int a, .int w].toArray below meth c H locs 0 0 (MQ below (x_Q (some (.int (k_node z a w))) D (k_w cI cZ kd z) A) [.ref (kd 0), .int a, .int w].toArray s 0 0 A) (F0 m 16 ls []) := by
    intro k hk ek hG
    have lp : ∀ (n i : Nat) (q : Int32) (H : Heap) (locs : List Loc) (ls : Array Slot), i + n = 32 → k_hasL z k 32 0 0 = k_hasL z k n i q → va_P D vwCl (k_w cI cZ kd z) H → va_D A (k_w cI cZ kd z) → va_S A s.heap H locs → lv_has ls 5 [(4, .int (nI i)), (3, .int q), (0, .ref (kd 0)), (1, .int (nI k)), (2, .int w)] → W p l e { frames := 1, cells := 0, slots := 0, locals := 22 } s m [.ref (kd 0), .int a, .int w].toArray below meth c H locs 0 0 (MQ below (x_Q (some (.int (k_node z a w))) D (k_w cI cZ kd z) A) [.ref (kd 0), .int a, .int w].toArray s 0 0 A) (F0 m 16 ls []) := by
      intro n
      induction n with
      | zero =>
        intro i q H locs ls hn hI hP hD hS hl
        have hI : k_hasL z k 32 0 0 = q := hI
        refine lv_iload hx hb d_K_node_16 (lv_at hl 0 rfl) ?_
        refine lv_bipush (v := 32) hx hb d_K_node_18 (by decide) ?_
        refine lv_icmp_ge (tgt := 52) hx hb d_K_node_20 (by decide) (fun c1 => ?_) (fun c1 => ?_)
        · refine lv_iload_n hx hb d_K_node_52 rfl (lv_at hl 4 rfl) ?_
          rcases x_sw 8 w with hsw | ⟨jj, hjj, ejj⟩
          · refine lv_tableOut (tgt := 182) hx hb d_K_node_53 hsw (by decide) ?_
            have hne0 : ¬ w = 0 := by rintro rfl; revert hsw; decide
            have hne1 : ¬ w = 1 := by rintro rfl; revert hsw; decide
            have hne2 : ¬ w = 2 := by rintro rfl; revert hsw; decide
            have hne3 : ¬ w = 3 := by rintro rfl; revert hsw; decide
            have hne4 : ¬ w = 4 := by rintro rfl; revert hsw; decide
            have hne5 : ¬ w = 5 := by rintro rfl; revert hsw; decide
            have hne6 : ¬ w = 6 := by rintro rfl; revert hsw; decide
            have hne7 : ¬ w = 7 := by rintro rfl; revert hsw; decide
            refine lv_iconst (v := (-1)) hx hb d_K_node_182 (by decide) ?_
            exact x_rp (by rw [hG]; first | (simp only [k_nodeT, hI, if_neg hne0, if_neg hne1, if_neg hne2, if_neg hne3, if_neg hne4, if_neg hne5, if_neg hne6, if_neg hne7]; done) | (simp only [k_nodeT, hI, if_neg hne0, if_neg hne1, if_neg hne2, if_neg hne3, if_neg hne4, if_neg hne5, if_neg hne6, if_neg hne7]; with_reducible rfl)) hx hb hr hlk hP hD hS d_K_node_183
          · subst ejj
            match jj, hjj with
            | 0, _ =>
              refine lv_tableIn (off := 47) (tgt := 100) hx hb d_K_node_53 (by decide) (by decide) rfl (by decide) ?_
              refine lv_aload_n hx hb d_K_node_100 rfl (lv_at hl 2 rfl) ?_
              refine va_get (D := D) (ci := 5) (C := R_K) (T := T_K) (N := 21) hx hb hts in_K hown hK hP 0 k_h0 rfl 4 (by decide) (hts _ gm_404) (fun _ h9 => h9) rfl d_K_node_101 ?_
              refine lv_iload_n hx hb d_K_node_104 rfl (lv_at hl 3 rfl) ?_
              refine va_zald (D := D) hx hb hK hP 4 1 k_h4 rfl (x_in2 hk) d_K_node_105 ?_
              refine x_top (k_col_at hk) ?_
              refine lv_if_eq (tgt := 113) hx hb d_K_node_106 (by decide) (fun c2 => ?_) (fun c2 => ?_)
              · refine lv_iconst (v := 1) hx hb d_K_node_113 (by decide) ?_
                exact x_rp (by rw [hG]; first | (simp only [k_nodeT, hI, if_pos (by decide : nI 0 = 0), if_pos c2]; done) | (simp only [k_nodeT, hI, if_pos (by decide : nI 0 = 0), if_pos c2]; with_reducible rfl)) hx hb hr hlk hP hD hS d_K_node_114
              · refine lv_iconst (v := 0) hx hb d_K_node_109 (by decide) ?_
                refine lv_goto (tgt := 114) hx hb d_K_node_110 (by decide) ?_
                exact x_rp (by rw [hG]; first | (simp only [k_nodeT, hI, if_pos (by decide : nI 0 = 0), if_neg c2]; done) | (simp only [k_nodeT, hI, if_pos (by decide : nI 0 = 0), if_neg c2]; with_reducible rfl)) hx hb hr hlk hP hD hS d_K_node_114
            | 1, _ =>
              refine lv_tableIn (off := 62) (tgt := 115) hx hb d_K_node_53 (by decide) (by decide) rfl (by decide) ?_
              refine lv_aload_n hx hb d_K_node_115 rfl (lv_at hl 2 rfl) ?_
              refine va_get (D := D) (ci := 5) (C := R_K) (T := T_K) (N := 21) hx hb hts in_K hown hK hP 0 k_h0 rfl 10 (by decide) (hts _ gm_410) (fun _ h9 => h9) rfl d_K_node_116 ?_
              refine lv_iload_n hx hb d_K_node_119 rfl (lv_at hl 3 rfl) ?_
              refine lv_icmp_ne (tgt := 127) hx hb d_K_node_120 (by decide) (fun c3 => ?_) (fun c3 => ?_)
              · refine lv_iconst (v := 0) hx hb d_K_node_127 (by decide) ?_
                exact x_rp (by rw [hG]; first | (simp only [k_nodeT, hI, if_neg (by decide : ¬ nI 1 = 0), if_pos (by decide : nI 1 = 1), if_neg c3]; done) | (simp only [k_nodeT, hI, if_neg (by decide : ¬ nI 1 = 0), if_pos (by decide : nI 1 = 1), if_neg c3]; with_reducible rfl)) hx hb hr hlk hP hD hS d_K_node_128
              · refine lv_iconst (v := 1) hx hb d_K_node_123 (by decide) ?_
                refine lv_goto (tgt := 128) hx hb d_K_node_124 (by decide) ?_
                exact x_rp (by rw [hG]; first | (simp only [k_nodeT, hI, if_neg (by decide : ¬ nI 1 = 0), if_pos (by decide : nI 1 = 1), if_pos c3]; done) | (simp only [k_nodeT, hI, if_neg (by decide : ¬ nI 1 = 0), if_pos (by decide : nI 1 = 1), if_pos c3]; with_reducible rfl)) hx hb hr hlk hP hD hS d_K_node_128
            | 2, _ =>
              refine lv_tableIn (off := 76) (tgt := 129) hx hb d_K_node_53 (by decide) (by decide) rfl (by decide) ?_
              refine lv_aload_n hx hb d_K_node_129 rfl (lv_at hl 2 rfl) ?_
              refine va_get (D := D) (ci := 5) (C := R_K) (T := T_K) (N := 21) hx hb hts in_K hown hK hP 0 k_h0 rfl 7 (by decide) (hts _ gm_407) (fun _ h9 => h9) rfl d_K_node_130 ?_
              refine lv_iload_n hx hb d_K_node_133 rfl (lv_at hl 3 rfl) ?_
              refine va_iald (D := D) hx hb hK hP 7 0 k_h7 rfl (x_in2 hk) d_K_node_134 ?_
              refine x_top (k_col_at hk) ?_
              exact x_rp (by rw [hG]; first | (simp only [k_nodeT, hI, if_neg (by decide : ¬ nI 2 = 0), if_neg (by decide : ¬ nI 2 = 1), if_pos (by decide : nI 2 = 2)]; done) | (simp only [k_nodeT, hI, if_neg (by decide : ¬ nI 2 = 0), if_neg (by decide : ¬ nI 2 = 1), if_pos (by decide : nI 2 = 2)]; with_reducible rfl)) hx hb hr hlk hP hD hS d_K_node_135
            | 3, _ =>
              refine lv_tableIn (off := 83) (tgt := 136) hx hb d_K_node_53 (by decide) (by decide) rfl (by decide) ?_
              refine lv_aload_n hx hb d_K_node_136 rfl (lv_at hl 2 rfl) ?_
              refine va_get (D := D) (ci := 5) (C := R_K) (T := T_K) (N := 21) hx hb hts in_K hown hK hP 0 k_h0 rfl 8 (by decide) (hts _ gm_408) (fun _ h9 => h9) rfl d_K_node_137 ?_
              refine lv_iload_n hx hb d_K_node_140 rfl (lv_at hl 3 rfl) ?_
              refine va_iald (D := D) hx hb hK hP 8 0 k_h8 rfl (x_in2 hk) d_K_node_141 ?_
              refine x_top (k_col_at hk) ?_
              exact x_rp (by rw [hG]; first | (simp only [k_nodeT, hI, if_neg (by decide : ¬ nI 3 = 0), if_neg (by decide : ¬ nI 3 = 1), if_neg (by decide : ¬ nI 3 = 2), if_pos (by decide : nI 3 = 3)]; done) | (simp only [k_nodeT, hI, if_neg (by decide : ¬ nI 3 = 0), if_neg (by decide : ¬ nI 3 = 1), if_neg (by decide : ¬ nI 3 = 2), if_pos (by decide : nI 3 = 3)]; with_reducible rfl)) hx hb hr hlk hP hD hS d_K_node_142
            | 4, _ =>
              refine lv_tableIn (off := 90) (tgt := 143) hx hb d_K_node_53 (by decide) (by decide) rfl (by decide) ?_
              refine lv_aload_n hx hb d_K_node_143 rfl (lv_at hl 2 rfl) ?_
              refine va_get (D := D) (ci := 5) (C := R_K) (T := T_K) (N := 21) hx hb hts in_K hown hK hP 0 k_h0 rfl 5 (by decide) (hts _ gm_405) (fun _ h9 => h9) rfl d_K_node_144 ?_
              refine lv_iload_n hx hb d_K_node_147 rfl (lv_at hl 3 rfl) ?_
              refine va_zald (D := D) hx hb hK hP 5 1 k_h5 rfl (x_in2 hk) d_K_node_148 ?_
              refine x_top (k_col_at hk) ?_
              refine lv_if_eq (tgt := 156) hx hb d_K_node_149 (by decide) (fun c4 => ?_) (fun c4 => ?_)
              · refine lv_iconst (v := 0) hx hb d_K_node_156 (by decide) ?_
                exact x_rp (by rw [hG]; first | (simp only [k_nodeT, hI, if_neg (by decide : ¬ nI 4 = 0), if_neg (by decide : ¬ nI 4 = 1), if_neg (by decide : ¬ nI 4 = 2), if_neg (by decide : ¬ nI 4 = 3), if_pos (by decide : nI 4 = 4), if_pos c4]; done) | (simp only [k_nodeT, hI, if_neg (by decide : ¬ nI 4 = 0), if_neg (by decide : ¬ nI 4 = 1), if_neg (by decide : ¬ nI 4 = 2), if_neg (by decide : ¬ nI 4 = 3), if_pos (by decide : nI 4 = 4), if_pos c4]; with_reducible rfl)) hx hb hr hlk hP hD hS d_K_node_157
              · refine lv_iconst (v := 1) hx hb d_K_node_152 (by decide) ?_
                refine lv_goto (tgt := 157) hx hb d_K_node_153 (by decide) ?_
                exact x_rp (by rw [hG]; first | (simp only [k_nodeT, hI, if_neg (by decide : ¬ nI 4 = 0), if_neg (by decide : ¬ nI 4 = 1), if_neg (by decide : ¬ nI 4 = 2), if_neg (by decide : ¬ nI 4 = 3), if_pos (by decide : nI 4 = 4), if_neg c4]; done) | (simp only [k_nodeT, hI, if_neg (by decide : ¬ nI 4 = 0), if_neg (by decide : ¬ nI 4 = 1), if_neg (by decide : ¬ nI 4 = 2), if_neg (by decide : ¬ nI 4 = 3), if_pos (by decide : nI 4 = 4), if_neg c4]; with_reducible rfl)) hx hb hr hlk hP hD hS d_K_node_157
            | 5, _ =>
              refine lv_tableIn (off := 105) (tgt := 158) hx hb d_K_node_53 (by decide) (by decide) rfl (by decide) ?_
              refine lv_aload_n hx hb d_K_node_158 rfl (lv_at hl 2 rfl) ?_
              refine va_get (D := D) (ci := 5) (C := R_K) (T := T_K) (N := 21) hx hb hts in_K hown hK hP 0 k_h0 rfl 9 (by decide) (hts _ gm_409) (fun _ h9 => h9) rfl d_K_node_159 ?_
              refine lv_iload_n hx hb d_K_node_162 rfl (lv_at hl 3 rfl) ?_
              refine va_iald (D := D) hx hb hK hP 9 0 k_h9 rfl (x_in2 hk) d_K_node_163 ?_
              refine x_top (k_col_at hk) ?_
              exact x_rp (by rw [hG]; first | (simp only [k_nodeT, hI, if_neg (by decide : ¬ nI 5 = 0), if_neg (by decide : ¬ nI 5 = 1), if_neg (by decide : ¬ nI 5 = 2), if_neg (by decide : ¬ nI 5 = 3), if_neg (by decide : ¬ nI 5 = 4), if_pos (by decide : nI 5 = 5)]; done) | (simp only [k_nodeT, hI, if_neg (by decide : ¬ nI 5 = 0), if_neg (by decide : ¬ nI 5 = 1), if_neg (by decide : ¬ nI 5 = 2), if_neg (by decide : ¬ nI 5 = 3), if_neg (by decide : ¬ nI 5 = 4), if_pos (by decide : nI 5 = 5)]; with_reducible rfl)) hx hb hr hlk hP hD hS d_K_node_164
            | 6, _ =>
              refine lv_tableIn (off := 112) (tgt := 165) hx hb d_K_node_53 (by decide) (by decide) rfl (by decide) ?_
              refine lv_iload_n hx hb d_K_node_165 rfl (lv_at hl 1 rfl) ?_
              exact x_rp (by rw [hG]; first | (simp only [k_nodeT, hI, if_neg (by decide : ¬ nI 6 = 0), if_neg (by decide : ¬ nI 6 = 1), if_neg (by decide : ¬ nI 6 = 2), if_neg (by decide : ¬ nI 6 = 3), if_neg (by decide : ¬ nI 6 = 4), if_neg (by decide : ¬ nI 6 = 5), if_pos (by decide : nI 6 = 6)]; done) | (simp only [k_nodeT, hI, if_neg (by decide : ¬ nI 6 = 0), if_neg (by decide : ¬ nI 6 = 1), if_neg (by decide : ¬ nI 6 = 2), if_neg (by decide : ¬ nI 6 = 3), if_neg (by decide : ¬ nI 6 = 4), if_neg (by decide : ¬ nI 6 = 5), if_pos (by decide : nI 6 = 6)]; with_reducible rfl)) hx hb hr hlk hP hD hS d_K_node_166
            | 7, _ =>
              refine lv_tableIn (off := 114) (tgt := 167) hx hb d_K_node_53 (by decide) (by decide) rfl (by decide) ?_
              refine lv_aload_n hx hb d_K_node_167 rfl (lv_at hl 2 rfl) ?_
              refine va_get (D := D) (ci := 5) (C := R_K) (T := T_K) (N := 21) hx hb hts in_K hown hK hP 0 k_h0 rfl 6 (by decide) (hts _ gm_406) (fun _ h9 => h9) rfl d_K_node_168 ?_
              refine lv_iload_n hx hb d_K_node_171 rfl (lv_at hl 3 rfl) ?_
              refine va_zald (D := D) hx hb hK hP 6 1 k_h6 rfl (x_in2 hk) d_K_node_172 ?_
              refine x_top (k_col_at hk) ?_
              refine lv_if_eq (tgt := 180) hx hb d_K_node_173 (by decide) (fun c5 => ?_) (fun c5 => ?_)
              · refine lv_iconst (v := 1) hx hb d_K_node_180 (by decide) ?_
                exact x_rp (by rw [hG]; first | (simp only [k_nodeT, hI, if_neg (by decide : ¬ nI 7 = 0), if_neg (by decide : ¬ nI 7 = 1), if_neg (by decide : ¬ nI 7 = 2), if_neg (by decide : ¬ nI 7 = 3), if_neg (by decide : ¬ nI 7 = 4), if_neg (by decide : ¬ nI 7 = 5), if_neg (by decide : ¬ nI 7 = 6), if_pos (by decide : nI 7 = 7), if_pos c5]; done) | (simp only [k_nodeT, hI, if_neg (by decide : ¬ nI 7 = 0), if_neg (by decide : ¬ nI 7 = 1), if_neg (by decide : ¬ nI 7 = 2), if_neg (by decide : ¬ nI 7 = 3), if_neg (by decide : ¬ nI 7 = 4), if_neg (by decide : ¬ nI 7 = 5), if_neg (by decide : ¬ nI 7 = 6), if_pos (by decide : nI 7 = 7), if_pos c5]; with_reducible rfl)) hx hb hr hlk hP hD hS d_K_node_181
              · refine lv_iconst (v := 0) hx hb d_K_node_176 (by decide) ?_
                refine lv_goto (tgt := 181) hx hb d_K_node_177 (by decide) ?_
                exact x_rp (by rw [hG]; first | (simp only [k_nodeT, hI, if_neg (by decide : ¬ nI 7 = 0), if_neg (by decide : ¬ nI 7 = 1), if_neg (by decide : ¬ nI 7 = 2), if_neg (by decide : ¬ nI 7 = 3), if_neg (by decide : ¬ nI 7 = 4), if_neg (by decide : ¬ nI 7 = 5), if_neg (by decide : ¬ nI 7 = 6), if_pos (by decide : nI 7 = 7), if_neg c5]; done) | (simp only [k_nodeT, hI, if_neg (by decide : ¬ nI 7 = 0), if_neg (by decide : ¬ nI 7 = 1), if_neg (by decide : ¬ nI 7 = 2), if_neg (by decide : ¬ nI 7 = 3), if_neg (by decide : ¬ nI 7 = 4), if_neg (by decide : ¬ nI 7 = 5), if_neg (by decide : ¬ nI 7 = 6), if_pos (by decide : nI 7 = 7), if_neg c5]; with_reducible rfl)) hx hb hr hlk hP hD hS d_K_node_181
            | jj + 8, h => exact absurd h (by omega)
        · exact absurd (show (32 : Int32) ≤ nI i from nI_le (a := 32) (by omega) (by omega)) c1
      | succ n ih =>
        intro i q H locs ls hn hI hP hD hS hl
        have hi : i < 32 := by omega
        refine lv_iload hx hb d_K_node_16 (lv_at hl 0 rfl) ?_
        refine lv_bipush (v := 32) hx hb d_K_node_18 (by decide) ?_
        refine lv_icmp_ge (tgt := 52) hx hb d_K_node_20 (by decide) (fun c6 => ?_) (fun c6 => ?_)
        · exact absurd c6 (show ¬ (32 : Int32) ≤ nI i from nI_ge (b := 32) (by omega) (by decide))
        · refine lv_iload_n hx hb d_K_node_23 rfl (lv_at hl 1 rfl) ?_
          refine lv_aload_n hx hb d_K_node_24 rfl (lv_at hl 2 rfl) ?_
          refine va_get (D := D) (ci := 5) (C := R_K) (T := T_K) (N := 21) hx hb hts in_K hown hK hP 0 k_h0 rfl 3 (by decide) (hts _ gm_403) (fun _ h9 => h9) rfl d_K_node_25 ?_
          refine lv_iload_n hx hb d_K_node_28 rfl (lv_at hl 3 rfl) ?_
          refine lv_bipush (v := 32) hx hb d_K_node_29 (by decide) ?_
          refine lv_imul hx hb d_K_node_31 ?_
          refine lv_iload hx hb d_K_node_32 (lv_at hl 0 rfl) ?_
          refine lv_iadd hx hb d_K_node_34 ?_
          refine x_top (show ((nI k) * 32) + (nI i) = nI (32 * k + i) from k_ix) ?_
          refine va_zald (D := D) hx hb hK hP 3 1 k_h3 rfl (k_in64 hk hi) d_K_node_35 ?_
          refine x_top (k_b_at hk hi) ?_
          refine lv_if_eq (tgt := 43) hx hb d_K_node_36 (by decide) (fun c7 => ?_) (fun c7 => ?_)
          · refine lv_iconst (v := 0) hx hb d_K_node_43 (by decide) ?_
            refine lv_iadd hx hb d_K_node_44 ?_
            refine lv_istore_n (lv' := [(3, .int (q + 0)), (4, .int (nI i)), (0, .ref (kd 0)), (1, .int (nI k)), (2, .int w)]) hx hb d_K_node_45 rfl hl (by decide) rfl (fun ls hl => ?_)
            refine lv_iinc (v := nI (i + 1)) (lv' := [(4, .int (nI (i + 1))), (3, .int (q + 0)), (0, .ref (kd 0)), (1, .int (nI k)), (2, .int w)]) hx hb d_K_node_46 hl (k := 1) rfl (nI_1 _) (by decide) rfl (fun ls hl => ?_)
            refine lv_goto (tgt := 16) hx hb d_K_node_49 (by decide) ?_
            exact ih (i + 1) (q + 0) H locs ls (by omega) (by rw [hI]; simp only [k_hasL, if_pos c7]) hP hD hS (lv_sub hl [0, 1, 2, 3, 4] rfl)
          · refine lv_iconst (v := 1) hx hb d_K_node_39 (by decide) ?_
            refine lv_goto (tgt := 44) hx hb d_K_node_40 (by decide) ?_
            refine lv_iadd hx hb d_K_node_44 ?_
            refine lv_istore_n (lv' := [(3, .int (q + 1)), (4, .int (nI i)), (0, .ref (kd 0)), (1, .int (nI k)), (2, .int w)]) hx hb d_K_node_45 rfl hl (by decide) rfl (fun ls hl => ?_)
            refine lv_iinc (v := nI (i + 1)) (lv' := [(4, .int (nI (i + 1))), (3, .int (q + 1)), (0, .ref (kd 0)), (1, .int (nI k)), (2, .int w)]) hx hb d_K_node_46 hl (k := 1) rfl (nI_1 _) (by decide) rfl (fun ls hl => ?_)
            refine lv_goto (tgt := 16) hx hb d_K_node_49 (by decide) ?_
            exact ih (i + 1) (q + 1) H locs ls (by omega) (by rw [hI]; simp only [k_hasL, if_neg c7]) hP hD hS (lv_sub hl [0, 1, 2, 3, 4] rfl)
    intro H locs ls hP hD hS hl
    exact lp 32 0 0 H locs ls rfl rfl hP hD hS hl
  refine lv_aload_n hx hb d_K_node_0 rfl (lv_at hl 0 rfl) ?_
  refine lv_iload_n hx hb d_K_node_1 rfl (lv_at hl 1 rfl) ?_
  refine lv_iconst (v := 2) hx hb d_K_node_2 (by decide) ?_
  refine x_V (rest := []) ⟨hx, hb, hml, hown, hts⟩ (c_K_out_ok l D cI cZ kd z a 2) gm_469 gm_471 gm_15 gm_34 gm_472 ⟨rfl, rfl⟩ hd_K_out ⟨Nat.le_of_ble_eq_true rfl, Nat.le_of_ble_eq_true rfl⟩ hK hP hD hS hA (va_recv hK hP (ci := 5) (q0 := 0) rfl k_h0) rfl hl.1 rfl (Nat.le_of_ble_eq_true rfl) d_K_node_3 ⟨Nat.le_of_ble_eq_true rfl, Nat.le_of_ble_eq_true rfl⟩ (fun H locs hP hD hS => ?_)
  refine lv_topi (fun r8 er8 => ?_)
  refine lv_if_eq (tgt := 11) hx hb d_K_node_6 (by decide) (fun c9 => ?_) (fun c9 => ?_)
  · obtain ⟨k, hk, ek⟩ := k_out2 (v := a) (by rw [← er8]; exact c9)
    subst ek
    refine lv_iconst (v := 0) hx hb d_K_node_11 (by decide) ?_
    refine lv_istore_n (lv' := [(3, .int 0), (0, .ref (kd 0)), (1, .int (nI k)), (2, .int w)]) hx hb d_K_node_12 rfl hl (by decide) rfl (fun ls hl => ?_)
    refine lv_iconst (v := 0) hx hb d_K_node_13 (by decide) ?_
    refine lv_istore (lv' := [(4, .int 0), (3, .int 0), (0, .ref (kd 0)), (1, .int (nI k)), (2, .int w)]) hx hb d_K_node_14 hl (by decide) rfl (fun ls hl => ?_)
    exact lpo k hk rfl (by subst er8; simp only [k_node, if_pos c9, x_cl hk]) _ _ ls hP hD hS (lv_sub hl [0, 1, 2, 3, 4] rfl)
  · refine lv_iconst (v := (-1)) hx hb d_K_node_9 (by decide) ?_
    exact x_rp (by subst er8; first | (simp only [k_node, if_neg c9]; done) | (with_reducible rfl) | (simp only [k_node, if_neg c9]; with_reducible rfl)) hx hb hr hlk hP hD hS d_K_node_10
end
