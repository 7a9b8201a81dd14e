section
/-! names of the classes and constructors that the walk meets (rows of the task's own list of names) -/
def RX1 : String := "Splitpointer$Hashing"
def TX1 : u_T := fun k => match k with
  | 0 => ("Splitpointer$Hashing", "choice", "I", false)
  | _ => ("Splitpointer$Hashing", "seed", "I", false)
def tyX1 : Nat → FieldType := fun k => match k with
  | 0 => .int
  | _ => .int
abbrev wsX10 : List Cond := u_ws RX1 TX1 2
theorem nmX1 : ∀ a, a < 2 → ∀ b, b < 2 → a ≠ b → (TX1 a).2.1 ≠ (TX1 b).2.1 := by decide +kernel
theorem tyX1_ok : ∀ k, k < 2 → parseFieldDescriptor (TX1 k).2.2.1 = some (tyX1 k) := by decide +kernel
abbrev cX1_init : ByteArray := prog_3_method_1_code
def yX1_init : MethodName := ⟨RX1, "<init>", "()V"⟩
def RX2 : String := "Splitpointer$Pages"
def TX2 : u_T := fun k => match k with
  | 0 => ("Splitpointer$Pages", "keys", "LSplitpointer$Row;", true)
  | 1 => ("Splitpointer$Pages", "values", "LSplitpointer$Row;", true)
  | 2 => ("Splitpointer$Pages", "sizes", "LSplitpointer$Row;", true)
  | 3 => ("Splitpointer$Pages", "owners", "LSplitpointer$Row;", true)
  | _ => ("Splitpointer$Pages", "behinds", "LSplitpointer$Row;", true)
def tyX2 : Nat → FieldType := fun k => match k with
  | 0 => .object "Splitpointer$Row"
  | 1 => .object "Splitpointer$Row"
  | 2 => .object "Splitpointer$Row"
  | 3 => .object "Splitpointer$Row"
  | _ => .object "Splitpointer$Row"
abbrev wsX20 : List Cond := u_ws RX2 TX2 5
theorem nmX2 : ∀ a, a < 5 → ∀ b, b < 5 → a ≠ b → (TX2 a).2.1 ≠ (TX2 b).2.1 := by decide +kernel
theorem tyX2_ok : ∀ k, k < 5 → parseFieldDescriptor (TX2 k).2.2.1 = some (tyX2 k) := by decide +kernel
abbrev cX2_init : ByteArray := prog_4_method_1_code
def yX2_init : MethodName := ⟨RX2, "<init>", "()V"⟩
def RX3 : String := "Splitpointer$Row"
def TX3 : u_T := fun k => match k with
  | _ => ("Splitpointer$Row", "cells", "[I", true)
def tyX3 : Nat → FieldType := fun k => match k with
  | _ => .array .int
abbrev wsX30 : List Cond := u_ws RX3 TX3 1
theorem nmX3 : ∀ a, a < 1 → ∀ b, b < 1 → a ≠ b → (TX3 a).2.1 ≠ (TX3 b).2.1 := by decide +kernel
theorem tyX3_ok : ∀ k, k < 1 → parseFieldDescriptor (TX3 k).2.2.1 = some (tyX3 k) := by decide +kernel
abbrev cX3_init : ByteArray := prog_5_method_1_code
def yX3_init : MethodName := ⟨RX3, "<init>", "(I)V"⟩
def RX4 : String := "Splitpointer$Shape"
def TX4 : u_T := fun k => match k with
  | 0 => ("Splitpointer$Shape", "level", "I", false)
  | _ => ("Splitpointer$Shape", "pointer", "I", false)
def tyX4 : Nat → FieldType := fun k => match k with
  | 0 => .int
  | _ => .int
abbrev wsX40 : List Cond := u_ws RX4 TX4 2
theorem nmX4 : ∀ a, a < 2 → ∀ b, b < 2 → a ≠ b → (TX4 a).2.1 ≠ (TX4 b).2.1 := by decide +kernel
theorem tyX4_ok : ∀ k, k < 2 → parseFieldDescriptor (TX4 k).2.2.1 = some (tyX4 k) := by decide +kernel
abbrev cX4_init : ByteArray := prog_6_method_1_code
def yX4_init : MethodName := ⟨RX4, "<init>", "()V"⟩
def RX5 : String := "Splitpointer$TableFile"
def TX5 : u_T := fun k => match k with
  | 0 => ("Splitpointer$TableFile", "hashing", "LSplitpointer$Hashing;", true)
  | 1 => ("Splitpointer$TableFile", "shape", "LSplitpointer$Shape;", true)
  | 2 => ("Splitpointer$TableFile", "pages", "LSplitpointer$Pages;", true)
  | 3 => ("Splitpointer$TableFile", "firsts", "LSplitpointer$Row;", true)
  | 4 => ("Splitpointer$TableFile", "lasts", "LSplitpointer$Row;", true)
  | 5 => ("Splitpointer$TableFile", "filters", "LSplitpointer$Row;", true)
  | 6 => ("Splitpointer$TableFile", "moved", "LSplitpointer$Bundle;", true)
  | 7 => ("Splitpointer$TableFile", "all", "LSplitpointer$Bundle;", true)
  | 8 => ("Splitpointer$TableFile", "cap", "I", false)
  | 9 => ("Splitpointer$TableFile", "lower", "I", false)
  | 10 => ("Splitpointer$TableFile", "upper", "I", false)
  | 11 => ("Splitpointer$TableFile", "records", "I", false)
  | 12 => ("Splitpointer$TableFile", "splits", "I", false)
  | _ => ("Splitpointer$TableFile", "merges", "I", false)
def tyX5 : Nat → FieldType := fun k => match k with
  | 0 => .object "Splitpointer$Hashing"
  | 1 => .object "Splitpointer$Shape"
  | 2 => .object "Splitpointer$Pages"
  | 3 => .object "Splitpointer$Row"
  | 4 => .object "Splitpointer$Row"
  | 5 => .object "Splitpointer$Row"
  | 6 => .object "Splitpointer$Bundle"
  | 7 => .object "Splitpointer$Bundle"
  | 8 => .int
  | 9 => .int
  | 10 => .int
  | 11 => .int
  | 12 => .int
  | _ => .int
abbrev wsX50 : List Cond := u_ws RX5 TX5 14
theorem nmX5 : ∀ a, a < 14 → ∀ b, b < 14 → a ≠ b → (TX5 a).2.1 ≠ (TX5 b).2.1 := by decide +kernel
theorem tyX5_ok : ∀ k, k < 14 → parseFieldDescriptor (TX5 k).2.2.1 = some (tyX5 k) := by decide +kernel
abbrev cX5_init : ByteArray := prog_7_method_1_code
def yX5_init : MethodName := ⟨RX5, "<init>", "()V"⟩
def RX6 : String := "Splitpointer"
abbrev cX6_init : ByteArray := prog_1_method_1_code
def yX6_init : MethodName := ⟨RX6, "<init>", "()V"⟩
theorem dX1_init_0 : decode cX1_init 0 = .ok (.aload_n 0, 1) := by decide +kernel
theorem dX1_init_1 : decode cX1_init 1 = .ok (.invokespecial 3, 3) := by decide +kernel
theorem dX1_init_4 : decode cX1_init 4 = .ok (.return_, 1) := by decide +kernel
theorem dX2_init_0 : decode cX2_init 0 = .ok (.aload_n 0, 1) := by decide +kernel
theorem dX2_init_1 : decode cX2_init 1 = .ok (.invokespecial 3, 3) := by decide +kernel
theorem dX2_init_4 : decode cX2_init 4 = .ok (.aload_n 0, 1) := by decide +kernel
theorem dX2_init_5 : decode cX2_init 5 = .ok (.new 9, 3) := by decide +kernel
theorem dX2_init_8 : decode cX2_init 8 = .ok (.dup, 1) := by decide +kernel
theorem dX2_init_9 : decode cX2_init 9 = .ok (.sipush 384, 3) := by decide +kernel
theorem dX2_init_12 : decode cX2_init 12 = .ok (.invokespecial 11, 3) := by decide +kernel
theorem dX2_init_15 : decode cX2_init 15 = .ok (.putfield 14, 3) := by decide +kernel
theorem dX2_init_18 : decode cX2_init 18 = .ok (.aload_n 0, 1) := by decide +kernel
theorem dX2_init_19 : decode cX2_init 19 = .ok (.new 9, 3) := by decide +kernel
theorem dX2_init_22 : decode cX2_init 22 = .ok (.dup, 1) := by decide +kernel
theorem dX2_init_23 : decode cX2_init 23 = .ok (.sipush 384, 3) := by decide +kernel
theorem dX2_init_26 : decode cX2_init 26 = .ok (.invokespecial 11, 3) := by decide +kernel
theorem dX2_init_29 : decode cX2_init 29 = .ok (.putfield 20, 3) := by decide +kernel
theorem dX2_init_32 : decode cX2_init 32 = .ok (.aload_n 0, 1) := by decide +kernel
theorem dX2_init_33 : decode cX2_init 33 = .ok (.new 9, 3) := by decide +kernel
theorem dX2_init_36 : decode cX2_init 36 = .ok (.dup, 1) := by decide +kernel
theorem dX2_init_37 : decode cX2_init 37 = .ok (.bipush 96, 2) := by decide +kernel
theorem dX2_init_39 : decode cX2_init 39 = .ok (.invokespecial 11, 3) := by decide +kernel
theorem dX2_init_42 : decode cX2_init 42 = .ok (.putfield 23, 3) := by decide +kernel
theorem dX2_init_45 : decode cX2_init 45 = .ok (.aload_n 0, 1) := by decide +kernel
theorem dX2_init_46 : decode cX2_init 46 = .ok (.new 9, 3) := by decide +kernel
theorem dX2_init_49 : decode cX2_init 49 = .ok (.dup, 1) := by decide +kernel
theorem dX2_init_50 : decode cX2_init 50 = .ok (.bipush 96, 2) := by decide +kernel
theorem dX2_init_52 : decode cX2_init 52 = .ok (.invokespecial 11, 3) := by decide +kernel
theorem dX2_init_55 : decode cX2_init 55 = .ok (.putfield 26, 3) := by decide +kernel
theorem dX2_init_58 : decode cX2_init 58 = .ok (.aload_n 0, 1) := by decide +kernel
theorem dX2_init_59 : decode cX2_init 59 = .ok (.new 9, 3) := by decide +kernel
theorem dX2_init_62 : decode cX2_init 62 = .ok (.dup, 1) := by decide +kernel
theorem dX2_init_63 : decode cX2_init 63 = .ok (.bipush 96, 2) := by decide +kernel
theorem dX2_init_65 : decode cX2_init 65 = .ok (.invokespecial 11, 3) := by decide +kernel
theorem dX2_init_68 : decode cX2_init 68 = .ok (.putfield 29, 3) := by decide +kernel
theorem dX2_init_71 : decode cX2_init 71 = .ok (.return_, 1) := by decide +kernel
theorem dX3_init_0 : decode cX3_init 0 = .ok (.aload_n 0, 1) := by decide +kernel
theorem dX3_init_1 : decode cX3_init 1 = .ok (.invokespecial 3, 3) := by decide +kernel
theorem dX3_init_4 : decode cX3_init 4 = .ok (.aload_n 0, 1) := by decide +kernel
theorem dX3_init_5 : decode cX3_init 5 = .ok (.iload_n 1, 1) := by decide +kernel
theorem dX3_init_6 : decode cX3_init 6 = .ok (.ifCond .le 7, 3) := by decide +kernel
theorem dX3_init_9 : decode cX3_init 9 = .ok (.iload_n 1, 1) := by decide +kernel
theorem dX3_init_10 : decode cX3_init 10 = .ok (.goto 4, 3) := by decide +kernel
theorem dX3_init_13 : decode cX3_init 13 = .ok (.iconst 0, 1) := by decide +kernel
theorem dX3_init_14 : decode cX3_init 14 = .ok (.newarray .int, 2) := by decide +kernel
theorem dX3_init_16 : decode cX3_init 16 = .ok (.putfield 9, 3) := by decide +kernel
theorem dX3_init_19 : decode cX3_init 19 = .ok (.return_, 1) := by decide +kernel
theorem dX4_init_0 : decode cX4_init 0 = .ok (.aload_n 0, 1) := by decide +kernel
theorem dX4_init_1 : decode cX4_init 1 = .ok (.invokespecial 3, 3) := by decide +kernel
theorem dX4_init_4 : decode cX4_init 4 = .ok (.return_, 1) := by decide +kernel
theorem dX5_init_0 : decode cX5_init 0 = .ok (.aload_n 0, 1) := by decide +kernel
theorem dX5_init_1 : decode cX5_init 1 = .ok (.invokespecial 3, 3) := by decide +kernel
theorem dX5_init_4 : decode cX5_init 4 = .ok (.aload_n 0, 1) := by decide +kernel
theorem dX5_init_5 : decode cX5_init 5 = .ok (.new 9, 3) := by decide +kernel
theorem dX5_init_8 : decode cX5_init 8 = .ok (.dup, 1) := by decide +kernel
theorem dX5_init_9 : decode cX5_init 9 = .ok (.invokespecial 11, 3) := by decide +kernel
theorem dX5_init_12 : decode cX5_init 12 = .ok (.putfield 12, 3) := by decide +kernel
theorem dX5_init_15 : decode cX5_init 15 = .ok (.aload_n 0, 1) := by decide +kernel
theorem dX5_init_16 : decode cX5_init 16 = .ok (.new 18, 3) := by decide +kernel
theorem dX5_init_19 : decode cX5_init 19 = .ok (.dup, 1) := by decide +kernel
theorem dX5_init_20 : decode cX5_init 20 = .ok (.invokespecial 20, 3) := by decide +kernel
theorem dX5_init_23 : decode cX5_init 23 = .ok (.putfield 21, 3) := by decide +kernel
theorem dX5_init_26 : decode cX5_init 26 = .ok (.aload_n 0, 1) := by decide +kernel
theorem dX5_init_27 : decode cX5_init 27 = .ok (.new 25, 3) := by decide +kernel
theorem dX5_init_30 : decode cX5_init 30 = .ok (.dup, 1) := by decide +kernel
theorem dX5_init_31 : decode cX5_init 31 = .ok (.invokespecial 27, 3) := by decide +kernel
theorem dX5_init_34 : decode cX5_init 34 = .ok (.putfield 28, 3) := by decide +kernel
theorem dX5_init_37 : decode cX5_init 37 = .ok (.aload_n 0, 1) := by decide +kernel
theorem dX5_init_38 : decode cX5_init 38 = .ok (.new 32, 3) := by decide +kernel
theorem dX5_init_41 : decode cX5_init 41 = .ok (.dup, 1) := by decide +kernel
theorem dX5_init_42 : decode cX5_init 42 = .ok (.bipush 64, 2) := by decide +kernel
theorem dX5_init_44 : decode cX5_init 44 = .ok (.invokespecial 34, 3) := by decide +kernel
theorem dX5_init_47 : decode cX5_init 47 = .ok (.putfield 37, 3) := by decide +kernel
theorem dX5_init_50 : decode cX5_init 50 = .ok (.aload_n 0, 1) := by decide +kernel
theorem dX5_init_51 : decode cX5_init 51 = .ok (.new 32, 3) := by decide +kernel
theorem dX5_init_54 : decode cX5_init 54 = .ok (.dup, 1) := by decide +kernel
theorem dX5_init_55 : decode cX5_init 55 = .ok (.bipush 64, 2) := by decide +kernel
theorem dX5_init_57 : decode cX5_init 57 = .ok (.invokespecial 34, 3) := by decide +kernel
theorem dX5_init_60 : decode cX5_init 60 = .ok (.putfield 41, 3) := by decide +kernel
theorem dX5_init_63 : decode cX5_init 63 = .ok (.aload_n 0, 1) := by decide +kernel
theorem dX5_init_64 : decode cX5_init 64 = .ok (.new 32, 3) := by decide +kernel
theorem dX5_init_67 : decode cX5_init 67 = .ok (.dup, 1) := by decide +kernel
theorem dX5_init_68 : decode cX5_init 68 = .ok (.bipush 64, 2) := by decide +kernel
theorem dX5_init_70 : decode cX5_init 70 = .ok (.invokespecial 34, 3) := by decide +kernel
theorem dX6_init_0 : decode cX6_init 0 = .ok (.aload_n 0, 1) := by decide +kernel
theorem dX6_init_1 : decode cX6_init 1 = .ok (.invokespecial 1, 3) := by decide +kernel
theorem dX6_init_4 : decode cX6_init 4 = .ok (.aload_n 0, 1) := by decide +kernel
theorem dX6_init_5 : decode cX6_init 5 = .ok (.new 7, 3) := by decide +kernel
theorem dX6_init_8 : decode cX6_init 8 = .ok (.dup, 1) := by decide +kernel
theorem dX6_init_9 : decode cX6_init 9 = .ok (.invokespecial 9, 3) := by decide +kernel
theorem dL_law_0 : decode code 0 = .ok (.new 9, 3) := by decide +kernel
theorem dL_law_3 : decode code 3 = .ok (.dup, 1) := by decide +kernel
theorem dL_law_4 : decode code 4 = .ok (.invokespecial 11, 3) := by decide +kernel
def rf_RL : String := "SplitpointerLaw"
/-- the good words of the tables -/
def rfT : List Cond := tables_1.filter goodWord
theorem rf_mem {w : Cond} {i : Nat} (h : tables_1[i]? = some w) (hg : goodWord w = true) : w ∈ rfT := List.mem_filter.mpr ⟨List.mem_of_getElem? h, hg⟩
theorem rf_in1 {w : Cond} (h : w ∈ rfT) : w ∈ tables_1 := (List.mem_filter.mp h).1
theorem rf_memR (ws : List Cond) (ps : List Nat) (hp : ws = ps.filterMap (fun i => tables_1[i]?)) (h : ws.all goodWord = true) : ∀ w ∈ ws, w ∈ rfT := by
  intro w hw
  have h1 := List.all_eq_true.mp h w hw
  rw [hp] at hw
  obtain ⟨i, -, hi⟩ := List.mem_filterMap.mp hw
  exact rf_mem hi h1
/-- a method's words: its own code, then all good words of the tables -/
def rfW (y : MethodName) (cc : ByteArray) (n : Nat) (ret : Option FieldType) : List Cond := Cond.code y cc n ret :: rfT
theorem rf_good {y : MethodName} {cc : ByteArray} {n : Nat} {ret : Option FieldType} (h : Cond.code y cc n ret ∈ rfT) : GoodIn rfT (rfW y cc n ret) := by
  intro w hw
  rcases List.mem_cons.mp hw with rfl | hw
  · exact ⟨h, good_of_word (List.mem_filter.mp h).2⟩
  · exact ⟨hw, good_of_word (List.mem_filter.mp hw).2⟩
theorem k_oi_i : (Cond.instanceMethod objectInit) ∈ rfT := rf_mem (i := 21) (by decide +kernel) (by decide +kernel)
theorem k_oi_c : (Cond.code objectInit ⟨#[0xb1]⟩ 1 none) ∈ rfT := rf_mem (i := 22) (by decide +kernel) (by decide +kernel)
theorem k_oi_X1 : (Cond.methodLink RX1 3 objectInit) ∈ rfT := rf_mem (i := 34) (by decide +kernel) (by decide +kernel)
theorem k_oi_X2 : (Cond.methodLink RX2 3 objectInit) ∈ rfT := rf_mem (i := 66) (by decide +kernel) (by decide +kernel)
theorem k_oi_X3 : (Cond.methodLink RX3 3 objectInit) ∈ rfT := rf_mem (i := 72) (by decide +kernel) (by decide +kernel)
theorem k_oi_X4 : (Cond.methodLink RX4 3 objectInit) ∈ rfT := rf_mem (i := 49) (by decide +kernel) (by decide +kernel)
theorem k_oi_X5 : (Cond.methodLink RX5 3 objectInit) ∈ rfT := rf_mem (i := 28) (by decide +kernel) (by decide +kernel)
theorem k_oi_X6 : (Cond.methodLink RX6 1 objectInit) ∈ rfT := rf_mem (i := 20) (by decide +kernel) (by decide +kernel)
theorem k_code_X1 : (Cond.code yX1_init cX1_init 1 none) ∈ rfT := rf_mem (i := 33) (by decide +kernel) (by decide +kernel)
theorem k_inst_X1 : (Cond.instanceMethod yX1_init) ∈ rfT := rf_mem (i := 32) (by decide +kernel) (by decide +kernel)
theorem k_able_X1 : (Cond.instantiable RX1 2) ∈ rfT := rf_mem (i := 30) (by decide +kernel) (by decide +kernel)
theorem k_ini_X1 : (Cond.initialized RX1) ∈ rfT := rf_mem (i := 3) (by decide +kernel) (by decide +kernel)
theorem k_code_X2 : (Cond.code yX2_init cX2_init 1 none) ∈ rfT := rf_mem (i := 65) (by decide +kernel) (by decide +kernel)
theorem k_inst_X2 : (Cond.instanceMethod yX2_init) ∈ rfT := rf_mem (i := 64) (by decide +kernel) (by decide +kernel)
theorem k_able_X2 : (Cond.instantiable RX2 5) ∈ rfT := rf_mem (i := 62) (by decide +kernel) (by decide +kernel)
theorem k_ini_X2 : (Cond.initialized RX2) ∈ rfT := rf_mem (i := 5) (by decide +kernel) (by decide +kernel)
theorem k_code_X3 : (Cond.code yX3_init cX3_init 2 none) ∈ rfT := rf_mem (i := 71) (by decide +kernel) (by decide +kernel)
theorem k_inst_X3 : (Cond.instanceMethod yX3_init) ∈ rfT := rf_mem (i := 70) (by decide +kernel) (by decide +kernel)
theorem k_able_X3 : (Cond.instantiable RX3 1) ∈ rfT := rf_mem (i := 68) (by decide +kernel) (by decide +kernel)
theorem k_ini_X3 : (Cond.initialized RX3) ∈ rfT := rf_mem (i := 6) (by decide +kernel) (by decide +kernel)
theorem k_code_X4 : (Cond.code yX4_init cX4_init 1 none) ∈ rfT := rf_mem (i := 48) (by decide +kernel) (by decide +kernel)
theorem k_inst_X4 : (Cond.instanceMethod yX4_init) ∈ rfT := rf_mem (i := 47) (by decide +kernel) (by decide +kernel)
theorem k_able_X4 : (Cond.instantiable RX4 2) ∈ rfT := rf_mem (i := 45) (by decide +kernel) (by decide +kernel)
theorem k_ini_X4 : (Cond.initialized RX4) ∈ rfT := rf_mem (i := 4) (by decide +kernel) (by decide +kernel)
theorem k_code_X5 : (Cond.code yX5_init cX5_init 1 none) ∈ rfT := rf_mem (i := 27) (by decide +kernel) (by decide +kernel)
theorem k_inst_X5 : (Cond.instanceMethod yX5_init) ∈ rfT := rf_mem (i := 26) (by decide +kernel) (by decide +kernel)
theorem k_able_X5 : (Cond.instantiable RX5 14) ∈ rfT := rf_mem (i := 24) (by decide +kernel) (by decide +kernel)
theorem k_ini_X5 : (Cond.initialized RX5) ∈ rfT := rf_mem (i := 2) (by decide +kernel) (by decide +kernel)
theorem k_code_X6 : (Cond.code yX6_init cX6_init 1 none) ∈ rfT := rf_mem (i := 19) (by decide +kernel) (by decide +kernel)
theorem k_inst_X6 : (Cond.instanceMethod yX6_init) ∈ rfT := rf_mem (i := 18) (by decide +kernel) (by decide +kernel)
theorem k_able_X6 : (Cond.instantiable RX6 16) ∈ rfT := rf_mem (i := 16) (by decide +kernel) (by decide +kernel)
theorem k_ini_X6 : (Cond.initialized RX6) ∈ rfT := rf_mem (i := 1) (by decide +kernel) (by decide +kernel)
theorem k_arr : (Cond.arrayClass .int) ∈ rfT := rf_mem (i := 77) (by decide +kernel) (by decide +kernel)
theorem k_cl_L_9 : (Cond.classLink rf_RL 9 RX6) ∈ rfT := rf_mem (i := 15) (by decide +kernel) (by decide +kernel)
theorem k_cl_X6_7 : (Cond.classLink RX6 7 RX5) ∈ rfT := rf_mem (i := 23) (by decide +kernel) (by decide +kernel)
theorem k_cl_X5_9 : (Cond.classLink RX5 9 RX1) ∈ rfT := rf_mem (i := 29) (by decide +kernel) (by decide +kernel)
theorem k_cl_X5_18 : (Cond.classLink RX5 18 RX4) ∈ rfT := rf_mem (i := 44) (by decide +kernel) (by decide +kernel)
theorem k_cl_X5_25 : (Cond.classLink RX5 25 RX2) ∈ rfT := rf_mem (i := 61) (by decide +kernel) (by decide +kernel)
theorem k_cl_X5_32 : (Cond.classLink RX5 32 RX3) ∈ rfT := rf_mem (i := 94) (by decide +kernel) (by decide +kernel)
theorem k_cl_X2_9 : (Cond.classLink RX2 9 RX3) ∈ rfT := rf_mem (i := 67) (by decide +kernel) (by decide +kernel)
theorem k_ml_L : (Cond.methodLink rf_RL 11 yX6_init) ∈ rfT := rf_mem (i := 17) (by decide +kernel) (by decide +kernel)
theorem k_ml_X2 : (Cond.methodLink RX2 11 yX3_init) ∈ rfT := rf_mem (i := 69) (by decide +kernel) (by decide +kernel)
theorem k_ml_X5 : (Cond.methodLink RX5 34 yX3_init) ∈ rfT := rf_mem (i := 95) (by decide +kernel) (by decide +kernel)
theorem k_nest_X6_9 : (Cond.methodLinkNest RX6 9 yX5_init "Splitpointer") ∈ tables_1 := List.mem_of_getElem? (i := 25) (by decide +kernel)
theorem k_nest_X5_11 : (Cond.methodLinkNest RX5 11 yX1_init "Splitpointer") ∈ tables_1 := List.mem_of_getElem? (i := 31) (by decide +kernel)
theorem k_nest_X5_20 : (Cond.methodLinkNest RX5 20 yX4_init "Splitpointer") ∈ tables_1 := List.mem_of_getElem? (i := 46) (by decide +kernel)
theorem k_nest_X5_27 : (Cond.methodLinkNest RX5 27 yX2_init "Splitpointer") ∈ tables_1 := List.mem_of_getElem? (i := 63) (by decide +kernel)
theorem k_fl_X2_14 : (Cond.fieldLink RX2 14 "Splitpointer$Pages" "keys" "LSplitpointer$Row;") ∈ rfT := rf_mem (i := 78) (by decide +kernel) (by decide +kernel)
theorem k_fl_X2_20 : (Cond.fieldLink RX2 20 "Splitpointer$Pages" "values" "LSplitpointer$Row;") ∈ rfT := rf_mem (i := 79) (by decide +kernel) (by decide +kernel)
theorem k_fl_X2_23 : (Cond.fieldLink RX2 23 "Splitpointer$Pages" "sizes" "LSplitpointer$Row;") ∈ rfT := rf_mem (i := 80) (by decide +kernel) (by decide +kernel)
theorem k_fl_X2_26 : (Cond.fieldLink RX2 26 "Splitpointer$Pages" "owners" "LSplitpointer$Row;") ∈ rfT := rf_mem (i := 81) (by decide +kernel) (by decide +kernel)
theorem k_fl_X2_29 : (Cond.fieldLink RX2 29 "Splitpointer$Pages" "behinds" "LSplitpointer$Row;") ∈ rfT := rf_mem (i := 82) (by decide +kernel) (by decide +kernel)
theorem k_fl_X5_12 : (Cond.fieldLink RX5 12 "Splitpointer$TableFile" "hashing" "LSplitpointer$Hashing;") ∈ rfT := rf_mem (i := 116) (by decide +kernel) (by decide +kernel)
theorem k_fl_X5_21 : (Cond.fieldLink RX5 21 "Splitpointer$TableFile" "shape" "LSplitpointer$Shape;") ∈ rfT := rf_mem (i := 118) (by decide +kernel) (by decide +kernel)
theorem k_fl_X5_28 : (Cond.fieldLink RX5 28 "Splitpointer$TableFile" "pages" "LSplitpointer$Pages;") ∈ rfT := rf_mem (i := 120) (by decide +kernel) (by decide +kernel)
theorem k_fl_X5_37 : (Cond.fieldLink RX5 37 "Splitpointer$TableFile" "firsts" "LSplitpointer$Row;") ∈ rfT := rf_mem (i := 122) (by decide +kernel) (by decide +kernel)
theorem k_fl_X5_41 : (Cond.fieldLink RX5 41 "Splitpointer$TableFile" "lasts" "LSplitpointer$Row;") ∈ rfT := rf_mem (i := 123) (by decide +kernel) (by decide +kernel)
theorem k_fl_X5_44 : (Cond.fieldLink RX5 44 "Splitpointer$TableFile" "filters" "LSplitpointer$Row;") ∈ rfT := rf_mem (i := 124) (by decide +kernel) (by decide +kernel)
theorem k_fl_X3_9 : (Cond.fieldLink RX3 9 "Splitpointer$Row" "cells" "[I") ∈ rfT := rf_mem (i := 73) (by decide +kernel) (by decide +kernel)
theorem inX1 : ∀ w ∈ u_ws RX1 TX1 2, w ∈ rfT := rf_memR _ [39, 41] (by decide +kernel) (by decide +kernel)
theorem inX2 : ∀ w ∈ u_ws RX2 TX2 5, w ∈ rfT := rf_memR _ [83, 85, 87, 89, 91] (by decide +kernel) (by decide +kernel)
theorem inX3 : ∀ w ∈ u_ws RX3 TX3 1, w ∈ rfT := rf_memR _ [74] (by decide +kernel) (by decide +kernel)
theorem inX4 : ∀ w ∈ u_ws RX4 TX4 2, w ∈ rfT := rf_memR _ [56, 58] (by decide +kernel) (by decide +kernel)
theorem inX5 : ∀ w ∈ u_ws RX5 TX5 14, w ∈ rfT := rf_memR _ [136, 138, 140, 142, 144, 146, 148, 150, 152, 154, 156, 158, 160, 162] (by decide +kernel) (by decide +kernel)
abbrev rfCl : List vw_C := [(RX1, TX1, 2), (RX2, TX2, 5), (RX3, TX3, 1), (RX4, TX4, 2), (RX5, TX5, 14)]
end
section
/-! the walk of a body that doesn't end: from an invocation to any state on its way; sums of slots -/
theorem rf_weaken {tb : Tables} {e : Env} {mid below : List Frame} {s t : State} (h : Steps tb e (mid ++ below) s t) : Steps tb e below s t := by
  obtain ⟨n, hn, hw⟩ := h
  exact ⟨n, hn, fun k hk => (hw k hk).weaken⟩
theorem rf_set : ∀ (L : List Nat) (i n : Nat), L[i]? = some n → (L.set i 0).sum + n = L.sum
  | [], i, n, h => by simp at h
  | x :: L, 0, n, h => by
    have e : x = n := by simpa using h
    subst e
    simp only [List.set_cons_zero, List.sum_cons]
    omega
  | x :: L, i + 1, n, h => by
    have h1 := rf_set L i n (by simpa using h)
    simp only [List.set_cons_succ, List.sum_cons]
    omega
theorem rf_sum : ∀ (is : List (Nat × Nat)) (L : List Nat), (∀ i ∈ is, L[i.1]? = some i.2) → (is.map (fun i => i.1)).Nodup → (is.map (fun i => i.2)).sum ≤ L.sum
  | [], L, _, _ => Nat.zero_le _
  | (i, n) :: is, L, h, hd => by
    have h0 : L[i]? = some n := h (i, n) List.mem_cons_self
    rw [List.map_cons, List.nodup_cons] at hd
    have h1 := rf_sum is (L.set i 0) (fun j hj => by
      have hm : j.1 ∈ is.map (fun i : Nat × Nat => i.1) := List.mem_map_of_mem (f := fun i : Nat × Nat => i.1) hj
      have hne : i ≠ j.1 := fun q => hd.1 (by rw [q]; exact hm)
      rw [List.getElem?_set_ne hne]
      exact h j (List.mem_cons_of_mem _ hj)) hd.2
    have h2 := rf_set L i n h0
    rw [List.map_cons, List.sum_cons]
    omega
section RFB
variable {p : Program} {l : Launch} {e : Env} {R : Room} {s : State} {m : MethodId} {args : Array Value} {below : List Frame} {meth : Method} {c : Code} {T : State} {locs : List Loc} {cells slots : Nat}
theorem rf_used0 (X : Stand p l e R s m args below meth c T locs cells slots) : s.slotsUsed ≤ T.slotsUsed := by
  have h4 : T.slotsUsed = s.slotsUsed + _ := X.same.2.2.2.1
  rw [h4]
  exact Nat.le_add_right _ _
/-- different new cells count in the book of slots -/
theorem rf_used (X : Stand p l e R s m args below meth c T locs cells slots) (as : List (Nat × Nat)) (h1 : ∀ a ∈ as, s.heap.size ≤ a.1 ∧ ∃ cell : Cell, T.heap[a.1]? = some cell ∧ cell.slots.size = a.2) (h2 : (as.map (fun a => a.1)).Nodup) :
    s.slotsUsed + (as.map (fun a => a.2)).sum ≤ T.slotsUsed := by
  have h4 : T.slotsUsed = s.slotsUsed + ((T.heap.toList.drop s.heap.size).map (fun x : Cell => x.slots.size)).sum := X.same.2.2.2.1
  rw [h4]
  refine Nat.add_le_add_left ?_ _
  have h5 := rf_sum (as.map (fun a => (a.1 - s.heap.size, a.2))) ((T.heap.toList.drop s.heap.size).map (fun x : Cell => x.slots.size)) ?_ ?_
  · rw [List.map_map] at h5
    exact h5
  · intro i hi
    obtain ⟨a, ha, rfl⟩ := List.mem_map.mp hi
    obtain ⟨hge, cell, hc, hs⟩ := h1 a ha
    have e1 : s.heap.size + (a.1 - s.heap.size) = a.1 := by omega
    rw [List.getElem?_map, List.getElem?_drop]
    show Option.map _ (T.heap.toList[s.heap.size + (a.1 - s.heap.size)]?) = _
    rw [e1, Array.getElem?_toList, hc]
    exact congrArg some hs
  · rw [List.map_map]
    have h6 : ∀ (as : List (Nat × Nat)), (∀ a ∈ as, s.heap.size ≤ a.1) → (as.map (fun a => a.1)).Nodup → (as.map ((fun i : Nat × Nat => i.1) ∘ fun a => (a.1 - s.heap.size, a.2))).Nodup := by
      intro as
      induction as with
      | nil => intro _ _; exact List.nodup_nil
      | cons x as ih =>
        intro hg hn
        rw [List.map_cons, List.nodup_cons] at hn ⊢
        refine ⟨fun hm => hn.1 ?_, ih (fun a ha => hg a (List.mem_cons_of_mem _ ha)) hn.2⟩
        obtain ⟨y, hy, hxy⟩ := List.mem_map.mp hm
        have hy1 := hg y (List.mem_cons_of_mem _ hy)
        have hx1 := hg x List.mem_cons_self
        have hxy' : y.1 - s.heap.size = x.1 - s.heap.size := hxy
        have e2 : y.1 = x.1 := by omega
        rw [← e2]
        exact List.mem_map_of_mem (f := fun a : Nat × Nat => a.1) hy
    exact h6 as (fun a ha => (h1 a ha).1) h2
end RFB
/-- the way into a body, as far as one goes (after the library's Free/Laws.lean, MetFree.of_bodySF) -/
theorem rf_body {l : Launch} {y : MethodName} {ws ws' : List Cond} {rm : Room} {cc : ByteArray} {maxL : Nat} {ret : Option FieldType} {Pc : Array Value → State → Prop} {Q : State → Prop}
    (hy : plainName y.cls = true) (hw : ws = Cond.code y cc maxL ret :: ws')
    (body : ∀ p e s m args below meth c s₁, BodyLoose p l y (headSpec ws rm) cc maxL ret e s m args below meth c s₁ → c.maxLocals = maxL → Pc args s →
      W p l e rm s m args below meth c s.heap [] 0 0 Q (entryFrame m args maxL)) :
    ∀ (p : Program) (e : Env), l.admits e → FairCas e.choices → FairClock e.choices → ∀ (s : State) (m : MethodId) (args : Array Value) (below : List Frame),
      s.frames = .invoking m args :: below → (headSpec ws rm).appliesLoose y e.platform s = true → Pc args s →
      ∃ t, Steps p.tables e below (stepThread p.tables e s).1 t ∧ Q t := by
  intro p e ha hc hk s m args below hf happ hP
  obtain ⟨hrun, hable, halone, hname, hhears, hinit, hroom, hpre⟩ := (Spec.appliesLoose_iff hf).mp happ
  obtain ⟨meth, c, hmeth, hcode, hbytes, hlocals, hret, hlocks, -, -⟩ := Cond.code_spec hname (atoms_spec (ws := ws) hpre _ (by rw [hw]; exact List.mem_cons_self))
  have hcur := State.cur_lt_of_frames hf
  have hf1 : (s.setFrames (.java (entryFrame m args maxL) :: below)).frames = .java (entryFrame m args maxL) :: below :=
    State.frames_setFrames _ hcur
  have ht1 := State.topJava?_of_frames hf1
  have hplain : (s.setFrames (.java (entryFrame m args maxL) :: below)).plainMethod m := State.plainMethod.of_named (s := s) (plainFor_of_name hy) hname hmeth
  have hAt : At (s.setFrames (.java (entryFrame m args maxL) :: below)) m c below :=
    ⟨by rw [ht1]; rfl, ⟨[], by rw [hf1]; rfl⟩, hrun, by simpa using hable, by simpa using halone,
      by rw [State.code?_eq]; simp [State.setFrames, hmeth, hcode], hplain⟩
  have hstep : (stepThread p.tables e s).1 = (s.setFrames (.java (entryFrame m args maxL) :: below)).setTop (entryFrame m args maxL) := by
    have hfull : e.platform.stackFull (s.setFrames below).me (s.setFrames below).frames c.maxLocals = false := by
      obtain ⟨-, h1, -, h2⟩ := State.hasRoom_stack hroom
      rw [hf, List.length_cons] at h1
      rw [State.localsInUse_invoking hf hmeth hcode] at h2
      have hw := stackUse_le_stackWeight below
      rw [State.frames_setFrames _ hcur]
      exact Platform.stackFull_eq_false (by rw [State.stackLimits_setFrames]; omega) (by rw [State.stackLimits_setFrames]; omega)
    rw [stepThread_invoking hf, (doInvoke_java (s := s.setFrames below) (e := e) (meth := meth) (code := c) hmeth hcode hlocks hfull).1, State.setTop_self ht1]
    simp only [State.pushFrame, State.frames_setFrames _ hcur, State.setFrames_setFrames, hlocals, entryFrame]
  have B : BodyLoose p l y (headSpec ws rm) cc maxL ret e s m args below meth c (s.setFrames (.java (entryFrame m args maxL) :: below)) :=
    ⟨ha, hc, hk, by cases p <;> rfl, hf, hname, hhears, hinit, hroom, hpre, hmeth, hret, hlocks, hbytes, rfl, hAt⟩
  obtain ⟨t, ht, hq⟩ := body p e s m args below meth c _ B hlocals hP (s.setFrames (.java (entryFrame m args maxL) :: below)) rfl (Stand.of_body B)
  exact ⟨t, hstep ▸ ht, hq⟩
section RFI
variable {p : Program} {l : Launch} {e : Env} {R : Room} {s : State} {m : MethodId} {args : Array Value} {below : List Frame} {meth : Method} {c : Code} {U : State} {locs : List Loc} {cells slots : Nat}
/-- a call that one goes into, and not back (after kit/laws/EXCEPTIONS, vx_back, and the library's Steps.callFree) -/
theorem rf_into (X : Stand p l e R s m args below meth c U locs cells slots) {g : JFrame} (hg : g.method = m) (hsize : g.locals.size = c.maxLocals) {ig : Instr} {len : Nat} (hdg : decode c.code g.pc = .ok (ig, len)) (hW : 2 * g.monitorRoom + (g.stack.map fun v => v.category).sum ≤ 8)
    {y : MethodName} {mk : MethodId} (hn : U.methodNamed? y = some mk) {a : Array Value} {ws ws' : List Cond} {rm : Room} {bytes : ByteArray} {maxL : Nat} {ret : Option FieldType} (hw : ws = Cond.code y bytes maxL ret :: ws')
    (hgood : ∀ w ∈ ws, ∀ (a' : Array Value) (U' : State), s.WarmedH U'.vm → w.before a' U' = true) (hinit : ∀ (a' : Array Value) (U' : State), s.WarmedH U'.vm → (Cond.initialized y.cls).before a' U' = true)
    (hframes : rm.frames + 1 ≤ R.frames) (hlocals : 8 + (maxL + 11) + rm.locals ≤ R.locals) (hcells : cells + rm.cells ≤ R.cells) (hslots : slots + rm.slots ≤ R.slots) {Pc : Array Value → State → Prop} {Q : State → Prop} (hPc : Pc a (U.calling g mk a))
    (hB : ∀ (p : Program) (e : Env), l.admits e → FairCas e.choices → FairClock e.choices → ∀ (s : State) (m : MethodId) (args : Array Value) (below : List Frame),
      s.frames = .invoking m args :: below → (headSpec ws rm).appliesLoose y e.platform s = true → Pc args s → ∃ t, Steps p.tables e below (stepThread p.tables e s).1 t ∧ Q t) :
    ∃ t, Steps p.tables e below (doInvoke e (U.setTop g) [] mk a).1 t ∧ Q t := by
  have h1 : (headSpec ws rm).pre.before a U = true := atoms_intro fun w hw => hgood w hw _ _ X.warmed
  have h2 : (Cond.code y bytes maxL ret).before a U = true := hgood _ (by rw [hw]; exact List.mem_cons_self) _ _ X.warmed
  have h3 : (Cond.initialized y.cls).before a U = true := hinit _ _ X.warmed
  obtain ⟨methY, cY, hmY, hcY, -, hlY, -, -, -, -⟩ := Cond.code_spec hn h2
  obtain ⟨kY, hkY, -⟩ := className_of_methodNamed hn
  have hinitY : kY.init = .initialized := Cond.initialized_spec (findClass_of_methodNamed hn) hkY h3
  have h : At U g.method c below := by rw [hg]; exact X.here
  have happ : (headSpec ws rm).appliesLoose y e.platform (U.calling g mk a) = true :=
    Spec.appliesLoose_calling (g := g) h hdg hn hkY hinitY
      (X.room_calling (g := g) (R' := rm) hsize hmY hcY hframes (by rw [hlY]; omega) hcells hslots) h1
  obtain ⟨mid, hmid⟩ := h.above
  have hfr : (U.setTop g).frames = (.java g :: mid) ++ below := by rw [State.frames_setTop' g h.top, hmid]; rfl
  have key : ∀ S : State, (headSpec ws rm).appliesLoose y e.platform (S.pushFrame (.invoking mk a)) = true → ∃ t0, S.threads[S.cur]? = some t0 := by
    intro S happ
    cases h9 : S.threads[S.cur]? with
    | some t0 => exact ⟨t0, rfl⟩
    | none =>
      have h8 : (S.pushFrame (.invoking mk a)).frames = [] := by
        simp [State.frames, State.pushFrame, State.setFrames, Array.getElem?_modify, h9]
      simp [Spec.appliesLoose, h8] at happ
  obtain ⟨t0, ht0⟩ := key (U.setTop g) happ
  have hlt : (U.setTop g).cur < (U.setTop g).threads.size := (Array.getElem?_eq_some_iff.mp ht0).1
  have hf' : (U.calling g mk a).frames = .invoking mk a :: (U.setTop g).frames := State.frames_setFrames _ hlt
  obtain ⟨t, hst, hq⟩ := hB p e X.admits X.cas X.clock (U.calling g mk a) mk a (U.setTop g).frames hf' happ hPc
  have hstep : (stepThread p.tables e (U.calling g mk a)).1 = (doInvoke e (U.setTop g) [] mk a).1 := by
    rw [stepThread_invoking hf', State.calling, State.pushFrame, State.setFrames_setFrames, State.setFrames_self ht0]
  rw [hstep, hfr] at hst
  exact ⟨t, rf_weaken hst, hq⟩
end RFI
end
section
set_option maxHeartbeats 4000000 in
set_option maxRecDepth 100000 in
/-- Hashing(): nothing changes -/
theorem rc_X1 (l : Launch) (dC : Nat → ClassId) (dI : Nat → Nat → Nat) (h0 sz : Nat) : Met l yX1_init (rfW yX1_init cX1_init 1 none) ({ frames := 1, cells := 0, slots := 0, locals := 12 }) (va_Pc [.ref h0] (fun U => U.heap.size = sz)) (va_Qv (fun _ : Unit => True) (fun _ t => True) (va_A [] sz)) 0 0 (va_A [] sz) := by
  refine Met.ofW (cc := cX1_init) (maxL := 1) (ret := none) (by decide) rfl ?_
  intro p e s m args below meth c s₁ B hml hv
  obtain ⟨rfl, hsz⟩ := hv
  have hx := B.exec
  have hb := B.bytes
  have hr := B.returns
  have hts0 := atoms_spec (ws := rfW yX1_init cX1_init 1 none) B.pre
  have hts := fun (w : Cond) (h : w ∈ rfT) => hts0 w (List.mem_cons_of_mem _ h)
  have hown : s.vm.findClass RX1 = some m.cls := findClass_of_methodNamed B.named
  have hlocks := B.notSynchronized
  have hin : meth.name = "<init>" := (name_of_methodNamed B.named B.method).1
  subst hsz
  generalize hAe : va_A [] s.heap.size = A
  have hS : va_S A s.heap s.heap [] := va_S.rf
  have hl := lv_entry ([.ref h0]) (n := 1) (Nat.le_of_ble_eq_true rfl)
  rw [lg_entry_eq]
  generalize (lg_sl ([.ref h0]) ++ List.replicate (1 - (lg_sl ([.ref h0])).length) Slot.unset).toArray = ls at hl ⊢
  have hl : lv_has ls 1 [(0, .ref h0)] := hl
  refine lv_aload_n hx hb dX1_init_0 rfl (lv_at hl 0 rfl) ?_
  refine W.objInit hx hb hown (hts _ k_oi_X1) (hts _ k_oi_i) (hts _ k_oi_c) rfl (by rw [hml]; exact hl.1) rfl dX1_init_1 (Nat.le_of_ble_eq_true rfl) (Nat.le_of_ble_eq_true rfl) ?_
  refine W.eq (g2 := F0 m 4 ls []) rfl ?_
  exact W.vret hx hb hr (fun t ht hW => ⟨⟨(), rfl, trivial, trivial⟩, hS.F ht⟩) hS.2.2 dX1_init_4
set_option maxHeartbeats 4000000 in
set_option maxRecDepth 100000 in
/-- Shape(): nothing changes -/
theorem rc_X4 (l : Launch) (dC : Nat → ClassId) (dI : Nat → Nat → Nat) (h0 sz : Nat) : Met l yX4_init (rfW yX4_init cX4_init 1 none) ({ frames := 1, cells := 0, slots := 0, locals := 12 }) (va_Pc [.ref h0] (fun U => U.heap.size = sz)) (va_Qv (fun _ : Unit => True) (fun _ t => True) (va_A [] sz)) 0 0 (va_A [] sz) := by
  refine Met.ofW (cc := cX4_init) (maxL := 1) (ret := none) (by decide) rfl ?_
  intro p e s m args below meth c s₁ B hml hv
  obtain ⟨rfl, hsz⟩ := hv
  have hx := B.exec
  have hb := B.bytes
  have hr := B.returns
  have hts0 := atoms_spec (ws := rfW yX4_init cX4_init 1 none) B.pre
  have hts := fun (w : Cond) (h : w ∈ rfT) => hts0 w (List.mem_cons_of_mem _ h)
  have hown : s.vm.findClass RX4 = some m.cls := findClass_of_methodNamed B.named
  have hlocks := B.notSynchronized
  have hin : meth.name = "<init>" := (name_of_methodNamed B.named B.method).1
  subst hsz
  generalize hAe : va_A [] s.heap.size = A
  have hS : va_S A s.heap s.heap [] := va_S.rf
  have hl := lv_entry ([.ref h0]) (n := 1) (Nat.le_of_ble_eq_true rfl)
  rw [lg_entry_eq]
  generalize (lg_sl ([.ref h0]) ++ List.replicate (1 - (lg_sl ([.ref h0])).length) Slot.unset).toArray = ls at hl ⊢
  have hl : lv_has ls 1 [(0, .ref h0)] := hl
  refine lv_aload_n hx hb dX4_init_0 rfl (lv_at hl 0 rfl) ?_
  refine W.objInit hx hb hown (hts _ k_oi_X4) (hts _ k_oi_i) (hts _ k_oi_c) rfl (by rw [hml]; exact hl.1) rfl dX4_init_1 (Nat.le_of_ble_eq_true rfl) (Nat.le_of_ble_eq_true rfl) ?_
  refine W.eq (g2 := F0 m 4 ls []) rfl ?_
  exact W.vret hx hb hr (fun t ht hW => ⟨⟨(), rfl, trivial, trivial⟩, hS.F ht⟩) hS.2.2 dX4_init_4
set_option maxHeartbeats 4000000 in
set_option maxRecDepth 100000 in
/-- Row(n), 0 < n ≤ 384: it holds a new row of n zeros -/
theorem rc_X3 (l : Launch) (dC : Nat → ClassId) (dI : Nat → Nat → Nat) (h0 sz : Nat) (n : Nat) (hn0 : 0 < n) (hn1 : n ≤ 384) : Met l yX3_init (rfW yX3_init cX3_init 2 none) ({ frames := 1, cells := 1, slots := n, locals := 12 }) (va_Pc [.ref h0, .int (nI n)] (fun U => U.heap.size = sz ∧ va_P (dC, dI) rfCl [(h0, .inr (2, [.null]))] U.heap ∧ va_K (dC, dI) rfCl [] U ∧ va_D (fun _ => True) [(h0, .inr (2, [.null]))])) (va_Qv (fun _ : Unit => True) (fun _ t => ∃ (q1 : Nat) (cA : ClassId), va_P (dC, dI) rfCl [(h0, .inr (2, [.ref q1])), (q1, .inl (cA, (n, .inl (fun _ => 0))))] t.heap ∧ va_D (va_A [(h0, .inr (2, [.null]))] sz) [(h0, .inr (2, [.ref q1])), (q1, .inl (cA, (n, .inl (fun _ => 0))))]) (va_A [(h0, .inr (2, [.null]))] sz)) 1 n (va_A [(h0, .inr (2, [.null]))] sz) := by
  refine Met.ofW (cc := cX3_init) (maxL := 2) (ret := none) (by decide) rfl ?_
  intro p e s m args below meth c s₁ B hml hv
  obtain ⟨rfl, hsz, hP, hK, hD0⟩ := hv
  have hx := B.exec
  have hb := B.bytes
  have hr := B.returns
  have hts0 := atoms_spec (ws := rfW yX3_init cX3_init 2 none) B.pre
  have hts := fun (w : Cond) (h : w ∈ rfT) => hts0 w (List.mem_cons_of_mem _ h)
  have hown : s.vm.findClass RX3 = some m.cls := findClass_of_methodNamed B.named
  have hlocks := B.notSynchronized
  have hin : meth.name = "<init>" := (name_of_methodNamed B.named B.method).1
  subst hsz
  have hD := hD0.self (sz := s.heap.size)
  generalize hAe : va_A [(h0, .inr (2, [.null]))] s.heap.size = A at hD ⊢
  have hA : ∀ q : Nat, s.heap.size ≤ q → A q := fun q h => by rw [← hAe]; exact Or.inr h
  have hS : va_S A s.heap s.heap [] := va_S.rf
  have hP : va_P (dC, dI) rfCl [(h0, .inr (2, [.null]))] s.heap := hP
  have hl := lv_entry ([.ref h0, .int (nI n)]) (n := 2) (Nat.le_of_ble_eq_true rfl)
  rw [lg_entry_eq]
  generalize (lg_sl ([.ref h0, .int (nI n)]) ++ List.replicate (2 - (lg_sl ([.ref h0, .int (nI n)])).length) Slot.unset).toArray = ls at hl ⊢
  have hl : lv_has ls 2 [(0, .ref h0), (1, .int (nI n))] := hl
  refine lv_aload_n hx hb dX3_init_0 rfl (lv_at hl 0 rfl) ?_
  refine W.objInit hx hb hown (hts _ k_oi_X3) (hts _ k_oi_i) (hts _ k_oi_c) rfl (by rw [hml]; exact hl.1) rfl dX3_init_1 (Nat.le_of_ble_eq_true rfl) (Nat.le_of_ble_eq_true rfl) ?_
  refine W.eq (g2 := F0 m 4 ls []) rfl ?_
  refine lv_aload_n hx hb dX3_init_4 rfl (lv_at hl 0 rfl) ?_
  refine lv_iload_n hx hb dX3_init_5 rfl (lv_at hl 1 rfl) ?_
  refine lv_if_le (tgt := 13) hx hb dX3_init_6 (by decide) (fun c1 => absurd c1 (nI_nle hn0 (by omega))) (fun _ => ?_)
  refine lv_iload_n hx hb dX3_init_9 rfl (lv_at hl 1 rfl) ?_
  refine lv_goto (tgt := 14) hx hb dX3_init_10 (by decide) ?_
  have h_1 : 1 ≤ 1 := Nat.le_refl 1
  have h_2 : 0 + n ≤ n := by omega
  have h_3 : n * componentBytes FieldType.int ≤ 536870912 := by
    have h9 : componentBytes FieldType.int = 4 := rfl
    rw [h9]
    omega
  refine va_newa (atype := .int) (ty := .int) (N' := n) (a0 := (n, .inl (fun _ => 0))) hx hb (hts _ k_arr) rfl hK hP hD hS hA (fun _ => rfl) (nI_pos (by omega)) (nI_clamp (by omega)) h_3 h_1 h_2 dX3_init_14 (fun q cA H hK hP hD hS => ?_)
  have hP : va_P (dC, dI) rfCl [(h0, .inr (2, [.null])), (q, .inl (cA, (n, .inl (fun _ => 0))))] H := hP
  have hD : va_D A [(h0, .inr (2, [.null])), (q, .inl (cA, (n, .inl (fun _ => 0))))] := hD
  refine va_putF (D := (dC, dI)) (ci := 2) (v := .ref q) (ty := .array .int) (C := RX3) (T := TX3) (N := 1) hx hb hts inX3 tyX3 tyX3_ok nmX3 hown hK hP hD hS 0 rfl rfl 0 (by decide) (hts _ k_fl_X3_9) (fun _ h9 => h9) rfl hin rfl (by decide +kernel) rfl rfl (Nat.le_of_ble_eq_true rfl) dX3_init_16 (fun H locs hP hD hS => ?_)
  have hP9 := hP.sub (ws' := [(h0, .inr (2, [.ref q])), (q, .inl (cA, (n, .inl (fun _ => 0))))]) [0, 1] rfl
  have hD9 := hD.sub (ws' := [(h0, .inr (2, [.ref q])), (q, .inl (cA, (n, .inl (fun _ => 0))))]) [0, 1] (by decide) rfl
  refine W.widen (k := 1) (n := n) (Nat.le_refl 1) (by omega) ?_
  exact W.vret hx hb hr (fun t ht hW => ⟨⟨(), rfl, trivial, q, cA, by rw [ht]; exact hP9, hD9⟩, hS.F ht⟩) hS.2.2 dX3_init_19
set_option maxHeartbeats 4000000 in
set_option maxRecDepth 100000 in
/-- Pages(): five new rows of 384, 384, 96, 96, 96 zeros -/
theorem rc_X2 (l : Launch) (dC : Nat → ClassId) (dI : Nat → Nat → Nat) (h0 sz : Nat) : Met l yX2_init (rfW yX2_init cX2_init 1 none) ({ frames := 2, cells := 10, slots := 1061, locals := 33 }) (va_Pc [.ref h0] (fun U => U.heap.size = sz ∧ va_P (dC, dI) rfCl [(h0, .inr (1, [.null, .null, .null, .null, .null]))] U.heap ∧ va_K (dC, dI) rfCl [] U ∧ va_D (fun _ => True) [(h0, .inr (1, [.null, .null, .null, .null, .null]))])) (va_Qv (fun _ : Unit => True) (fun _ t => ∃ (a1 a2 a3 a4 a5 : Nat) (cA1 cA2 cA3 cA4 cA5 : ClassId), va_P (dC, dI) rfCl [(a1, .inl (cA1, (384, .inl (fun _ => 0)))), (a2, .inl (cA2, (384, .inl (fun _ => 0)))), (a3, .inl (cA3, (96, .inl (fun _ => 0)))), (a4, .inl (cA4, (96, .inl (fun _ => 0)))), (a5, .inl (cA5, (96, .inl (fun _ => 0))))] t.heap ∧ va_D (va_A [(h0, .inr (1, [.null, .null, .null, .null, .null]))] sz) [(a1, .inl (cA1, (384, .inl (fun _ => 0)))), (a2, .inl (cA2, (384, .inl (fun _ => 0)))), (a3, .inl (cA3, (96, .inl (fun _ => 0)))), (a4, .inl (cA4, (96, .inl (fun _ => 0)))), (a5, .inl (cA5, (96, .inl (fun _ => 0))))]) (va_A [(h0, .inr (1, [.null, .null, .null, .null, .null]))] sz)) 10 1061 (va_A [(h0, .inr (1, [.null, .null, .null, .null, .null]))] sz) := by
  refine Met.ofW (cc := cX2_init) (maxL := 1) (ret := none) (by decide) rfl ?_
  intro p e s m args below meth c s₁ B hml hv
  obtain ⟨rfl, hsz, hP, hK, hD0⟩ := hv
  have hx := B.exec
  have hb := B.bytes
  have hr := B.returns
  have hts0 := atoms_spec (ws := rfW yX2_init cX2_init 1 none) B.pre
  have hts := fun (w : Cond) (h : w ∈ rfT) => hts0 w (List.mem_cons_of_mem _ h)
  have hown : s.vm.findClass RX2 = some m.cls := findClass_of_methodNamed B.named
  have hlocks := B.notSynchronized
  have hin : meth.name = "<init>" := (name_of_methodNamed B.named B.method).1
  subst hsz
  have hD := hD0.self (sz := s.heap.size)
  generalize hAe : va_A [(h0, .inr (1, [.null, .null, .null, .null, .null]))] s.heap.size = A at hD ⊢
  have hA : ∀ q : Nat, s.heap.size ≤ q → A q := fun q h => by rw [← hAe]; exact Or.inr h
  have hS : va_S A s.heap s.heap [] := va_S.rf
  have hP : va_P (dC, dI) rfCl [(h0, .inr (1, [.null, .null, .null, .null, .null]))] s.heap := hP
  have hl := lv_entry ([.ref h0]) (n := 1) (Nat.le_of_ble_eq_true rfl)
  rw [lg_entry_eq]
  generalize (lg_sl ([.ref h0]) ++ List.replicate (1 - (lg_sl ([.ref h0])).length) Slot.unset).toArray = ls at hl ⊢
  have hl : lv_has ls 1 [(0, .ref h0)] := hl
  refine lv_aload_n hx hb dX2_init_0 rfl (lv_at hl 0 rfl) ?_
  refine W.objInit hx hb hown (hts _ k_oi_X2) (hts _ k_oi_i) (hts _ k_oi_c) rfl (by rw [hml]; exact hl.1) rfl dX2_init_1 (Nat.le_of_ble_eq_true rfl) (Nat.le_of_ble_eq_true rfl) ?_
  refine W.eq (g2 := F0 m 4 ls []) rfl ?_
  refine lv_aload_n hx hb dX2_init_4 rfl (lv_at hl 0 rfl) ?_
  have h_1 : 0 + 1 ≤ 10 := by decide
  have h_2 : 0 + 1 ≤ 1061 := by decide
  refine va_new (ci := 2) (fs := [.null]) (C := RX3) (T := TX3) (N := 1) hx hb hts inX3 tyX3 tyX3_ok hown (hts _ k_cl_X2_9) (hts _ k_able_X3) (hts _ k_ini_X3) hK hP hD hS hA rfl (fun j hj => by rcases (show j = 0 by omega) with rfl <;> rfl) h_1 h_2 dX2_init_5 (fun r1 H hP hD hS => ?_)
  have hP : va_P (dC, dI) rfCl [(h0, .inr (1, [.null, .null, .null, .null, .null])), (r1, .inr (2, [.null]))] H := hP
  have hD : va_D A [(h0, .inr (1, [.null, .null, .null, .null, .null])), (r1, .inr (2, [.null]))] := hD
  refine W.widen (k := 1) (n := 1) (by omega) (by omega) ?_
  refine lv_dup hx hb dX2_init_8 rfl ?_
  refine lv_sipush (v := nI 384) hx hb dX2_init_9 (by decide +kernel) ?_
  have hPc := hP.sub (ws' := [(r1, .inr (2, [.null]))]) [1] rfl
  have hDc := hD.sub (ws' := [(r1, .inr (2, [.null]))]) [1] (by decide) rfl
  have hKc := hK.sub (tys' := []) [] rfl
  have hFc := va_free (wc := [(r1, .inr (2, [.null]))]) hD hS hA [1] rfl
  have h_3 : 1 + 1 ≤ 10 := by decide
  have h_4 : 1 + 384 ≤ 1061 := by decide
  refine va_callv (va_runI (As := [.int (nI 384)]) (rest := [.ref r1, .ref h0]) ⟨hx, hb, hml, hown, hts⟩ (rc_X3 l dC dI r1 H.size 384 (by decide) (by decide)) (cwI 1 hts (rf_good k_code_X3) rfl rfl rfl (hts _ k_ini_X3) (hts _ k_ml_X2) (hts _ k_inst_X3) rfl (by decide +kernel) ⟨Nat.le_of_ble_eq_true rfl, Nat.le_of_ble_eq_true rfl⟩) ⟨fun a U g mk q => by obtain ⟨q0, q1, qP, qK, qD⟩ := q; exact ⟨q0, q1, qP, va_K.moved (u := U) (U := U.calling g mk a) (Vm.Alike.refl U.vm) qK, qD⟩, fun U hU hW => ⟨rfl, by rw [hU], by rw [hU]; exact hPc, va_K.moved hW.alike hKc, hDc.weaken (fun _ _ _ _ => trivial)⟩⟩ rfl rfl hl.1 rfl (lv_room (Nat.le_of_ble_eq_true rfl)) dX2_init_12 ⟨h_3, h_4⟩) hS (fun q _ h => hFc q h) hFc (fun u t H1 locs ht hvm hw hB hz1 hk1 hS => ?_)
  obtain ⟨a1, cA1, hP1, hD1⟩ := hB
  rw [ht] at hP1
  obtain ⟨hP, hD⟩ := va_join (wr := [(h0, .inr (1, [.null, .null, .null, .null, .null]))]) (w1 := [(r1, .inr (2, [.ref a1])), (a1, .inl (cA1, (384, .inl (fun _ => 0))))]) hP hD [1] [0] rfl rfl (by decide) (by decide) hk1 hFc hP1 hD1
  generalize H1 = H at hP hS ⊢
  have hP : va_P (dC, dI) rfCl [(h0, .inr (1, [.null, .null, .null, .null, .null])), (a1, .inl (cA1, (384, .inl (fun _ => 0))))] H := hP.sub [0, 2] rfl
  have hD : va_D A [(h0, .inr (1, [.null, .null, .null, .null, .null])), (a1, .inl (cA1, (384, .inl (fun _ => 0))))] := hD.sub [0, 2] (by decide) rfl
  refine W.widen (k := 2) (n := 385) (by omega) (by omega) ?_
  refine va_putF (D := (dC, dI)) (ci := 1) (v := .ref r1) (ty := .object "Splitpointer$Row") (C := RX2) (T := TX2) (N := 5) hx hb hts inX2 tyX2 tyX2_ok nmX2 hown hK hP hD hS 0 rfl rfl 0 (by decide) (hts _ k_fl_X2_14) (fun _ h9 => h9) rfl hin rfl (by decide +kernel) rfl rfl (Nat.le_of_ble_eq_true rfl) dX2_init_15 (fun H locs hP hD hS => ?_)
  have hP : va_P (dC, dI) rfCl [(h0, .inr (1, [.ref r1, .null, .null, .null, .null])), (a1, .inl (cA1, (384, .inl (fun _ => 0))))] H := hP
  have hD : va_D A [(h0, .inr (1, [.ref r1, .null, .null, .null, .null])), (a1, .inl (cA1, (384, .inl (fun _ => 0))))] := hD
  refine lv_aload_n hx hb dX2_init_18 rfl (lv_at hl 0 rfl) ?_
  have h_1 : 2 + 1 ≤ 10 := by decide
  have h_2 : 385 + 1 ≤ 1061 := by decide
  refine va_new (ci := 2) (fs := [.null]) (C := RX3) (T := TX3) (N := 1) hx hb hts inX3 tyX3 tyX3_ok hown (hts _ k_cl_X2_9) (hts _ k_able_X3) (hts _ k_ini_X3) hK hP hD hS hA rfl (fun j hj => by rcases (show j = 0 by omega) with rfl <;> rfl) h_1 h_2 dX2_init_19 (fun r2 H hP hD hS => ?_)
  have hP : va_P (dC, dI) rfCl [(h0, .inr (1, [.ref r1, .null, .null, .null, .null])), (a1, .inl (cA1, (384, .inl (fun _ => 0)))), (r2, .inr (2, [.null]))] H := hP
  have hD : va_D A [(h0, .inr (1, [.ref r1, .null, .null, .null, .null])), (a1, .inl (cA1, (384, .inl (fun _ => 0)))), (r2, .inr (2, [.null]))] := hD
  refine W.widen (k := 3) (n := 386) (by omega) (by omega) ?_
  refine lv_dup hx hb dX2_init_22 rfl ?_
  refine lv_sipush (v := nI 384) hx hb dX2_init_23 (by decide +kernel) ?_
  have hPc := hP.sub (ws' := [(r2, .inr (2, [.null]))]) [2] rfl
  have hDc := hD.sub (ws' := [(r2, .inr (2, [.null]))]) [2] (by decide) rfl
  have hKc := hK.sub (tys' := []) [] rfl
  have hFc := va_free (wc := [(r2, .inr (2, [.null]))]) hD hS hA [2] rfl
  have h_3 : 3 + 1 ≤ 10 := by decide
  have h_4 : 386 + 384 ≤ 1061 := by decide
  refine va_callv (va_runI (As := [.int (nI 384)]) (rest := [.ref r2, .ref h0]) ⟨hx, hb, hml, hown, hts⟩ (rc_X3 l dC dI r2 H.size 384 (by decide) (by decide)) (cwI 1 hts (rf_good k_code_X3) rfl rfl rfl (hts _ k_ini_X3) (hts _ k_ml_X2) (hts _ k_inst_X3) rfl (by decide +kernel) ⟨Nat.le_of_ble_eq_true rfl, Nat.le_of_ble_eq_true rfl⟩) ⟨fun a U g mk q => by obtain ⟨q0, q1, qP, qK, qD⟩ := q; exact ⟨q0, q1, qP, va_K.moved (u := U) (U := U.calling g mk a) (Vm.Alike.refl U.vm) qK, qD⟩, fun U hU hW => ⟨rfl, by rw [hU], by rw [hU]; exact hPc, va_K.moved hW.alike hKc, hDc.weaken (fun _ _ _ _ => trivial)⟩⟩ rfl rfl hl.1 rfl (lv_room (Nat.le_of_ble_eq_true rfl)) dX2_init_26 ⟨h_3, h_4⟩) hS (fun q _ h => hFc q h) hFc (fun u t H1 locs ht hvm hw hB hz1 hk1 hS => ?_)
  obtain ⟨a2, cA2, hP1, hD1⟩ := hB
  rw [ht] at hP1
  obtain ⟨hP, hD⟩ := va_join (wr := [(h0, .inr (1, [.ref r1, .null, .null, .null, .null])), (a1, .inl (cA1, (384, .inl (fun _ => 0))))]) (w1 := [(r2, .inr (2, [.ref a2])), (a2, .inl (cA2, (384, .inl (fun _ => 0))))]) hP hD [2] [0, 1] rfl rfl (by decide) (by decide) hk1 hFc hP1 hD1
  generalize H1 = H at hP hS ⊢
  have hP : va_P (dC, dI) rfCl [(h0, .inr (1, [.ref r1, .null, .null, .null, .null])), (a1, .inl (cA1, (384, .inl (fun _ => 0)))), (a2, .inl (cA2, (384, .inl (fun _ => 0))))] H := hP.sub [0, 1, 3] rfl
  have hD : va_D A [(h0, .inr (1, [.ref r1, .null, .null, .null, .null])), (a1, .inl (cA1, (384, .inl (fun _ => 0)))), (a2, .inl (cA2, (384, .inl (fun _ => 0))))] := hD.sub [0, 1, 3] (by decide) rfl
  refine W.widen (k := 4) (n := 770) (by omega) (by omega) ?_
  refine va_putF (D := (dC, dI)) (ci := 1) (v := .ref r2) (ty := .object "Splitpointer$Row") (C := RX2) (T := TX2) (N := 5) hx hb hts inX2 tyX2 tyX2_ok nmX2 hown hK hP hD hS 0 rfl rfl 1 (by decide) (hts _ k_fl_X2_20) (fun _ h9 => h9) rfl hin rfl (by decide +kernel) rfl rfl (Nat.le_of_ble_eq_true rfl) dX2_init_29 (fun H locs hP hD hS => ?_)
  have hP : va_P (dC, dI) rfCl [(h0, .inr (1, [.ref r1, .ref r2, .null, .null, .null])), (a1, .inl (cA1, (384, .inl (fun _ => 0)))), (a2, .inl (cA2, (384, .inl (fun _ => 0))))] H := hP
  have hD : va_D A [(h0, .inr (1, [.ref r1, .ref r2, .null, .null, .null])), (a1, .inl (cA1, (384, .inl (fun _ => 0)))), (a2, .inl (cA2, (384, .inl (fun _ => 0))))] := hD
  refine lv_aload_n hx hb dX2_init_32 rfl (lv_at hl 0 rfl) ?_
  have h_1 : 4 + 1 ≤ 10 := by decide
  have h_2 : 770 + 1 ≤ 1061 := by decide
  refine va_new (ci := 2) (fs := [.null]) (C := RX3) (T := TX3) (N := 1) hx hb hts inX3 tyX3 tyX3_ok hown (hts _ k_cl_X2_9) (hts _ k_able_X3) (hts _ k_ini_X3) hK hP hD hS hA rfl (fun j hj => by rcases (show j = 0 by omega) with rfl <;> rfl) h_1 h_2 dX2_init_33 (fun r3 H hP hD hS => ?_)
  have hP : va_P (dC, dI) rfCl [(h0, .inr (1, [.ref r1, .ref r2, .null, .null, .null])), (a1, .inl (cA1, (384, .inl (fun _ => 0)))), (a2, .inl (cA2, (384, .inl (fun _ => 0)))), (r3, .inr (2, [.null]))] H := hP
  have hD : va_D A [(h0, .inr (1, [.ref r1, .ref r2, .null, .null, .null])), (a1, .inl (cA1, (384, .inl (fun _ => 0)))), (a2, .inl (cA2, (384, .inl (fun _ => 0)))), (r3, .inr (2, [.null]))] := hD
  refine W.widen (k := 5) (n := 771) (by omega) (by omega) ?_
  refine lv_dup hx hb dX2_init_36 rfl ?_
  refine lv_bipush (v := nI 96) hx hb dX2_init_37 (by decide +kernel) ?_
  have hPc := hP.sub (ws' := [(r3, .inr (2, [.null]))]) [3] rfl
  have hDc := hD.sub (ws' := [(r3, .inr (2, [.null]))]) [3] (by decide) rfl
  have hKc := hK.sub (tys' := []) [] rfl
  have hFc := va_free (wc := [(r3, .inr (2, [.null]))]) hD hS hA [3] rfl
  have h_3 : 5 + 1 ≤ 10 := by decide
  have h_4 : 771 + 96 ≤ 1061 := by decide
  refine va_callv (va_runI (As := [.int (nI 96)]) (rest := [.ref r3, .ref h0]) ⟨hx, hb, hml, hown, hts⟩ (rc_X3 l dC dI r3 H.size 96 (by decide) (by decide)) (cwI 1 hts (rf_good k_code_X3) rfl rfl rfl (hts _ k_ini_X3) (hts _ k_ml_X2) (hts _ k_inst_X3) rfl (by decide +kernel) ⟨Nat.le_of_ble_eq_true rfl, Nat.le_of_ble_eq_true rfl⟩) ⟨fun a U g mk q => by obtain ⟨q0, q1, qP, qK, qD⟩ := q; exact ⟨q0, q1, qP, va_K.moved (u := U) (U := U.calling g mk a) (Vm.Alike.refl U.vm) qK, qD⟩, fun U hU hW => ⟨rfl, by rw [hU], by rw [hU]; exact hPc, va_K.moved hW.alike hKc, hDc.weaken (fun _ _ _ _ => trivial)⟩⟩ rfl rfl hl.1 rfl (lv_room (Nat.le_of_ble_eq_true rfl)) dX2_init_39 ⟨h_3, h_4⟩) hS (fun q _ h => hFc q h) hFc (fun u t H1 locs ht hvm hw hB hz1 hk1 hS => ?_)
  obtain ⟨a3, cA3, hP1, hD1⟩ := hB
  rw [ht] at hP1
  obtain ⟨hP, hD⟩ := va_join (wr := [(h0, .inr (1, [.ref r1, .ref r2, .null, .null, .null])), (a1, .inl (cA1, (384, .inl (fun _ => 0)))), (a2, .inl (cA2, (384, .inl (fun _ => 0))))]) (w1 := [(r3, .inr (2, [.ref a3])), (a3, .inl (cA3, (96, .inl (fun _ => 0))))]) hP hD [3] [0, 1, 2] rfl rfl (by decide) (by decide) hk1 hFc hP1 hD1
  generalize H1 = H at hP hS ⊢
  have hP : va_P (dC, dI) rfCl [(h0, .inr (1, [.ref r1, .ref r2, .null, .null, .null])), (a1, .inl (cA1, (384, .inl (fun _ => 0)))), (a2, .inl (cA2, (384, .inl (fun _ => 0)))), (a3, .inl (cA3, (96, .inl (fun _ => 0))))] H := hP.sub [0, 1, 2, 4] rfl
  have hD : va_D A [(h0, .inr (1, [.ref r1, .ref r2, .null, .null, .null])), (a1, .inl (cA1, (384, .inl (fun _ => 0)))), (a2, .inl (cA2, (384, .inl (fun _ => 0)))), (a3, .inl (cA3, (96, .inl (fun _ => 0))))] := hD.sub [0, 1, 2, 4] (by decide) rfl
  refine W.widen (k := 6) (n := 867) (by omega) (by omega) ?_
  refine va_putF (D := (dC, dI)) (ci := 1) (v := .ref r3) (ty := .object "Splitpointer$Row") (C := RX2) (T := TX2) (N := 5) hx hb hts inX2 tyX2 tyX2_ok nmX2 hown hK hP hD hS 0 rfl rfl 2 (by decide) (hts _ k_fl_X2_23) (fun _ h9 => h9) rfl hin rfl (by decide +kernel) rfl rfl (Nat.le_of_ble_eq_true rfl) dX2_init_42 (fun H locs hP hD hS => ?_)
  have hP : va_P (dC, dI) rfCl [(h0, .inr (1, [.ref r1, .ref r2, .ref r3, .null, .null])), (a1, .inl (cA1, (384, .inl (fun _ => 0)))), (a2, .inl (cA2, (384, .inl (fun _ => 0)))), (a3, .inl (cA3, (96, .inl (fun _ => 0))))] H := hP
  have hD : va_D A [(h0, .inr (1, [.ref r1, .ref r2, .ref r3, .null, .null])), (a1, .inl (cA1, (384, .inl (fun _ => 0)))), (a2, .inl (cA2, (384, .inl (fun _ => 0)))), (a3, .inl (cA3, (96, .inl (fun _ => 0))))] := hD
  refine lv_aload_n hx hb dX2_init_45 rfl (lv_at hl 0 rfl) ?_
  have h_1 : 6 + 1 ≤ 10 := by decide
  have h_2 : 867 + 1 ≤ 1061 := by decide
  refine va_new (ci := 2) (fs := [.null]) (C := RX3) (T := TX3) (N := 1) hx hb hts inX3 tyX3 tyX3_ok hown (hts _ k_cl_X2_9) (hts _ k_able_X3) (hts _ k_ini_X3) hK hP hD hS hA rfl (fun j hj => by rcases (show j = 0 by omega) with rfl <;> rfl) h_1 h_2 dX2_init_46 (fun r4 H hP hD hS => ?_)
  have hP : va_P (dC, dI) rfCl [(h0, .inr (1, [.ref r1, .ref r2, .ref r3, .null, .null])), (a1, .inl (cA1, (384, .inl (fun _ => 0)))), (a2, .inl (cA2, (384, .inl (fun _ => 0)))), (a3, .inl (cA3, (96, .inl (fun _ => 0)))), (r4, .inr (2, [.null]))] H := hP
  have hD : va_D A [(h0, .inr (1, [.ref r1, .ref r2, .ref r3, .null, .null])), (a1, .inl (cA1, (384, .inl (fun _ => 0)))), (a2, .inl (cA2, (384, .inl (fun _ => 0)))), (a3, .inl (cA3, (96, .inl (fun _ => 0)))), (r4, .inr (2, [.null]))] := hD
  refine W.widen (k := 7) (n := 868) (by omega) (by omega) ?_
  refine lv_dup hx hb dX2_init_49 rfl ?_
  refine lv_bipush (v := nI 96) hx hb dX2_init_50 (by decide +kernel) ?_
  have hPc := hP.sub (ws' := [(r4, .inr (2, [.null]))]) [4] rfl
  have hDc := hD.sub (ws' := [(r4, .inr (2, [.null]))]) [4] (by decide) rfl
  have hKc := hK.sub (tys' := []) [] rfl
  have hFc := va_free (wc := [(r4, .inr (2, [.null]))]) hD hS hA [4] rfl
  have h_3 : 7 + 1 ≤ 10 := by decide
  have h_4 : 868 + 96 ≤ 1061 := by decide
  refine va_callv (va_runI (As := [.int (nI 96)]) (rest := [.ref r4, .ref h0]) ⟨hx, hb, hml, hown, hts⟩ (rc_X3 l dC dI r4 H.size 96 (by decide) (by decide)) (cwI 1 hts (rf_good k_code_X3) rfl rfl rfl (hts _ k_ini_X3) (hts _ k_ml_X2) (hts _ k_inst_X3) rfl (by decide +kernel) ⟨Nat.le_of_ble_eq_true rfl, Nat.le_of_ble_eq_true rfl⟩) ⟨fun a U g mk q => by obtain ⟨q0, q1, qP, qK, qD⟩ := q; exact ⟨q0, q1, qP, va_K.moved (u := U) (U := U.calling g mk a) (Vm.Alike.refl U.vm) qK, qD⟩, fun U hU hW => ⟨rfl, by rw [hU], by rw [hU]; exact hPc, va_K.moved hW.alike hKc, hDc.weaken (fun _ _ _ _ => trivial)⟩⟩ rfl rfl hl.1 rfl (lv_room (Nat.le_of_ble_eq_true rfl)) dX2_init_52 ⟨h_3, h_4⟩) hS (fun q _ h => hFc q h) hFc (fun u t H1 locs ht hvm hw hB hz1 hk1 hS => ?_)
  obtain ⟨a4, cA4, hP1, hD1⟩ := hB
  rw [ht] at hP1
  obtain ⟨hP, hD⟩ := va_join (wr := [(h0, .inr (1, [.ref r1, .ref r2, .ref r3, .null, .null])), (a1, .inl (cA1, (384, .inl (fun _ => 0)))), (a2, .inl (cA2, (384, .inl (fun _ => 0)))), (a3, .inl (cA3, (96, .inl (fun _ => 0))))]) (w1 := [(r4, .inr (2, [.ref a4])), (a4, .inl (cA4, (96, .inl (fun _ => 0))))]) hP hD [4] [0, 1, 2, 3] rfl rfl (by decide) (by decide) hk1 hFc hP1 hD1
  generalize H1 = H at hP hS ⊢
  have hP : va_P (dC, dI) rfCl [(h0, .inr (1, [.ref r1, .ref r2, .ref r3, .null, .null])), (a1, .inl (cA1, (384, .inl (fun _ => 0)))), (a2, .inl (cA2, (384, .inl (fun _ => 0)))), (a3, .inl (cA3, (96, .inl (fun _ => 0)))), (a4, .inl (cA4, (96, .inl (fun _ => 0))))] H := hP.sub [0, 1, 2, 3, 5] rfl
  have hD : va_D A [(h0, .inr (1, [.ref r1, .ref r2, .ref r3, .null, .null])), (a1, .inl (cA1, (384, .inl (fun _ => 0)))), (a2, .inl (cA2, (384, .inl (fun _ => 0)))), (a3, .inl (cA3, (96, .inl (fun _ => 0)))), (a4, .inl (cA4, (96, .inl (fun _ => 0))))] := hD.sub [0, 1, 2, 3, 5] (by decide) rfl
  refine W.widen (k := 8) (n := 964) (by omega) (by omega) ?_
  refine va_putF (D := (dC, dI)) (ci := 1) (v := .ref r4) (ty := .object "Splitpointer$Row") (C := RX2) (T := TX2) (N := 5) hx hb hts inX2 tyX2 tyX2_ok nmX2 hown hK hP hD hS 0 rfl rfl 3 (by decide) (hts _ k_fl_X2_26) (fun _ h9 => h9) rfl hin rfl (by decide +kernel) rfl rfl (Nat.le_of_ble_eq_true rfl) dX2_init_55 (fun H locs hP hD hS => ?_)
  have hP : va_P (dC, dI) rfCl [(h0, .inr (1, [.ref r1, .ref r2, .ref r3, .ref r4, .null])), (a1, .inl (cA1, (384, .inl (fun _ => 0)))), (a2, .inl (cA2, (384, .inl (fun _ => 0)))), (a3, .inl (cA3, (96, .inl (fun _ => 0)))), (a4, .inl (cA4, (96, .inl (fun _ => 0))))] H := hP
  have hD : va_D A [(h0, .inr (1, [.ref r1, .ref r2, .ref r3, .ref r4, .null])), (a1, .inl (cA1, (384, .inl (fun _ => 0)))), (a2, .inl (cA2, (384, .inl (fun _ => 0)))), (a3, .inl (cA3, (96, .inl (fun _ => 0)))), (a4, .inl (cA4, (96, .inl (fun _ => 0))))] := hD
  refine lv_aload_n hx hb dX2_init_58 rfl (lv_at hl 0 rfl) ?_
  have h_1 : 8 + 1 ≤ 10 := by decide
  have h_2 : 964 + 1 ≤ 1061 := by decide
  refine va_new (ci := 2) (fs := [.null]) (C := RX3) (T := TX3) (N := 1) hx hb hts inX3 tyX3 tyX3_ok hown (hts _ k_cl_X2_9) (hts _ k_able_X3) (hts _ k_ini_X3) hK hP hD hS hA rfl (fun j hj => by rcases (show j = 0 by omega) with rfl <;> rfl) h_1 h_2 dX2_init_59 (fun r5 H hP hD hS => ?_)
  have hP : va_P (dC, dI) rfCl [(h0, .inr (1, [.ref r1, .ref r2, .ref r3, .ref r4, .null])), (a1, .inl (cA1, (384, .inl (fun _ => 0)))), (a2, .inl (cA2, (384, .inl (fun _ => 0)))), (a3, .inl (cA3, (96, .inl (fun _ => 0)))), (a4, .inl (cA4, (96, .inl (fun _ => 0)))), (r5, .inr (2, [.null]))] H := hP
  have hD : va_D A [(h0, .inr (1, [.ref r1, .ref r2, .ref r3, .ref r4, .null])), (a1, .inl (cA1, (384, .inl (fun _ => 0)))), (a2, .inl (cA2, (384, .inl (fun _ => 0)))), (a3, .inl (cA3, (96, .inl (fun _ => 0)))), (a4, .inl (cA4, (96, .inl (fun _ => 0)))), (r5, .inr (2, [.null]))] := hD
  refine W.widen (k := 9) (n := 965) (by omega) (by omega) ?_
  refine lv_dup hx hb dX2_init_62 rfl ?_
  refine lv_bipush (v := nI 96) hx hb dX2_init_63 (by decide +kernel) ?_
  have hPc := hP.sub (ws' := [(r5, .inr (2, [.null]))]) [5] rfl
  have hDc := hD.sub (ws' := [(r5, .inr (2, [.null]))]) [5] (by decide) rfl
  have hKc := hK.sub (tys' := []) [] rfl
  have hFc := va_free (wc := [(r5, .inr (2, [.null]))]) hD hS hA [5] rfl
  have h_3 : 9 + 1 ≤ 10 := by decide
  have h_4 : 965 + 96 ≤ 1061 := by decide
  refine va_callv (va_runI (As := [.int (nI 96)]) (rest := [.ref r5, .ref h0]) ⟨hx, hb, hml, hown, hts⟩ (rc_X3 l dC dI r5 H.size 96 (by decide) (by decide)) (cwI 1 hts (rf_good k_code_X3) rfl rfl rfl (hts _ k_ini_X3) (hts _ k_ml_X2) (hts _ k_inst_X3) rfl (by decide +kernel) ⟨Nat.le_of_ble_eq_true rfl, Nat.le_of_ble_eq_true rfl⟩) ⟨fun a U g mk q => by obtain ⟨q0, q1, qP, qK, qD⟩ := q; exact ⟨q0, q1, qP, va_K.moved (u := U) (U := U.calling g mk a) (Vm.Alike.refl U.vm) qK, qD⟩, fun U hU hW => ⟨rfl, by rw [hU], by rw [hU]; exact hPc, va_K.moved hW.alike hKc, hDc.weaken (fun _ _ _ _ => trivial)⟩⟩ rfl rfl hl.1 rfl (lv_room (Nat.le_of_ble_eq_true rfl)) dX2_init_65 ⟨h_3, h_4⟩) hS (fun q _ h => hFc q h) hFc (fun u t H1 locs ht hvm hw hB hz1 hk1 hS => ?_)
  obtain ⟨a5, cA5, hP1, hD1⟩ := hB
  rw [ht] at hP1
  obtain ⟨hP, hD⟩ := va_join (wr := [(h0, .inr (1, [.ref r1, .ref r2, .ref r3, .ref r4, .null])), (a1, .inl (cA1, (384, .inl (fun _ => 0)))), (a2, .inl (cA2, (384, .inl (fun _ => 0)))), (a3, .inl (cA3, (96, .inl (fun _ => 0)))), (a4, .inl (cA4, (96, .inl (fun _ => 0))))]) (w1 := [(r5, .inr (2, [.ref a5])), (a5, .inl (cA5, (96, .inl (fun _ => 0))))]) hP hD [5] [0, 1, 2, 3, 4] rfl rfl (by decide) (by decide) hk1 hFc hP1 hD1
  generalize H1 = H at hP hS ⊢
  have hP : va_P (dC, dI) rfCl [(h0, .inr (1, [.ref r1, .ref r2, .ref r3, .ref r4, .null])), (a1, .inl (cA1, (384, .inl (fun _ => 0)))), (a2, .inl (cA2, (384, .inl (fun _ => 0)))), (a3, .inl (cA3, (96, .inl (fun _ => 0)))), (a4, .inl (cA4, (96, .inl (fun _ => 0)))), (a5, .inl (cA5, (96, .inl (fun _ => 0))))] H := hP.sub [0, 1, 2, 3, 4, 6] rfl
  have hD : va_D A [(h0, .inr (1, [.ref r1, .ref r2, .ref r3, .ref r4, .null])), (a1, .inl (cA1, (384, .inl (fun _ => 0)))), (a2, .inl (cA2, (384, .inl (fun _ => 0)))), (a3, .inl (cA3, (96, .inl (fun _ => 0)))), (a4, .inl (cA4, (96, .inl (fun _ => 0)))), (a5, .inl (cA5, (96, .inl (fun _ => 0))))] := hD.sub [0, 1, 2, 3, 4, 6] (by decide) rfl
  refine W.widen (k := 10) (n := 1061) (by omega) (by omega) ?_
  refine va_putF (D := (dC, dI)) (ci := 1) (v := .ref r5) (ty := .object "Splitpointer$Row") (C := RX2) (T := TX2) (N := 5) hx hb hts inX2 tyX2 tyX2_ok nmX2 hown hK hP hD hS 0 rfl rfl 4 (by decide) (hts _ k_fl_X2_29) (fun _ h9 => h9) rfl hin rfl (by decide +kernel) rfl rfl (Nat.le_of_ble_eq_true rfl) dX2_init_68 (fun H locs hP hD hS => ?_)
  have hP : va_P (dC, dI) rfCl [(h0, .inr (1, [.ref r1, .ref r2, .ref r3, .ref r4, .ref r5])), (a1, .inl (cA1, (384, .inl (fun _ => 0)))), (a2, .inl (cA2, (384, .inl (fun _ => 0)))), (a3, .inl (cA3, (96, .inl (fun _ => 0)))), (a4, .inl (cA4, (96, .inl (fun _ => 0)))), (a5, .inl (cA5, (96, .inl (fun _ => 0))))] H := hP
  have hD : va_D A [(h0, .inr (1, [.ref r1, .ref r2, .ref r3, .ref r4, .ref r5])), (a1, .inl (cA1, (384, .inl (fun _ => 0)))), (a2, .inl (cA2, (384, .inl (fun _ => 0)))), (a3, .inl (cA3, (96, .inl (fun _ => 0)))), (a4, .inl (cA4, (96, .inl (fun _ => 0)))), (a5, .inl (cA5, (96, .inl (fun _ => 0))))] := hD
  have hP9 := hP.sub (ws' := [(a1, .inl (cA1, (384, .inl (fun _ => 0)))), (a2, .inl (cA2, (384, .inl (fun _ => 0)))), (a3, .inl (cA3, (96, .inl (fun _ => 0)))), (a4, .inl (cA4, (96, .inl (fun _ => 0)))), (a5, .inl (cA5, (96, .inl (fun _ => 0))))]) [1, 2, 3, 4, 5] rfl
  have hD9 := hD.sub (ws' := [(a1, .inl (cA1, (384, .inl (fun _ => 0)))), (a2, .inl (cA2, (384, .inl (fun _ => 0)))), (a3, .inl (cA3, (96, .inl (fun _ => 0)))), (a4, .inl (cA4, (96, .inl (fun _ => 0)))), (a5, .inl (cA5, (96, .inl (fun _ => 0))))]) [1, 2, 3, 4, 5] (by decide) rfl
  exact W.vret hx hb hr (fun t ht hW => ⟨⟨(), rfl, trivial, a1, a2, a3, a4, a5, cA1, cA2, cA3, cA4, cA5, by rw [ht]; exact hP9, hD9⟩, hS.F ht⟩) hS.2.2 dX2_init_71
end
section
theorem rf_arr {D : va_G} {cl : List vw_C} {ws : va_W} {H : Heap} (hP : va_P D cl ws H) (k : Nat) {q : Nat} {cA : ClassId} {n : Nat} {f : Nat → Int32} (hk : ws[k]? = some (q, .inl (cA, (n, .inl f)))) : ∃ cell : Cell, H[q]? = some cell ∧ cell.slots.size = n :=
  ⟨_, hP k _ hk, arrV_size _ _ _⟩
theorem rf_new {h0 sz : Nat} {e0 : va_E} {ws : va_W} (hD : va_D (va_A [(h0, e0)] sz) ws) {e1 : va_E} (h1 : ws[0]? = some (h0, e1)) (k : Nat) {q : Nat} {e : va_E} (hk : ws[k]? = some (q, e)) (hk0 : k ≠ 0) : sz ≤ q := by
  rcases hD.2 k _ hk with ⟨j, e9, hj⟩ | h
  · have hj0 : j = 0 := by
      have h9 := (List.getElem?_eq_some_iff.mp hj).1
      simpa using h9
    subst hj0
    have he : h0 = q := by
      have h9 : some (h0, e0) = some (q, e9) := hj
      cases h9
      rfl
    exact absurd (hD.1 k 0 _ _ hk h1 he.symm) hk0
  · exact h
theorem rf_nodup {A : Nat → Prop} : ∀ ws : va_W, va_D A ws → (ws.map (fun q => q.1)).Nodup
  | [], _ => List.nodup_nil
  | x :: ws, h => by
    rw [List.map_cons, List.nodup_cons]
    refine ⟨fun hm => ?_, rf_nodup ws ⟨fun i j p q h1 h2 he => ?_, fun k q hk => h.2 (k + 1) q (by simpa using hk)⟩⟩
    · obtain ⟨y, hy, e⟩ := List.mem_map.mp hm
      obtain ⟨i, hi⟩ := List.getElem?_of_mem hy
      have h9 := h.1 0 (i + 1) x y rfl (by simpa using hi) e.symm
      omega
    · have h9 := h.1 (i + 1) (j + 1) p q (by simpa using h1) (by simpa using h2) he
      omega
/-- what the machine knows of the five classes -/
theorem rf_known {s : State} {args : Array Value} (hts : ∀ w ∈ rfT, w.before args s = true) : ∃ (dC : Nat → ClassId) (dI : Nat → Nat → Nat), va_K (dC, dI) rfCl [] s := by
  obtain ⟨c0, i0, k0⟩ := u_known (C := RX1) (T := TX1) (N := 2) (n := 2) hts inX1 (hts _ k_able_X1)
  obtain ⟨c1, i1, k1⟩ := u_known (C := RX2) (T := TX2) (N := 5) (n := 5) hts inX2 (hts _ k_able_X2)
  obtain ⟨c2, i2, k2⟩ := u_known (C := RX3) (T := TX3) (N := 1) (n := 1) hts inX3 (hts _ k_able_X3)
  obtain ⟨c3, i3, k3⟩ := u_known (C := RX4) (T := TX4) (N := 2) (n := 2) hts inX4 (hts _ k_able_X4)
  obtain ⟨c4, i4, k4⟩ := u_known (C := RX5) (T := TX5) (N := 14) (n := 14) hts inX5 (hts _ k_able_X5)
  refine ⟨fun k => if k = 0 then c0 else if k = 1 then c1 else if k = 2 then c2 else if k = 3 then c3 else c4, fun k => if k = 0 then i0 else if k = 1 then i1 else if k = 2 then i2 else if k = 3 then i3 else i4, ?_, fun k q h => by simp at h⟩
  intro k q hq
  match k, hq with
  | 0, hq => cases hq; exact k0
  | 1, hq => cases hq; exact k1
  | 2, hq => cases hq; exact k2
  | 3, hq => cases hq; exact k3
  | 4, hq => cases hq; exact k4
  | k + 5, hq => simp [rfCl] at hq
/-- at least 1210 slots more than n0 in the book -/
def rf_Big (n0 : Nat) : State → Prop := fun t => n0 + 1210 ≤ t.slotsUsed
def rf_rm5 : Room := { frames := 4, cells := 100, slots := 5000, locals := 60 }
def rf_rm6 : Room := { frames := 6, cells := 200, slots := 10000, locals := 90 }
def rf_rmL : Room := { frames := 12, cells := 1000, slots := 20000, locals := 430 }
def rf_N (U : State) : Prop := va_Nw (.methodLinkNest RX6 9 yX5_init "Splitpointer") U ∧ va_Nw (.methodLinkNest RX5 11 yX1_init "Splitpointer") U ∧ va_Nw (.methodLinkNest RX5 20 yX4_init "Splitpointer") U ∧ va_Nw (.methodLinkNest RX5 27 yX2_init "Splitpointer") U
theorem rf_N.warm {s U : State} (hW : s.WarmedH U.vm) (h : rf_N s) : rf_N U := ⟨va_Nw.warmM hW h.1, va_Nw.warmM hW h.2.1, va_Nw.warmM hW h.2.2.1, va_Nw.warmM hW h.2.2.2⟩
def rf_P5 (dC : Nat → ClassId) (dI : Nat → Nat → Nat) (h0 n0 : Nat) : Array Value → State → Prop := fun a U => a = [Value.ref h0].toArray ∧ n0 ≤ U.slotsUsed ∧ va_P (dC, dI) rfCl [(h0, .inr (4, [.null, .null, .null, .null, .null, .null, .null, .null, .int 0, .int 0, .int 0, .int 0, .int 0, .int 0]))] U.heap ∧ va_K (dC, dI) rfCl [] U ∧ va_D (fun _ => True) [(h0, .inr (4, [.null, .null, .null, .null, .null, .null, .null, .null, .int 0, .int 0, .int 0, .int 0, .int 0, .int 0]))] ∧ rf_N U
set_option maxHeartbeats 4000000 in
set_option maxRecDepth 100000 in
/-- TableFile(), as far as its third row of 64: by then 1248 slots are made in arrays alone -/
theorem rf_tf (l : Launch) (dC : Nat → ClassId) (dI : Nat → Nat → Nat) (h0 n0 : Nat) :
    ∀ p e s m args below meth c s₁, BodyLoose p l yX5_init (headSpec (rfW yX5_init cX5_init 1 none) rf_rm5) cX5_init 1 none e s m args below meth c s₁ → c.maxLocals = 1 → rf_P5 dC dI h0 n0 args s →
      W p l e rf_rm5 s m args below meth c s.heap [] 0 0 (rf_Big n0) (entryFrame m args 1) := by
  intro p e s m args below meth c s₁ B hml hv
  obtain ⟨rfl, hn0, hP, hK, hD0, hN⟩ := hv
  have hx := B.exec
  have hb := B.bytes
  have hr := B.returns
  have hts0 := atoms_spec (ws := rfW yX5_init cX5_init 1 none) B.pre
  have hts := fun (w : Cond) (h : w ∈ rfT) => hts0 w (List.mem_cons_of_mem _ h)
  have hown : s.vm.findClass RX5 = some m.cls := findClass_of_methodNamed B.named
  have hlocks := B.notSynchronized
  have hin : meth.name = "<init>" := (name_of_methodNamed B.named B.method).1
  have hD := hD0.self (sz := s.heap.size)
  obtain ⟨A, hAe⟩ : ∃ A, A = va_A [(h0, .inr (4, [.null, .null, .null, .null, .null, .null, .null, .null, .int 0, .int 0, .int 0, .int 0, .int 0, .int 0]))] s.heap.size := ⟨_, rfl⟩
  rw [← hAe] at hD
  have hA : ∀ q : Nat, s.heap.size ≤ q → A q := fun q h => by rw [hAe]; exact Or.inr h
  have hS : va_S A s.heap s.heap [] := va_S.rf
  have hl := lv_entry ([.ref h0]) (n := 1) (Nat.le_of_ble_eq_true rfl)
  rw [lg_entry_eq]
  generalize (lg_sl ([.ref h0]) ++ List.replicate (1 - (lg_sl ([.ref h0])).length) Slot.unset).toArray = ls at hl ⊢
  have hl : lv_has ls 1 [(0, .ref h0)] := hl
  refine lv_aload_n hx hb dX5_init_0 rfl (lv_at hl 0 rfl) ?_
  refine W.objInit hx hb hown (hts _ k_oi_X5) (hts _ k_oi_i) (hts _ k_oi_c) rfl (by rw [hml]; exact hl.1) rfl dX5_init_1 (Nat.le_of_ble_eq_true rfl) (Nat.le_of_ble_eq_true rfl) ?_
  refine W.eq (g2 := F0 m 4 ls []) rfl ?_
  refine lv_aload_n hx hb dX5_init_4 rfl (lv_at hl 0 rfl) ?_
  have h_1 : 0 + 1 ≤ 100 := by decide
  have h_2 : 0 + 2 ≤ 5000 := by decide
  refine va_new (ci := 0) (fs := [.int 0, .int 0]) (C := RX1) (T := TX1) (N := 2) hx hb hts inX1 tyX1 tyX1_ok hown (hts _ k_cl_X5_9) (hts _ k_able_X1) (hts _ k_ini_X1) hK hP hD hS hA rfl (fun j hj => by rcases (show j = 0 ∨ j = 1 by omega) with rfl | rfl <;> rfl) h_1 h_2 dX5_init_5 (fun q1 H hP hD hS => ?_)
  refine W.widen (k := 1) (n := 2) (by omega) (by omega) ?_
  refine lv_dup hx hb dX5_init_8 rfl ?_
  have hP := hP.sub (ws' := [(h0, .inr (4, [.null, .null, .null, .null, .null, .null, .null, .null, .int 0, .int 0, .int 0, .int 0, .int 0, .int 0]))]) [0] rfl
  have hD := hD.sub (ws' := [(h0, .inr (4, [.null, .null, .null, .null, .null, .null, .null, .null, .int 0, .int 0, .int 0, .int 0, .int 0, .int 0]))]) [0] (by decide) rfl
  have hFc := va_free (wc := []) hD hS hA [] rfl
  have h_3 : 1 + 0 ≤ 100 := by decide
  have h_4 : 2 + 0 ≤ 5000 := by decide
  refine va_callv (va_runIN (As := []) (rest := [.ref q1, .ref h0]) ⟨hx, hb, hml, hown, hts⟩ (rc_X1 l dC dI q1 H.size) ⟨va_cnB 0 hts (rf_good k_code_X1) rfl rfl rfl hN.2.1 (hts _ k_ini_X1) (by decide +kernel) ⟨Nat.le_of_ble_eq_true rfl, Nat.le_of_ble_eq_true rfl⟩, rfl, hts _ k_inst_X1⟩ ⟨fun a U g mk q => by obtain ⟨q0, q1⟩ := q; exact ⟨q0, q1⟩, fun U hU hW => ⟨rfl, congrArg Array.size hU⟩⟩ rfl rfl hl.1 rfl (lv_room (Nat.le_of_ble_eq_true rfl)) dX5_init_9 ⟨h_3, h_4⟩) hS (fun q _ h => hFc q h) hFc (fun u t H1 locs ht hvm hw hB hz1 hk1 hS => ?_)
  have hP1 : va_P (dC, dI) rfCl [] H1 := fun k q h => by simp at h
  have hD1 : va_D (va_A [] H.size) [] := ⟨fun i j p q h => by simp at h, fun k q h => by simp at h⟩
  obtain ⟨hP, hD⟩ := va_join (wr := [(h0, .inr (4, [.null, .null, .null, .null, .null, .null, .null, .null, .int 0, .int 0, .int 0, .int 0, .int 0, .int 0]))]) (w1 := []) hP hD [] [0] rfl rfl (by decide) (by decide) hk1 hFc hP1 hD1
  generalize H1 = H at hP hS ⊢
  have hP : va_P (dC, dI) rfCl [(h0, .inr (4, [.null, .null, .null, .null, .null, .null, .null, .null, .int 0, .int 0, .int 0, .int 0, .int 0, .int 0]))] H := hP
  have hD : va_D A [(h0, .inr (4, [.null, .null, .null, .null, .null, .null, .null, .null, .int 0, .int 0, .int 0, .int 0, .int 0, .int 0]))] := hD
  refine W.widen (k := 1) (n := 2) (by omega) (by omega) ?_
  refine va_putF (D := (dC, dI)) (ci := 4) (v := .ref q1) (ty := .object "Splitpointer$Hashing") (C := RX5) (T := TX5) (N := 14) hx hb hts inX5 tyX5 tyX5_ok nmX5 hown hK hP hD hS 0 rfl rfl 0 (by decide) (hts _ k_fl_X5_12) (fun _ h9 => h9) rfl hin rfl (by decide +kernel) rfl rfl (Nat.le_of_ble_eq_true rfl) dX5_init_12 (fun H locs hP hD hS => ?_)
  have hP : va_P (dC, dI) rfCl [(h0, .inr (4, [.ref q1, .null, .null, .null, .null, .null, .null, .null, .int 0, .int 0, .int 0, .int 0, .int 0, .int 0]))] H := hP
  have hD : va_D A [(h0, .inr (4, [.ref q1, .null, .null, .null, .null, .null, .null, .null, .int 0, .int 0, .int 0, .int 0, .int 0, .int 0]))] := hD
  refine lv_aload_n hx hb dX5_init_15 rfl (lv_at hl 0 rfl) ?_
  have h_1 : 1 + 1 ≤ 100 := by decide
  have h_2 : 2 + 2 ≤ 5000 := by decide
  refine va_new (ci := 3) (fs := [.int 0, .int 0]) (C := RX4) (T := TX4) (N := 2) hx hb hts inX4 tyX4 tyX4_ok hown (hts _ k_cl_X5_18) (hts _ k_able_X4) (hts _ k_ini_X4) hK hP hD hS hA rfl (fun j hj => by rcases (show j = 0 ∨ j = 1 by omega) with rfl | rfl <;> rfl) h_1 h_2 dX5_init_16 (fun q2 H hP hD hS => ?_)
  refine W.widen (k := 2) (n := 4) (by omega) (by omega) ?_
  refine lv_dup hx hb dX5_init_19 rfl ?_
  have hP := hP.sub (ws' := [(h0, .inr (4, [.ref q1, .null, .null, .null, .null, .null, .null, .null, .int 0, .int 0, .int 0, .int 0, .int 0, .int 0]))]) [0] rfl
  have hD := hD.sub (ws' := [(h0, .inr (4, [.ref q1, .null, .null, .null, .null, .null, .null, .null, .int 0, .int 0, .int 0, .int 0, .int 0, .int 0]))]) [0] (by decide) rfl
  have hFc := va_free (wc := []) hD hS hA [] rfl
  have h_3 : 2 + 0 ≤ 100 := by decide
  have h_4 : 4 + 0 ≤ 5000 := by decide
  refine va_callv (va_runIN (As := []) (rest := [.ref q2, .ref h0]) ⟨hx, hb, hml, hown, hts⟩ (rc_X4 l dC dI q2 H.size) ⟨va_cnB 0 hts (rf_good k_code_X4) rfl rfl rfl hN.2.2.1 (hts _ k_ini_X4) (by decide +kernel) ⟨Nat.le_of_ble_eq_true rfl, Nat.le_of_ble_eq_true rfl⟩, rfl, hts _ k_inst_X4⟩ ⟨fun a U g mk q => by obtain ⟨q0, q1⟩ := q; exact ⟨q0, q1⟩, fun U hU hW => ⟨rfl, congrArg Array.size hU⟩⟩ rfl rfl hl.1 rfl (lv_room (Nat.le_of_ble_eq_true rfl)) dX5_init_20 ⟨h_3, h_4⟩) hS (fun q _ h => hFc q h) hFc (fun u t H1 locs ht hvm hw hB hz1 hk1 hS => ?_)
  have hP1 : va_P (dC, dI) rfCl [] H1 := fun k q h => by simp at h
  have hD1 : va_D (va_A [] H.size) [] := ⟨fun i j p q h => by simp at h, fun k q h => by simp at h⟩
  obtain ⟨hP, hD⟩ := va_join (wr := [(h0, .inr (4, [.ref q1, .null, .null, .null, .null, .null, .null, .null, .int 0, .int 0, .int 0, .int 0, .int 0, .int 0]))]) (w1 := []) hP hD [] [0] rfl rfl (by decide) (by decide) hk1 hFc hP1 hD1
  generalize H1 = H at hP hS ⊢
  have hP : va_P (dC, dI) rfCl [(h0, .inr (4, [.ref q1, .null, .null, .null, .null, .null, .null, .null, .int 0, .int 0, .int 0, .int 0, .int 0, .int 0]))] H := hP
  have hD : va_D A [(h0, .inr (4, [.ref q1, .null, .null, .null, .null, .null, .null, .null, .int 0, .int 0, .int 0, .int 0, .int 0, .int 0]))] := hD
  refine W.widen (k := 2) (n := 4) (by omega) (by omega) ?_
  refine va_putF (D := (dC, dI)) (ci := 4) (v := .ref q2) (ty := .object "Splitpointer$Shape") (C := RX5) (T := TX5) (N := 14) hx hb hts inX5 tyX5 tyX5_ok nmX5 hown hK hP hD hS 0 rfl rfl 1 (by decide) (hts _ k_fl_X5_21) (fun _ h9 => h9) rfl hin rfl (by decide +kernel) rfl rfl (Nat.le_of_ble_eq_true rfl) dX5_init_23 (fun H locs hP hD hS => ?_)
  have hP : va_P (dC, dI) rfCl [(h0, .inr (4, [.ref q1, .ref q2, .null, .null, .null, .null, .null, .null, .int 0, .int 0, .int 0, .int 0, .int 0, .int 0]))] H := hP
  have hD : va_D A [(h0, .inr (4, [.ref q1, .ref q2, .null, .null, .null, .null, .null, .null, .int 0, .int 0, .int 0, .int 0, .int 0, .int 0]))] := hD
  refine lv_aload_n hx hb dX5_init_26 rfl (lv_at hl 0 rfl) ?_
  have h_1 : 2 + 1 ≤ 100 := by decide
  have h_2 : 4 + 5 ≤ 5000 := by decide
  refine va_new (ci := 1) (fs := [.null, .null, .null, .null, .null]) (C := RX2) (T := TX2) (N := 5) hx hb hts inX2 tyX2 tyX2_ok hown (hts _ k_cl_X5_25) (hts _ k_able_X2) (hts _ k_ini_X2) hK hP hD hS hA rfl (fun j hj => by rcases (show j = 0 ∨ j = 1 ∨ j = 2 ∨ j = 3 ∨ j = 4 by omega) with rfl | rfl | rfl | rfl | rfl <;> rfl) h_1 h_2 dX5_init_27 (fun q3 H hP hD hS => ?_)
  refine W.widen (k := 3) (n := 9) (by omega) (by omega) ?_
  refine lv_dup hx hb dX5_init_30 rfl ?_
  have hP : va_P (dC, dI) rfCl [(h0, .inr (4, [.ref q1, .ref q2, .null, .null, .null, .null, .null, .null, .int 0, .int 0, .int 0, .int 0, .int 0, .int 0])), (q3, .inr (1, [.null, .null, .null, .null, .null]))] H := hP
  have hD : va_D A [(h0, .inr (4, [.ref q1, .ref q2, .null, .null, .null, .null, .null, .null, .int 0, .int 0, .int 0, .int 0, .int 0, .int 0])), (q3, .inr (1, [.null, .null, .null, .null, .null]))] := hD
  have hPc := hP.sub (ws' := [(q3, .inr (1, [.null, .null, .null, .null, .null]))]) [1] rfl
  have hDc := hD.sub (ws' := [(q3, .inr (1, [.null, .null, .null, .null, .null]))]) [1] (by decide) rfl
  have hKc := hK.sub (tys' := []) [] rfl
  have hFc := va_free (wc := [(q3, .inr (1, [.null, .null, .null, .null, .null]))]) hD hS hA [1] rfl
  have h_3 : 3 + 10 ≤ 100 := by decide
  have h_4 : 9 + 1061 ≤ 5000 := by decide
  refine va_callv (va_runIN (As := []) (rest := [.ref q3, .ref h0]) ⟨hx, hb, hml, hown, hts⟩ (rc_X2 l dC dI q3 H.size) ⟨va_cnB 0 hts (rf_good k_code_X2) rfl rfl rfl hN.2.2.2 (hts _ k_ini_X2) (by decide +kernel) ⟨Nat.le_of_ble_eq_true rfl, Nat.le_of_ble_eq_true rfl⟩, rfl, hts _ k_inst_X2⟩ ⟨fun a U g mk q => by obtain ⟨q0, q1, qP, qK, qD⟩ := q; exact ⟨q0, q1, qP, va_K.moved (u := U) (U := U.calling g mk a) (Vm.Alike.refl U.vm) qK, qD⟩, fun U hU hW => ⟨rfl, by rw [hU], by rw [hU]; exact hPc, va_K.moved hW.alike hKc, hDc.weaken (fun _ _ _ _ => trivial)⟩⟩ rfl rfl hl.1 rfl (lv_room (Nat.le_of_ble_eq_true rfl)) dX5_init_31 ⟨h_3, h_4⟩) hS (fun q _ h => hFc q h) hFc (fun u t H1 locs ht hvm hw hB hz1 hk1 hS => ?_)
  obtain ⟨a1, a2, a3, a4, a5, cA1, cA2, cA3, cA4, cA5, hP1, hD1⟩ := hB
  rw [ht] at hP1
  obtain ⟨hP, hD⟩ := va_join (wr := [(h0, .inr (4, [.ref q1, .ref q2, .null, .null, .null, .null, .null, .null, .int 0, .int 0, .int 0, .int 0, .int 0, .int 0]))]) (w1 := [(a1, .inl (cA1, (384, .inl (fun _ => 0)))), (a2, .inl (cA2, (384, .inl (fun _ => 0)))), (a3, .inl (cA3, (96, .inl (fun _ => 0)))), (a4, .inl (cA4, (96, .inl (fun _ => 0)))), (a5, .inl (cA5, (96, .inl (fun _ => 0))))]) hP hD [1] [0] rfl rfl (by decide) (by decide) hk1 hFc hP1 hD1
  generalize H1 = H at hP hS ⊢
  have hP : va_P (dC, dI) rfCl [(h0, .inr (4, [.ref q1, .ref q2, .null, .null, .null, .null, .null, .null, .int 0, .int 0, .int 0, .int 0, .int 0, .int 0])), (a1, .inl (cA1, (384, .inl (fun _ => 0)))), (a2, .inl (cA2, (384, .inl (fun _ => 0)))), (a3, .inl (cA3, (96, .inl (fun _ => 0)))), (a4, .inl (cA4, (96, .inl (fun _ => 0)))), (a5, .inl (cA5, (96, .inl (fun _ => 0))))] H := hP
  have hD : va_D A [(h0, .inr (4, [.ref q1, .ref q2, .null, .null, .null, .null, .null, .null, .int 0, .int 0, .int 0, .int 0, .int 0, .int 0])), (a1, .inl (cA1, (384, .inl (fun _ => 0)))), (a2, .inl (cA2, (384, .inl (fun _ => 0)))), (a3, .inl (cA3, (96, .inl (fun _ => 0)))), (a4, .inl (cA4, (96, .inl (fun _ => 0)))), (a5, .inl (cA5, (96, .inl (fun _ => 0))))] := hD
  refine W.widen (k := 13) (n := 1070) (by omega) (by omega) ?_
  refine va_putF (D := (dC, dI)) (ci := 4) (v := .ref q3) (ty := .object "Splitpointer$Pages") (C := RX5) (T := TX5) (N := 14) hx hb hts inX5 tyX5 tyX5_ok nmX5 hown hK hP hD hS 0 rfl rfl 2 (by decide) (hts _ k_fl_X5_28) (fun _ h9 => h9) rfl hin rfl (by decide +kernel) rfl rfl (Nat.le_of_ble_eq_true rfl) dX5_init_34 (fun H locs hP hD hS => ?_)
  have hP : va_P (dC, dI) rfCl [(h0, .inr (4, [.ref q1, .ref q2, .ref q3, .null, .null, .null, .null, .null, .int 0, .int 0, .int 0, .int 0, .int 0, .int 0])), (a1, .inl (cA1, (384, .inl (fun _ => 0)))), (a2, .inl (cA2, (384, .inl (fun _ => 0)))), (a3, .inl (cA3, (96, .inl (fun _ => 0)))), (a4, .inl (cA4, (96, .inl (fun _ => 0)))), (a5, .inl (cA5, (96, .inl (fun _ => 0))))] H := hP
  have hD : va_D A [(h0, .inr (4, [.ref q1, .ref q2, .ref q3, .null, .null, .null, .null, .null, .int 0, .int 0, .int 0, .int 0, .int 0, .int 0])), (a1, .inl (cA1, (384, .inl (fun _ => 0)))), (a2, .inl (cA2, (384, .inl (fun _ => 0)))), (a3, .inl (cA3, (96, .inl (fun _ => 0)))), (a4, .inl (cA4, (96, .inl (fun _ => 0)))), (a5, .inl (cA5, (96, .inl (fun _ => 0))))] := hD
  refine lv_aload_n hx hb dX5_init_37 rfl (lv_at hl 0 rfl) ?_
  have h_1 : 13 + 1 ≤ 100 := by decide
  have h_2 : 1070 + 1 ≤ 5000 := by decide
  refine va_new (ci := 2) (fs := [.null]) (C := RX3) (T := TX3) (N := 1) hx hb hts inX3 tyX3 tyX3_ok hown (hts _ k_cl_X5_32) (hts _ k_able_X3) (hts _ k_ini_X3) hK hP hD hS hA rfl (fun j hj => by rcases (show j = 0 by omega) with rfl <;> rfl) h_1 h_2 dX5_init_38 (fun r6 H hP hD hS => ?_)
  have hP : va_P (dC, dI) rfCl [(h0, .inr (4, [.ref q1, .ref q2, .ref q3, .null, .null, .null, .null, .null, .int 0, .int 0, .int 0, .int 0, .int 0, .int 0])), (a1, .inl (cA1, (384, .inl (fun _ => 0)))), (a2, .inl (cA2, (384, .inl (fun _ => 0)))), (a3, .inl (cA3, (96, .inl (fun _ => 0)))), (a4, .inl (cA4, (96, .inl (fun _ => 0)))), (a5, .inl (cA5, (96, .inl (fun _ => 0)))), (r6, .inr (2, [.null]))] H := hP
  have hD : va_D A [(h0, .inr (4, [.ref q1, .ref q2, .ref q3, .null, .null, .null, .null, .null, .int 0, .int 0, .int 0, .int 0, .int 0, .int 0])), (a1, .inl (cA1, (384, .inl (fun _ => 0)))), (a2, .inl (cA2, (384, .inl (fun _ => 0)))), (a3, .inl (cA3, (96, .inl (fun _ => 0)))), (a4, .inl (cA4, (96, .inl (fun _ => 0)))), (a5, .inl (cA5, (96, .inl (fun _ => 0)))), (r6, .inr (2, [.null]))] := hD
  refine W.widen (k := 14) (n := 1071) (by omega) (by omega) ?_
  refine lv_dup hx hb dX5_init_41 rfl ?_
  refine lv_bipush (v := nI 64) hx hb dX5_init_42 (by decide +kernel) ?_
  have hPc := hP.sub (ws' := [(r6, .inr (2, [.null]))]) [6] rfl
  have hDc := hD.sub (ws' := [(r6, .inr (2, [.null]))]) [6] (by decide) rfl
  have hKc := hK.sub (tys' := []) [] rfl
  have hFc := va_free (wc := [(r6, .inr (2, [.null]))]) hD hS hA [6] rfl
  have h_3 : 14 + 1 ≤ 100 := by decide
  have h_4 : 1071 + 64 ≤ 5000 := by decide
  refine va_callv (va_runI (As := [.int (nI 64)]) (rest := [.ref r6, .ref h0]) ⟨hx, hb, hml, hown, hts⟩ (rc_X3 l dC dI r6 H.size 64 (by decide) (by decide)) (cwI 1 hts (rf_good k_code_X3) rfl rfl rfl (hts _ k_ini_X3) (hts _ k_ml_X5) (hts _ k_inst_X3) rfl (by decide +kernel) ⟨Nat.le_of_ble_eq_true rfl, Nat.le_of_ble_eq_true rfl⟩) ⟨fun a U g mk q => by obtain ⟨q0, q1, qP, qK, qD⟩ := q; exact ⟨q0, q1, qP, va_K.moved (u := U) (U := U.calling g mk a) (Vm.Alike.refl U.vm) qK, qD⟩, fun U hU hW => ⟨rfl, by rw [hU], by rw [hU]; exact hPc, va_K.moved hW.alike hKc, hDc.weaken (fun _ _ _ _ => trivial)⟩⟩ rfl rfl hl.1 rfl (lv_room (Nat.le_of_ble_eq_true rfl)) dX5_init_44 ⟨h_3, h_4⟩) hS (fun q _ h => hFc q h) hFc (fun u t H1 locs ht hvm hw hB hz1 hk1 hS => ?_)
  obtain ⟨a6, cA6, hP1, hD1⟩ := hB
  rw [ht] at hP1
  obtain ⟨hP, hD⟩ := va_join (wr := [(h0, .inr (4, [.ref q1, .ref q2, .ref q3, .null, .null, .null, .null, .null, .int 0, .int 0, .int 0, .int 0, .int 0, .int 0])), (a1, .inl (cA1, (384, .inl (fun _ => 0)))), (a2, .inl (cA2, (384, .inl (fun _ => 0)))), (a3, .inl (cA3, (96, .inl (fun _ => 0)))), (a4, .inl (cA4, (96, .inl (fun _ => 0)))), (a5, .inl (cA5, (96, .inl (fun _ => 0))))]) (w1 := [(r6, .inr (2, [.ref a6])), (a6, .inl (cA6, (64, .inl (fun _ => 0))))]) hP hD [6] [0, 1, 2, 3, 4, 5] rfl rfl (by decide) (by decide) hk1 hFc hP1 hD1
  generalize H1 = H at hP hS ⊢
  have hP : va_P (dC, dI) rfCl [(h0, .inr (4, [.ref q1, .ref q2, .ref q3, .null, .null, .null, .null, .null, .int 0, .int 0, .int 0, .int 0, .int 0, .int 0])), (a1, .inl (cA1, (384, .inl (fun _ => 0)))), (a2, .inl (cA2, (384, .inl (fun _ => 0)))), (a3, .inl (cA3, (96, .inl (fun _ => 0)))), (a4, .inl (cA4, (96, .inl (fun _ => 0)))), (a5, .inl (cA5, (96, .inl (fun _ => 0)))), (a6, .inl (cA6, (64, .inl (fun _ => 0))))] H := hP.sub [0, 1, 2, 3, 4, 5, 7] rfl
  have hD : va_D A [(h0, .inr (4, [.ref q1, .ref q2, .ref q3, .null, .null, .null, .null, .null, .int 0, .int 0, .int 0, .int 0, .int 0, .int 0])), (a1, .inl (cA1, (384, .inl (fun _ => 0)))), (a2, .inl (cA2, (384, .inl (fun _ => 0)))), (a3, .inl (cA3, (96, .inl (fun _ => 0)))), (a4, .inl (cA4, (96, .inl (fun _ => 0)))), (a5, .inl (cA5, (96, .inl (fun _ => 0)))), (a6, .inl (cA6, (64, .inl (fun _ => 0))))] := hD.sub [0, 1, 2, 3, 4, 5, 7] (by decide) rfl
  refine W.widen (k := 15) (n := 1135) (by omega) (by omega) ?_
  refine va_putF (D := (dC, dI)) (ci := 4) (v := .ref r6) (ty := .object "Splitpointer$Row") (C := RX5) (T := TX5) (N := 14) hx hb hts inX5 tyX5 tyX5_ok nmX5 hown hK hP hD hS 0 rfl rfl 3 (by decide) (hts _ k_fl_X5_37) (fun _ h9 => h9) rfl hin rfl (by decide +kernel) rfl rfl (Nat.le_of_ble_eq_true rfl) dX5_init_47 (fun H locs hP hD hS => ?_)
  have hP : va_P (dC, dI) rfCl [(h0, .inr (4, [.ref q1, .ref q2, .ref q3, .ref r6, .null, .null, .null, .null, .int 0, .int 0, .int 0, .int 0, .int 0, .int 0])), (a1, .inl (cA1, (384, .inl (fun _ => 0)))), (a2, .inl (cA2, (384, .inl (fun _ => 0)))), (a3, .inl (cA3, (96, .inl (fun _ => 0)))), (a4, .inl (cA4, (96, .inl (fun _ => 0)))), (a5, .inl (cA5, (96, .inl (fun _ => 0)))), (a6, .inl (cA6, (64, .inl (fun _ => 0))))] H := hP
  have hD : va_D A [(h0, .inr (4, [.ref q1, .ref q2, .ref q3, .ref r6, .null, .null, .null, .null, .int 0, .int 0, .int 0, .int 0, .int 0, .int 0])), (a1, .inl (cA1, (384, .inl (fun _ => 0)))), (a2, .inl (cA2, (384, .inl (fun _ => 0)))), (a3, .inl (cA3, (96, .inl (fun _ => 0)))), (a4, .inl (cA4, (96, .inl (fun _ => 0)))), (a5, .inl (cA5, (96, .inl (fun _ => 0)))), (a6, .inl (cA6, (64, .inl (fun _ => 0))))] := hD
  refine lv_aload_n hx hb dX5_init_50 rfl (lv_at hl 0 rfl) ?_
  have h_1 : 15 + 1 ≤ 100 := by decide
  have h_2 : 1135 + 1 ≤ 5000 := by decide
  refine va_new (ci := 2) (fs := [.null]) (C := RX3) (T := TX3) (N := 1) hx hb hts inX3 tyX3 tyX3_ok hown (hts _ k_cl_X5_32) (hts _ k_able_X3) (hts _ k_ini_X3) hK hP hD hS hA rfl (fun j hj => by rcases (show j = 0 by omega) with rfl <;> rfl) h_1 h_2 dX5_init_51 (fun r7 H hP hD hS => ?_)
  have hP : va_P (dC, dI) rfCl [(h0, .inr (4, [.ref q1, .ref q2, .ref q3, .ref r6, .null, .null, .null, .null, .int 0, .int 0, .int 0, .int 0, .int 0, .int 0])), (a1, .inl (cA1, (384, .inl (fun _ => 0)))), (a2, .inl (cA2, (384, .inl (fun _ => 0)))), (a3, .inl (cA3, (96, .inl (fun _ => 0)))), (a4, .inl (cA4, (96, .inl (fun _ => 0)))), (a5, .inl (cA5, (96, .inl (fun _ => 0)))), (a6, .inl (cA6, (64, .inl (fun _ => 0)))), (r7, .inr (2, [.null]))] H := hP
  have hD : va_D A [(h0, .inr (4, [.ref q1, .ref q2, .ref q3, .ref r6, .null, .null, .null, .null, .int 0, .int 0, .int 0, .int 0, .int 0, .int 0])), (a1, .inl (cA1, (384, .inl (fun _ => 0)))), (a2, .inl (cA2, (384, .inl (fun _ => 0)))), (a3, .inl (cA3, (96, .inl (fun _ => 0)))), (a4, .inl (cA4, (96, .inl (fun _ => 0)))), (a5, .inl (cA5, (96, .inl (fun _ => 0)))), (a6, .inl (cA6, (64, .inl (fun _ => 0)))), (r7, .inr (2, [.null]))] := hD
  refine W.widen (k := 16) (n := 1136) (by omega) (by omega) ?_
  refine lv_dup hx hb dX5_init_54 rfl ?_
  refine lv_bipush (v := nI 64) hx hb dX5_init_55 (by decide +kernel) ?_
  have hPc := hP.sub (ws' := [(r7, .inr (2, [.null]))]) [7] rfl
  have hDc := hD.sub (ws' := [(r7, .inr (2, [.null]))]) [7] (by decide) rfl
  have hKc := hK.sub (tys' := []) [] rfl
  have hFc := va_free (wc := [(r7, .inr (2, [.null]))]) hD hS hA [7] rfl
  have h_3 : 16 + 1 ≤ 100 := by decide
  have h_4 : 1136 + 64 ≤ 5000 := by decide
  refine va_callv (va_runI (As := [.int (nI 64)]) (rest := [.ref r7, .ref h0]) ⟨hx, hb, hml, hown, hts⟩ (rc_X3 l dC dI r7 H.size 64 (by decide) (by decide)) (cwI 1 hts (rf_good k_code_X3) rfl rfl rfl (hts _ k_ini_X3) (hts _ k_ml_X5) (hts _ k_inst_X3) rfl (by decide +kernel) ⟨Nat.le_of_ble_eq_true rfl, Nat.le_of_ble_eq_true rfl⟩) ⟨fun a U g mk q => by obtain ⟨q0, q1, qP, qK, qD⟩ := q; exact ⟨q0, q1, qP, va_K.moved (u := U) (U := U.calling g mk a) (Vm.Alike.refl U.vm) qK, qD⟩, fun U hU hW => ⟨rfl, by rw [hU], by rw [hU]; exact hPc, va_K.moved hW.alike hKc, hDc.weaken (fun _ _ _ _ => trivial)⟩⟩ rfl rfl hl.1 rfl (lv_room (Nat.le_of_ble_eq_true rfl)) dX5_init_57 ⟨h_3, h_4⟩) hS (fun q _ h => hFc q h) hFc (fun u t H1 locs ht hvm hw hB hz1 hk1 hS => ?_)
  obtain ⟨a7, cA7, hP1, hD1⟩ := hB
  rw [ht] at hP1
  obtain ⟨hP, hD⟩ := va_join (wr := [(h0, .inr (4, [.ref q1, .ref q2, .ref q3, .ref r6, .null, .null, .null, .null, .int 0, .int 0, .int 0, .int 0, .int 0, .int 0])), (a1, .inl (cA1, (384, .inl (fun _ => 0)))), (a2, .inl (cA2, (384, .inl (fun _ => 0)))), (a3, .inl (cA3, (96, .inl (fun _ => 0)))), (a4, .inl (cA4, (96, .inl (fun _ => 0)))), (a5, .inl (cA5, (96, .inl (fun _ => 0)))), (a6, .inl (cA6, (64, .inl (fun _ => 0))))]) (w1 := [(r7, .inr (2, [.ref a7])), (a7, .inl (cA7, (64, .inl (fun _ => 0))))]) hP hD [7] [0, 1, 2, 3, 4, 5, 6] rfl rfl (by decide) (by decide) hk1 hFc hP1 hD1
  generalize H1 = H at hP hS ⊢
  have hP : va_P (dC, dI) rfCl [(h0, .inr (4, [.ref q1, .ref q2, .ref q3, .ref r6, .null, .null, .null, .null, .int 0, .int 0, .int 0, .int 0, .int 0, .int 0])), (a1, .inl (cA1, (384, .inl (fun _ => 0)))), (a2, .inl (cA2, (384, .inl (fun _ => 0)))), (a3, .inl (cA3, (96, .inl (fun _ => 0)))), (a4, .inl (cA4, (96, .inl (fun _ => 0)))), (a5, .inl (cA5, (96, .inl (fun _ => 0)))), (a6, .inl (cA6, (64, .inl (fun _ => 0)))), (a7, .inl (cA7, (64, .inl (fun _ => 0))))] H := hP.sub [0, 1, 2, 3, 4, 5, 6, 8] rfl
  have hD : va_D A [(h0, .inr (4, [.ref q1, .ref q2, .ref q3, .ref r6, .null, .null, .null, .null, .int 0, .int 0, .int 0, .int 0, .int 0, .int 0])), (a1, .inl (cA1, (384, .inl (fun _ => 0)))), (a2, .inl (cA2, (384, .inl (fun _ => 0)))), (a3, .inl (cA3, (96, .inl (fun _ => 0)))), (a4, .inl (cA4, (96, .inl (fun _ => 0)))), (a5, .inl (cA5, (96, .inl (fun _ => 0)))), (a6, .inl (cA6, (64, .inl (fun _ => 0)))), (a7, .inl (cA7, (64, .inl (fun _ => 0))))] := hD.sub [0, 1, 2, 3, 4, 5, 6, 8] (by decide) rfl
  refine W.widen (k := 17) (n := 1200) (by omega) (by omega) ?_
  refine va_putF (D := (dC, dI)) (ci := 4) (v := .ref r7) (ty := .object "Splitpointer$Row") (C := RX5) (T := TX5) (N := 14) hx hb hts inX5 tyX5 tyX5_ok nmX5 hown hK hP hD hS 0 rfl rfl 4 (by decide) (hts _ k_fl_X5_41) (fun _ h9 => h9) rfl hin rfl (by decide +kernel) rfl rfl (Nat.le_of_ble_eq_true rfl) dX5_init_60 (fun H locs hP hD hS => ?_)
  have hP : va_P (dC, dI) rfCl [(h0, .inr (4, [.ref q1, .ref q2, .ref q3, .ref r6, .ref r7, .null, .null, .null, .int 0, .int 0, .int 0, .int 0, .int 0, .int 0])), (a1, .inl (cA1, (384, .inl (fun _ => 0)))), (a2, .inl (cA2, (384, .inl (fun _ => 0)))), (a3, .inl (cA3, (96, .inl (fun _ => 0)))), (a4, .inl (cA4, (96, .inl (fun _ => 0)))), (a5, .inl (cA5, (96, .inl (fun _ => 0)))), (a6, .inl (cA6, (64, .inl (fun _ => 0)))), (a7, .inl (cA7, (64, .inl (fun _ => 0))))] H := hP
  have hD : va_D A [(h0, .inr (4, [.ref q1, .ref q2, .ref q3, .ref r6, .ref r7, .null, .null, .null, .int 0, .int 0, .int 0, .int 0, .int 0, .int 0])), (a1, .inl (cA1, (384, .inl (fun _ => 0)))), (a2, .inl (cA2, (384, .inl (fun _ => 0)))), (a3, .inl (cA3, (96, .inl (fun _ => 0)))), (a4, .inl (cA4, (96, .inl (fun _ => 0)))), (a5, .inl (cA5, (96, .inl (fun _ => 0)))), (a6, .inl (cA6, (64, .inl (fun _ => 0)))), (a7, .inl (cA7, (64, .inl (fun _ => 0))))] := hD
  refine lv_aload_n hx hb dX5_init_63 rfl (lv_at hl 0 rfl) ?_
  have h_1 : 17 + 1 ≤ 100 := by decide
  have h_2 : 1200 + 1 ≤ 5000 := by decide
  refine va_new (ci := 2) (fs := [.null]) (C := RX3) (T := TX3) (N := 1) hx hb hts inX3 tyX3 tyX3_ok hown (hts _ k_cl_X5_32) (hts _ k_able_X3) (hts _ k_ini_X3) hK hP hD hS hA rfl (fun j hj => by rcases (show j = 0 by omega) with rfl <;> rfl) h_1 h_2 dX5_init_64 (fun r8 H hP hD hS => ?_)
  have hP : va_P (dC, dI) rfCl [(h0, .inr (4, [.ref q1, .ref q2, .ref q3, .ref r6, .ref r7, .null, .null, .null, .int 0, .int 0, .int 0, .int 0, .int 0, .int 0])), (a1, .inl (cA1, (384, .inl (fun _ => 0)))), (a2, .inl (cA2, (384, .inl (fun _ => 0)))), (a3, .inl (cA3, (96, .inl (fun _ => 0)))), (a4, .inl (cA4, (96, .inl (fun _ => 0)))), (a5, .inl (cA5, (96, .inl (fun _ => 0)))), (a6, .inl (cA6, (64, .inl (fun _ => 0)))), (a7, .inl (cA7, (64, .inl (fun _ => 0)))), (r8, .inr (2, [.null]))] H := hP
  have hD : va_D A [(h0, .inr (4, [.ref q1, .ref q2, .ref q3, .ref r6, .ref r7, .null, .null, .null, .int 0, .int 0, .int 0, .int 0, .int 0, .int 0])), (a1, .inl (cA1, (384, .inl (fun _ => 0)))), (a2, .inl (cA2, (384, .inl (fun _ => 0)))), (a3, .inl (cA3, (96, .inl (fun _ => 0)))), (a4, .inl (cA4, (96, .inl (fun _ => 0)))), (a5, .inl (cA5, (96, .inl (fun _ => 0)))), (a6, .inl (cA6, (64, .inl (fun _ => 0)))), (a7, .inl (cA7, (64, .inl (fun _ => 0)))), (r8, .inr (2, [.null]))] := hD
  refine W.widen (k := 18) (n := 1201) (by omega) (by omega) ?_
  refine lv_dup hx hb dX5_init_67 rfl ?_
  refine lv_bipush (v := nI 64) hx hb dX5_init_68 (by decide +kernel) ?_
  have hPc := hP.sub (ws' := [(r8, .inr (2, [.null]))]) [8] rfl
  have hDc := hD.sub (ws' := [(r8, .inr (2, [.null]))]) [8] (by decide) rfl
  have hKc := hK.sub (tys' := []) [] rfl
  have hFc := va_free (wc := [(r8, .inr (2, [.null]))]) hD hS hA [8] rfl
  have h_3 : 18 + 1 ≤ 100 := by decide
  have h_4 : 1201 + 64 ≤ 5000 := by decide
  refine va_callv (va_runI (As := [.int (nI 64)]) (rest := [.ref r8, .ref h0]) ⟨hx, hb, hml, hown, hts⟩ (rc_X3 l dC dI r8 H.size 64 (by decide) (by decide)) (cwI 1 hts (rf_good k_code_X3) rfl rfl rfl (hts _ k_ini_X3) (hts _ k_ml_X5) (hts _ k_inst_X3) rfl (by decide +kernel) ⟨Nat.le_of_ble_eq_true rfl, Nat.le_of_ble_eq_true rfl⟩) ⟨fun a U g mk q => by obtain ⟨q0, q1, qP, qK, qD⟩ := q; exact ⟨q0, q1, qP, va_K.moved (u := U) (U := U.calling g mk a) (Vm.Alike.refl U.vm) qK, qD⟩, fun U hU hW => ⟨rfl, by rw [hU], by rw [hU]; exact hPc, va_K.moved hW.alike hKc, hDc.weaken (fun _ _ _ _ => trivial)⟩⟩ rfl rfl hl.1 rfl (lv_room (Nat.le_of_ble_eq_true rfl)) dX5_init_70 ⟨h_3, h_4⟩) hS (fun q _ h => hFc q h) hFc (fun u t H1 locs ht hvm hw hB hz1 hk1 hS => ?_)
  obtain ⟨a8, cA8, hP1, hD1⟩ := hB
  rw [ht] at hP1
  obtain ⟨hP, hD⟩ := va_join (wr := [(h0, .inr (4, [.ref q1, .ref q2, .ref q3, .ref r6, .ref r7, .null, .null, .null, .int 0, .int 0, .int 0, .int 0, .int 0, .int 0])), (a1, .inl (cA1, (384, .inl (fun _ => 0)))), (a2, .inl (cA2, (384, .inl (fun _ => 0)))), (a3, .inl (cA3, (96, .inl (fun _ => 0)))), (a4, .inl (cA4, (96, .inl (fun _ => 0)))), (a5, .inl (cA5, (96, .inl (fun _ => 0)))), (a6, .inl (cA6, (64, .inl (fun _ => 0)))), (a7, .inl (cA7, (64, .inl (fun _ => 0))))]) (w1 := [(r8, .inr (2, [.ref a8])), (a8, .inl (cA8, (64, .inl (fun _ => 0))))]) hP hD [8] [0, 1, 2, 3, 4, 5, 6, 7] rfl rfl (by decide) (by decide) hk1 hFc hP1 hD1
  generalize H1 = H at hP hS ⊢
  have hP : va_P (dC, dI) rfCl [(h0, .inr (4, [.ref q1, .ref q2, .ref q3, .ref r6, .ref r7, .null, .null, .null, .int 0, .int 0, .int 0, .int 0, .int 0, .int 0])), (a1, .inl (cA1, (384, .inl (fun _ => 0)))), (a2, .inl (cA2, (384, .inl (fun _ => 0)))), (a3, .inl (cA3, (96, .inl (fun _ => 0)))), (a4, .inl (cA4, (96, .inl (fun _ => 0)))), (a5, .inl (cA5, (96, .inl (fun _ => 0)))), (a6, .inl (cA6, (64, .inl (fun _ => 0)))), (a7, .inl (cA7, (64, .inl (fun _ => 0)))), (a8, .inl (cA8, (64, .inl (fun _ => 0))))] H := hP.sub [0, 1, 2, 3, 4, 5, 6, 7, 9] rfl
  have hD : va_D A [(h0, .inr (4, [.ref q1, .ref q2, .ref q3, .ref r6, .ref r7, .null, .null, .null, .int 0, .int 0, .int 0, .int 0, .int 0, .int 0])), (a1, .inl (cA1, (384, .inl (fun _ => 0)))), (a2, .inl (cA2, (384, .inl (fun _ => 0)))), (a3, .inl (cA3, (96, .inl (fun _ => 0)))), (a4, .inl (cA4, (96, .inl (fun _ => 0)))), (a5, .inl (cA5, (96, .inl (fun _ => 0)))), (a6, .inl (cA6, (64, .inl (fun _ => 0)))), (a7, .inl (cA7, (64, .inl (fun _ => 0)))), (a8, .inl (cA8, (64, .inl (fun _ => 0))))] := hD.sub [0, 1, 2, 3, 4, 5, 6, 7, 9] (by decide) rfl
  refine W.widen (k := 19) (n := 1265) (by omega) (by omega) ?_
  rw [hAe] at hD
  intro T hT X
  refine ⟨_, Steps.refl _, ?_⟩
  show n0 + 1210 ≤ T.slotsUsed
  have hn := rf_nodup _ hD
  have hu := rf_used X [(a1, 384), (a2, 384), (a3, 96), (a4, 96), (a5, 96), (a6, 64), (a7, 64), (a8, 64)] ?_ (List.nodup_cons.mp hn).2
  · have he : (([(a1, 384), (a2, 384), (a3, 96), (a4, 96), (a5, 96), (a6, 64), (a7, 64), (a8, 64)] : List (Nat × Nat)).map (fun a => a.2)).sum = 1248 := rfl
    rw [he] at hu
    omega
  · intro a ha
    rw [hT]
    simp only [List.mem_cons, List.not_mem_nil, or_false] at ha
    rcases ha with rfl | rfl | rfl | rfl | rfl | rfl | rfl | rfl
    · exact ⟨rf_new hD rfl 1 rfl (by decide), rf_arr hP 1 rfl⟩
    · exact ⟨rf_new hD rfl 2 rfl (by decide), rf_arr hP 2 rfl⟩
    · exact ⟨rf_new hD rfl 3 rfl (by decide), rf_arr hP 3 rfl⟩
    · exact ⟨rf_new hD rfl 4 rfl (by decide), rf_arr hP 4 rfl⟩
    · exact ⟨rf_new hD rfl 5 rfl (by decide), rf_arr hP 5 rfl⟩
    · exact ⟨rf_new hD rfl 6 rfl (by decide), rf_arr hP 6 rfl⟩
    · exact ⟨rf_new hD rfl 7 rfl (by decide), rf_arr hP 7 rfl⟩
    · exact ⟨rf_new hD rfl 8 rfl (by decide), rf_arr hP 8 rfl⟩
def rf_P6 (n0 : Nat) : Array Value → State → Prop := fun a U => ∃ h0 : Nat, a = [Value.ref h0].toArray ∧ n0 ≤ U.slotsUsed ∧ rf_N U
set_option maxHeartbeats 4000000 in
set_option maxRecDepth 100000 in
/-- Splitpointer(), into its first TableFile() -/
theorem rf_sp (l : Launch) (n0 : Nat) :
    ∀ p e s m args below meth c s₁, BodyLoose p l yX6_init (headSpec (rfW yX6_init cX6_init 1 none) rf_rm6) cX6_init 1 none e s m args below meth c s₁ → c.maxLocals = 1 → rf_P6 n0 args s →
      W p l e rf_rm6 s m args below meth c s.heap [] 0 0 (rf_Big n0) (entryFrame m args 1) := by
  intro p e s m args below meth c s₁ B hml hv
  obtain ⟨h0, rfl, hn0, hN⟩ := hv
  have hx := B.exec
  have hb := B.bytes
  have hr := B.returns
  have hts0 := atoms_spec (ws := rfW yX6_init cX6_init 1 none) B.pre
  have hts := fun (w : Cond) (h : w ∈ rfT) => hts0 w (List.mem_cons_of_mem _ h)
  have hown : s.vm.findClass RX6 = some m.cls := findClass_of_methodNamed B.named
  have hlocks := B.notSynchronized
  have hin : meth.name = "<init>" := (name_of_methodNamed B.named B.method).1
  obtain ⟨dC, dI, hK⟩ := rf_known hts
  have hA : ∀ q : Nat, s.heap.size ≤ q → (fun q : Nat => s.heap.size ≤ q) q := fun _ h => h
  have hS : va_S (fun q : Nat => s.heap.size ≤ q) s.heap s.heap [] := va_S.rf
  have hP : va_P (dC, dI) rfCl [] s.heap := fun k q h => by simp at h
  have hD : va_D (fun q : Nat => s.heap.size ≤ q) [] := ⟨fun i j p q h => by simp at h, fun k q h => by simp at h⟩
  have hl := lv_entry ([.ref h0]) (n := 1) (Nat.le_of_ble_eq_true rfl)
  rw [lg_entry_eq]
  generalize (lg_sl ([.ref h0]) ++ List.replicate (1 - (lg_sl ([.ref h0])).length) Slot.unset).toArray = ls at hl ⊢
  have hl : lv_has ls 1 [(0, .ref h0)] := hl
  refine lv_aload_n hx hb dX6_init_0 rfl (lv_at hl 0 rfl) ?_
  refine W.objInit hx hb hown (hts _ k_oi_X6) (hts _ k_oi_i) (hts _ k_oi_c) rfl (by rw [hml]; exact hl.1) rfl dX6_init_1 (Nat.le_of_ble_eq_true rfl) (Nat.le_of_ble_eq_true rfl) ?_
  refine W.eq (g2 := F0 m 4 ls []) rfl ?_
  refine lv_aload_n hx hb dX6_init_4 rfl (lv_at hl 0 rfl) ?_
  have h_1 : 0 + 1 ≤ 200 := by decide
  have h_2 : 0 + 14 ≤ 10000 := by decide
  refine va_new (ci := 4) (fs := [.null, .null, .null, .null, .null, .null, .null, .null, .int 0, .int 0, .int 0, .int 0, .int 0, .int 0]) (C := RX5) (T := TX5) (N := 14) hx hb hts inX5 tyX5 tyX5_ok hown (hts _ k_cl_X6_7) (hts _ k_able_X5) (hts _ k_ini_X5) hK hP hD hS hA rfl (fun j hj => by rcases (show j = 0 ∨ j = 1 ∨ j = 2 ∨ j = 3 ∨ j = 4 ∨ j = 5 ∨ j = 6 ∨ j = 7 ∨ j = 8 ∨ j = 9 ∨ j = 10 ∨ j = 11 ∨ j = 12 ∨ j = 13 by omega) with rfl | rfl | rfl | rfl | rfl | rfl | rfl | rfl | rfl | rfl | rfl | rfl | rfl | rfl <;> rfl) h_1 h_2 dX6_init_5 (fun q H hP hD hS => ?_)
  have hP : va_P (dC, dI) rfCl [(q, .inr (4, [.null, .null, .null, .null, .null, .null, .null, .null, .int 0, .int 0, .int 0, .int 0, .int 0, .int 0]))] H := hP
  have hD : va_D (fun q : Nat => s.heap.size ≤ q) [(q, .inr (4, [.null, .null, .null, .null, .null, .null, .null, .null, .int 0, .int 0, .int 0, .int 0, .int 0, .int 0]))] := hD
  refine lv_dup hx hb dX6_init_8 rfl ?_
  intro T hT X
  have hpl : e.platform.magicAccessors = ({} : Platform).magicAccessors := by rw [X.admits.platform]
  obtain ⟨mk, methM, cM, kP, vm₁, hnamed, hmethM, hcodeM, -, hlocalsM, -, hkP, -, hW₁, hstep₁⟩ := Steps.initColdArgsNest (e := e) (maxL := 1) (bytes := cX5_init) X.here hx X.warmed hpl hown (t := yX5_init) rfl (by decide) (va_Nw.use (A := [Value.ref h0].toArray) rfl hN.1) (hts _ k_inst_X5) (hts _ k_code_X5) (f := F0 m 9 ls [.ref q, .ref q, .ref h0]) (a := q) (argsL := []) (rest := [.ref q, .ref h0]) rfl (fun sig h => by cases h; rfl) rfl (by rw [hb]; exact dX6_init_9)
  have X₁ := X.noted hW₁
  have hu0 : s.slotsUsed ≤ T.slotsUsed := rf_used0 X
  obtain ⟨t, ht, hq⟩ := rf_into X₁ (g := F0 m 9 ls [.ref q, .ref h0]) rfl (by rw [hml]; exact hl.1) (by rw [hb]; exact dX6_init_9) (lv_room (rest := [.ref q, .ref h0]) (Nat.le_of_ble_eq_true rfl)) (X₁.named hnamed) (a := (Value.ref q :: []).toArray) (ws := rfW yX5_init cX5_init 1 none) (rm := rf_rm5) rfl
    (pay_in hts (rf_good k_code_X5)) (fun a' U hW => word_at hW (Or.inl (by first | rfl | simp [Cond.onTables, Cond.keeps, Cond.steady])) (hts _ k_ini_X5))
    (by decide) (by decide) (by decide) (by decide) (Pc := rf_P5 dC dI q n0)
    ⟨rfl, Nat.le_trans hn0 hu0, (show va_P (dC, dI) rfCl [(q, .inr (4, [.null, .null, .null, .null, .null, .null, .null, .null, .int 0, .int 0, .int 0, .int 0, .int 0, .int 0]))] T.heap by rw [hT]; exact hP), va_K.moved (u := s) (U := (T.setVm vm₁).calling (F0 m 9 ls [.ref q, .ref h0]) mk (Value.ref q :: []).toArray) hW₁.alike hK, hD.weaken (fun _ _ _ _ => trivial), rf_N.warm hW₁ hN⟩
    (rf_body (y := yX5_init) (Q := rf_Big n0) (by decide) rfl (rf_tf l dC dI q n0))
  exact ⟨t, hstep₁ _ fun acts => by rw [doInvoke_state]; exact ht, hq⟩
def rf_PL (n0 : Nat) : Array Value → State → Prop := fun a U => ∃ b : Nat, a = [Value.ref b].toArray ∧ n0 = U.slotsUsed
set_option maxHeartbeats 4000000 in
set_option maxRecDepth 100000 in
/-- the law, into 'new Splitpointer()' -/
theorem rf_law (l : Launch) (n0 : Nat) :
    ∀ p e s m args below meth c s₁, BodyLoose p l x (headSpec (Cond.code x code maxLocals ret :: tables_1) rf_rmL) code maxLocals ret e s m args below meth c s₁ → c.maxLocals = maxLocals → rf_PL n0 args s →
      W p l e rf_rmL s m args below meth c s.heap [] 0 0 (rf_Big n0) (entryFrame m args maxLocals) := by
  intro p e s m args below meth c s₁ B hml hv
  obtain ⟨b, rfl, hn0⟩ := hv
  have hx := B.exec
  have hb := B.bytes
  have hts0 := atoms_spec (ws := Cond.code x code maxLocals ret :: tables_1) B.pre
  have hts := fun (w : Cond) (h : w ∈ rfT) => hts0 w (List.mem_cons_of_mem _ (rf_in1 h))
  have hN : rf_N s := ⟨va_Nw.of rfl (hts0 _ (List.mem_cons_of_mem _ k_nest_X6_9)), va_Nw.of rfl (hts0 _ (List.mem_cons_of_mem _ k_nest_X5_11)), va_Nw.of rfl (hts0 _ (List.mem_cons_of_mem _ k_nest_X5_20)), va_Nw.of rfl (hts0 _ (List.mem_cons_of_mem _ k_nest_X5_27))⟩
  have hown : s.vm.findClass rf_RL = some m.cls := findClass_of_methodNamed B.named
  have hml6 : c.maxLocals = 6 := hml
  have hl := lv_entry ([.ref b]) (n := 6) (Nat.le_of_ble_eq_true rfl)
  refine W.eq (lg_entry_eq m [.ref b] 6) ?_
  generalize (lg_sl ([.ref b]) ++ List.replicate (6 - (lg_sl ([.ref b])).length) Slot.unset).toArray = ls at hl ⊢
  have hl : lv_has ls 6 [(0, .ref b)] := hl
  refine W.newc hx hb hown (hts _ k_cl_L_9) (hts _ k_able_X6) (hts _ k_ini_X6) rfl dL_law_0 (by decide) (by decide) (fun cC kC h1 h2 h3 h4 => ?_)
  refine W.eq (g2 := F0 m 3 ls [.ref s.heap.size]) rfl ?_
  refine lv_dup hx hb dL_law_3 rfl ?_
  intro T hT X
  have hpl : e.platform.magicAccessors = ({} : Platform).magicAccessors := by rw [X.admits.platform]
  obtain ⟨mk, methM, cM, kP, vm₁, hnamed, hmethM, hcodeM, -, hlocalsM, -, hkP, -, hW₁, hstep₁⟩ := Steps.initColdArgs (e := e) (maxL := 1) (bytes := cX6_init) X.here hx X.warmed hpl hown (t := yX6_init) rfl (by decide) (hts _ k_ml_L) (hts _ k_inst_X6) (hts _ k_code_X6) (f := F0 m 4 ls [.ref s.heap.size, .ref s.heap.size]) (a := s.heap.size) (argsL := []) (rest := [.ref s.heap.size]) rfl (fun sig h => by cases h; rfl) rfl (by rw [hb]; exact dL_law_4)
  have X₁ := X.noted hW₁
  have hu0 : s.slotsUsed ≤ T.slotsUsed := rf_used0 X
  obtain ⟨t, ht, hq⟩ := rf_into X₁ (g := F0 m 4 ls [.ref s.heap.size]) rfl (by rw [hml6]; exact hl.1) (by rw [hb]; exact dL_law_4) (lv_room (rest := [.ref s.heap.size]) (Nat.le_of_ble_eq_true rfl)) (X₁.named hnamed) (a := (Value.ref s.heap.size :: []).toArray) (ws := rfW yX6_init cX6_init 1 none) (rm := rf_rm6) rfl
    (pay_in hts (rf_good k_code_X6)) (fun a' U hW => word_at hW (Or.inl (by first | rfl | simp [Cond.onTables, Cond.keeps, Cond.steady])) (hts _ k_ini_X6))
    (by decide) (by decide) (by decide) (by decide) (Pc := rf_P6 n0)
    ⟨s.heap.size, rfl, by rw [hn0]; exact hu0, rf_N.warm hW₁ hN⟩
    (rf_body (y := yX6_init) (Q := rf_Big n0) (by decide) rfl (rf_sp l n0))
  exact ⟨t, hstep₁ _ fun acts => by rw [doInvoke_state]; exact ht, hq⟩
end
section
theorem rf_within (tb : Tables) (e : Env) (below : List Frame) (s t : State) (n0 n : Nat) (o : Outcome) (h : Steps tb e below s t) (hb : rf_Big n0 t) (hend : Ended (stepsAlone tb e n s) below o) : n0 + 1210 ≤ (stepsAlone tb e n s).slotsUsed := by
  obtain ⟨k, hk, hw⟩ := h
  rcases Nat.lt_or_ge n k with hlt | hge
  · exact absurd (hw n hlt) hend.not_within
  · have h1 := (stepsAlone_heap_grows_add tb e k (n - k) s).2
    rw [show k + (n - k) = n by omega, hk] at h1
    exact Nat.le_trans hb h1
/-- a machine with more heap -/
def rf_e (e0 : Env) (a b : Nat) : Env := { e0 with platform := { e0.platform with maxCells := a + e0.platform.maxCells, maxSlots := b + e0.platform.maxSlots } }
theorem rf_admits {l : Launch} {e0 : Env} (a b : Nat) (h : l.admits e0) : l.admits (rf_e e0 a b) := by
  obtain ⟨d1, d2, d3, d4, d5, d6, d7, d8, d9, d10, d11, d12, d13, d14, d15, d16, d17⟩ := h
  exact ⟨d1, d2, d3, d4, congrArg (fun P : Platform => { P with maxCells := a + e0.platform.maxCells, maxSlots := b + e0.platform.maxSlots }) d5, d6, Nat.le_trans d7 (Nat.le_add_left _ _), Nat.le_trans d8 (Nat.le_add_left _ _), d9, d10, d11, d12, d13, d14, d15, d16, d17⟩
theorem rf_room {s : State} {e0 : Env} {r0 r : Room} (h0 : s.hasRoom e0.platform r0 = true) (r1 : r.frames = r0.frames) (r2 : r.locals = r0.locals) (r3 : r.cells ≤ 100000) (r4 : r.slots ≤ 100000) : s.hasRoom (rf_e e0 (s.heap.size + 100000) (s.slotsUsed + 100000)).platform r = true := by
  have hb0 := State.hasRoom_plain h0
  have h9 := State.hasRoom_stack h0
  have h8 := State.hasRoom_real h0
  have ht : s.slotsTrue = true := by
    simp only [State.hasRoom, Bool.and_eq_true] at h0
    exact h0.2
  refine State.hasRoom_of hb0 ?_ ?_ ?_ ?_ ht ?_
  · rw [r1]; exact h9.1
  · rw [r2]; exact h9.2.2.1
  · show s.heap.size + r.cells ≤ s.heap.size + 100000 + e0.platform.maxCells
    omega
  · show s.slotsUsed + r.slots ≤ s.slotsUsed + 100000 + e0.platform.maxSlots
    omega
  · rw [r2]; exact h8
theorem rf_app {ts : List Cond} {r r' : Room} {x : MethodName} {pl pl' : Platform} {s : State} {m : MethodId} {args : Array Value} {below : List Frame} (hf : s.frames = .invoking m args :: below) (h : (headSpec ts r).applies x pl s = true) (hr : s.hasRoom pl' r' = true) : (headSpec ts r').applies x pl' s = true := by
  obtain ⟨q1, q2, q3, q4, q5, q6, q7, q8⟩ := (Spec.applies_iff hf).mp h
  exact (Spec.applies_iff hf).mpr ⟨q1, q2, q3, q4, q5, q6, hr, q8⟩
theorem rf_roomOf {ts : List Cond} {r : Room} {x : MethodName} {pl : Platform} {s : State} {m : MethodId} {args : Array Value} {below : List Frame} (hf : s.frames = .invoking m args :: below) (h : (headSpec ts r).applies x pl s = true) : s.hasRoom pl r = true ∧ s.goesOn := by
  obtain ⟨q1, q2, q3, q4, q5, q6, q7, q8⟩ := (Spec.applies_iff hf).mp h
  exact ⟨q7, q1, q2, q3⟩
theorem rf_args {args : Array Value} {s : State} (hpre : (Cond.and given_1 narrow_1).before args s = true) (hrest : rest_1_c.before args s = true) : ∃ b : Nat, args = [Value.ref b].toArray := by
  have hs := flat_of_before _ hpre
  have hq := flat_of_before _ hrest
  have hc : (Cond.count 1).before args s = true := hs _ (by decide +kernel)
  have harr : (Cond.arrayOf (.arg 0) .int).before args s = true := hs _ (by decide +kernel)
  have hlen : (Cond.isInt (.length (.arg 0))).before args s = true := hq _ (by decide +kernel)
  have hall : (Cond.all (.arg 0) (.isInt (.elem (.arg 0) (.index 0)))).before args s = true := hq _ (by decide +kernel)
  obtain ⟨b, xs, hb, hx⟩ := State.ints_of_pre rfl harr hlen hall
  exact ⟨b, Cond.one_arg hc (show args[0]? = some (.ref b) from hb)⟩
theorem rf_frame {s t : State} {o : Outcome} {L : List Loc} {k n : Nat} (h : Framed s o t L k n) : t.slotsUsed ≤ s.slotsUsed + n := by
  obtain ⟨-, -, h3⟩ := h
  have h4 : t.slotsUsed = s.slotsUsed + _ := h3.2.2.2.1
  have h5 := h3.2.2.2.2.1
  rw [h4]
  exact Nat.add_le_add_left h5 _
/-- from a start of the law, on a machine with more heap: 'new Splitpointer()' makes 1210 slots and more -/
theorem rf_start {l : Launch} {p : Program} {e : Env} {s : State} {m : MethodId} {args : Array Value} {below : List Frame} (ha : l.admits e) (hcas : FairCas e.choices) (hclk : FairClock e.choices) (hf : s.frames = .invoking m args :: below)
    (happ : (headSpec (Cond.code x code maxLocals ret :: tables_1) rf_rmL).applies x e.platform s = true) (hargs : ∃ b : Nat, args = [Value.ref b].toArray) : ∃ t, Steps p.tables e below s t ∧ rf_Big s.slotsUsed t := by
  obtain ⟨b, hb⟩ := hargs
  obtain ⟨t, hst, hbig⟩ := rf_body (y := x) (ws := Cond.code x code maxLocals ret :: tables_1) (rm := rf_rmL) (Pc := rf_PL s.slotsUsed) (Q := rf_Big s.slotsUsed) (by decide) rfl (rf_law l s.slotsUsed) p e ha hcas hclk s m args below hf ((Spec.applies_iff_loose hf).mp happ).1 ⟨b, hb, rfl⟩
  exact ⟨t, Steps.head (rf_roomOf hf happ).2 ⟨[.invoking m args], hf, by simp, by simp⟩ hst, hbig⟩
/-- THE REFUTATION: where a start is there that the Statement's witness promises, the first limb of the claim is false: 'new Splitpointer()', the law's first act, makes more than the 1209 slots that the claim's frame allows -/
theorem p30_refuted (hw : WitnessClaimed_1) : ¬ Claimed_1_1 := by
  intro hC
  obtain ⟨p, e0, s, m, args, below, hL, hWd, had, hleast, hcas, hclk, hf, hargs, hheap, happ, hcalls, hrest, hpre⟩ := hw
  have hroom0 := (rf_roomOf hf happ).1
  have had9 := rf_admits (s.heap.size + 100000) (s.slotsUsed + 100000) had
  have hroom1 := rf_room (r := room_1) hroom0 rfl rfl (Nat.le_of_ble_eq_true rfl) (Nat.le_of_ble_eq_true rfl)
  have hroomL := rf_room (r := rf_rmL) hroom0 rfl rfl (Nat.le_of_ble_eq_true rfl) (Nat.le_of_ble_eq_true rfl)
  obtain ⟨t, hst, hbig⟩ := rf_start (p := p) had9 hcas hclk hf (rf_app hf happ hroomL) (rf_args hpre hrest)
  obtain ⟨n, o, hwithin, hrun, hend, hpost, hfr⟩ := hC launch0 rfl hL hWd p _ had9 hcas hclk s m args below hf hargs hheap (rf_app hf happ hroom1) ⟨hcalls, hrest, hpre⟩
  have h1 := rf_within p.tables _ below s t s.slotsUsed n o hst hbig hend
  have h2 := rf_frame hfr
  omega
end
