/-! names of the classes and constructors that the walk meets (rows of the task's own list of names) -/
def RX1 : String := "Splitpointer$Hashing"
def TX1 : u_T := fun k => match k with
  | 0 => ("Splitpointer$Hashing", "choice", "I", false)
  | _ => ("Splitpointer$Hashing", "seed", "I", false)
def tyX1 : Nat → FieldType := fun k => match k with
  | 0 => .int
  | _ => .int
abbrev wsX10 : List Cond := u_ws RX1 TX1 2
theorem nmX1 : ∀ a, a < 2 → ∀ b, b < 2 → a ≠ b → (TX1 a).2.1 ≠ (TX1 b).2.1 := by decide +kernel
theorem tyX1_ok : ∀ k, k < 2 → parseFieldDescriptor (TX1 k).2.2.1 = some (tyX1 k) := by decide +kernel
abbrev cX1_init : ByteArray := prog_3_method_1_code
def yX1_init : MethodName := ⟨RX1, "<init>", "()V"⟩
def RX2 : String := "Splitpointer$Pages"
def TX2 : u_T := fun k => match k with
  | 0 => ("Splitpointer$Pages", "keys", "LSplitpointer$Row;", true)
  | 1 => ("Splitpointer$Pages", "values", "LSplitpointer$Row;", true)
  | 2 => ("Splitpointer$Pages", "sizes", "LSplitpointer$Row;", true)
  | 3 => ("Splitpointer$Pages", "owners", "LSplitpointer$Row;", true)
  | _ => ("Splitpointer$Pages", "behinds", "LSplitpointer$Row;", true)
def tyX2 : Nat → FieldType := fun k => match k with
  | 0 => .object "Splitpointer$Row"
  | 1 => .object "Splitpointer$Row"
  | 2 => .object "Splitpointer$Row"
  | 3 => .object "Splitpointer$Row"
  | _ => .object "Splitpointer$Row"
abbrev wsX20 : List Cond := u_ws RX2 TX2 5
theorem nmX2 : ∀ a, a < 5 → ∀ b, b < 5 → a ≠ b → (TX2 a).2.1 ≠ (TX2 b).2.1 := by decide +kernel
theorem tyX2_ok : ∀ k, k < 5 → parseFieldDescriptor (TX2 k).2.2.1 = some (tyX2 k) := by decide +kernel
abbrev cX2_init : ByteArray := prog_4_method_1_code
def yX2_init : MethodName := ⟨RX2, "<init>", "()V"⟩
def RX3 : String := "Splitpointer$Row"
def TX3 : u_T := fun k => match k with
  | _ => ("Splitpointer$Row", "cells", "[I", true)
def tyX3 : Nat → FieldType := fun k => match k with
  | _ => .array .int
abbrev wsX30 : List Cond := u_ws RX3 TX3 1
theorem nmX3 : ∀ a, a < 1 → ∀ b, b < 1 → a ≠ b → (TX3 a).2.1 ≠ (TX3 b).2.1 := by decide +kernel
theorem tyX3_ok : ∀ k, k < 1 → parseFieldDescriptor (TX3 k).2.2.1 = some (tyX3 k) := by decide +kernel
abbrev cX3_init : ByteArray := prog_5_method_1_code
def yX3_init : MethodName := ⟨RX3, "<init>", "(I)V"⟩
def RX4 : String := "Splitpointer$Shape"
def TX4 : u_T := fun k => match k with
  | 0 => ("Splitpointer$Shape", "level", "I", false)
  | _ => ("Splitpointer$Shape", "pointer", "I", false)
def tyX4 : Nat → FieldType := fun k => match k with
  | 0 => .int
  | _ => .int
abbrev wsX40 : List Cond := u_ws RX4 TX4 2
theorem nmX4 : ∀ a, a < 2 → ∀ b, b < 2 → a ≠ b → (TX4 a).2.1 ≠ (TX4 b).2.1 := by decide +kernel
theorem tyX4_ok : ∀ k, k < 2 → parseFieldDescriptor (TX4 k).2.2.1 = some (tyX4 k) := by decide +kernel
abbrev cX4_init : ByteArray := prog_6_method_1_code
def yX4_init : MethodName := ⟨RX4, "<init>", "()V"⟩
def RX5 : String := "Splitpointer$TableFile"
def TX5 : u_T := fun k => match k with
  | 0 => ("Splitpointer$TableFile", "hashing", "LSplitpointer$Hashing;", true)
  | 1 => ("Splitpointer$TableFile", "shape", "LSplitpointer$Shape;", true)
  | 2 => ("Splitpointer$TableFile", "pages", "LSplitpointer$Pages;", true)
  | 3 => ("Splitpointer$TableFile", "firsts", "LSplitpointer$Row;", true)
  | 4 => ("Splitpointer$TableFile", "lasts", "LSplitpointer$Row;", true)
  | 5 => ("Splitpointer$TableFile", "filters", "LSplitpointer$Row;", true)
  | 6 => ("Splitpointer$TableFile", "moved", "LSplitpointer$Bundle;", true)
  | 7 => ("Splitpointer$TableFile", "all", "LSplitpointer$Bundle;", true)
  | 8 => ("Splitpointer$TableFile", "cap", "I", false)
  | 9 => ("Splitpointer$TableFile", "lower", "I", false)
  | 10 => ("Splitpointer$TableFile", "upper", "I", false)
  | 11 => ("Splitpointer$TableFile", "records", "I", false)
  | 12 => ("Splitpointer$TableFile", "splits", "I", false)
  | _ => ("Splitpointer$TableFile", "merges", "I", false)
def tyX5 : Nat → FieldType := fun k => match k with
  | 0 => .object "Splitpointer$Hashing"
  | 1 => .object "Splitpointer$Shape"
  | 2 => .object "Splitpointer$Pages"
  | 3 => .object "Splitpointer$Row"
  | 4 => .object "Splitpointer$Row"
  | 5 => .object "Splitpointer$Row"
  | 6 => .object "Splitpointer$Bundle"
  | 7 => .object "Splitpointer$Bundle"
  | 8 => .int
  | 9 => .int
  | 10 => .int
  | 11 => .int
  | 12 => .int
  | _ => .int
abbrev wsX50 : List Cond := u_ws RX5 TX5 14
theorem nmX5 : ∀ a, a < 14 → ∀ b, b < 14 → a ≠ b → (TX5 a).2.1 ≠ (TX5 b).2.1 := by decide +kernel
theorem tyX5_ok : ∀ k, k < 14 → parseFieldDescriptor (TX5 k).2.2.1 = some (tyX5 k) := by decide +kernel
abbrev cX5_init : ByteArray := prog_7_method_1_code
def yX5_init : MethodName := ⟨RX5, "<init>", "()V"⟩
def RX6 : String := "Splitpointer"
abbrev cX6_init : ByteArray := prog_1_method_1_code
def yX6_init : MethodName := ⟨RX6, "<init>", "()V"⟩
theorem dX1_init_0 : decode cX1_init 0 = .ok (.aload_n 0, 1) := by decide +kernel
theorem dX1_init_1 : decode cX1_init 1 = .ok (.invokespecial 3, 3) := by decide +kernel
theorem dX1_init_4 : decode cX1_init 4 = .ok (.return_, 1) := by decide +kernel
theorem dX2_init_0 : decode cX2_init 0 = .ok (.aload_n 0, 1) := by decide +kernel
theorem dX2_init_1 : decode cX2_init 1 = .ok (.invokespecial 3, 3) := by decide +kernel
theorem dX2_init_4 : decode cX2_init 4 = .ok (.aload_n 0, 1) := by decide +kernel
theorem dX2_init_5 : decode cX2_init 5 = .ok (.new 9, 3) := by decide +kernel
theorem dX2_init_8 : decode cX2_init 8 = .ok (.dup, 1) := by decide +kernel
theorem dX2_init_9 : decode cX2_init 9 = .ok (.sipush 384, 3) := by decide +kernel
theorem dX2_init_12 : decode cX2_init 12 = .ok (.invokespecial 11, 3) := by decide +kernel
theorem dX2_init_15 : decode cX2_init 15 = .ok (.putfield 14, 3) := by decide +kernel
theorem dX2_init_18 : decode cX2_init 18 = .ok (.aload_n 0, 1) := by decide +kernel
theorem dX2_init_19 : decode cX2_init 19 = .ok (.new 9, 3) := by decide +kernel
theorem dX2_init_22 : decode cX2_init 22 = .ok (.dup, 1) := by decide +kernel
theorem dX2_init_23 : decode cX2_init 23 = .ok (.sipush 384, 3) := by decide +kernel
theorem dX2_init_26 : decode cX2_init 26 = .ok (.invokespecial 11, 3) := by decide +kernel
theorem dX2_init_29 : decode cX2_init 29 = .ok (.putfield 20, 3) := by decide +kernel
theorem dX2_init_32 : decode cX2_init 32 = .ok (.aload_n 0, 1) := by decide +kernel
theorem dX2_init_33 : decode cX2_init 33 = .ok (.new 9, 3) := by decide +kernel
theorem dX2_init_36 : decode cX2_init 36 = .ok (.dup, 1) := by decide +kernel
theorem dX2_init_37 : decode cX2_init 37 = .ok (.bipush 96, 2) := by decide +kernel
theorem dX2_init_39 : decode cX2_init 39 = .ok (.invokespecial 11, 3) := by decide +kernel
theorem dX2_init_42 : decode cX2_init 42 = .ok (.putfield 23, 3) := by decide +kernel
theorem dX2_init_45 : decode cX2_init 45 = .ok (.aload_n 0, 1) := by decide +kernel
theorem dX2_init_46 : decode cX2_init 46 = .ok (.new 9, 3) := by decide +kernel
theorem dX2_init_49 : decode cX2_init 49 = .ok (.dup, 1) := by decide +kernel
theorem dX2_init_50 : decode cX2_init 50 = .ok (.bipush 96, 2) := by decide +kernel
theorem dX2_init_52 : decode cX2_init 52 = .ok (.invokespecial 11, 3) := by decide +kernel
theorem dX2_init_55 : decode cX2_init 55 = .ok (.putfield 26, 3) := by decide +kernel
theorem dX2_init_58 : decode cX2_init 58 = .ok (.aload_n 0, 1) := by decide +kernel
theorem dX2_init_59 : decode cX2_init 59 = .ok (.new 9, 3) := by decide +kernel
theorem dX2_init_62 : decode cX2_init 62 = .ok (.dup, 1) := by decide +kernel
theorem dX2_init_63 : decode cX2_init 63 = .ok (.bipush 96, 2) := by decide +kernel
theorem dX2_init_65 : decode cX2_init 65 = .ok (.invokespecial 11, 3) := by decide +kernel
theorem dX2_init_68 : decode cX2_init 68 = .ok (.putfield 29, 3) := by decide +kernel
theorem dX2_init_71 : decode cX2_init 71 = .ok (.return_, 1) := by decide +kernel
theorem dX3_init_0 : decode cX3_init 0 = .ok (.aload_n 0, 1) := by decide +kernel
theorem dX3_init_1 : decode cX3_init 1 = .ok (.invokespecial 3, 3) := by decide +kernel
theorem dX3_init_4 : decode cX3_init 4 = .ok (.aload_n 0, 1) := by decide +kernel
theorem dX3_init_5 : decode cX3_init 5 = .ok (.iload_n 1, 1) := by decide +kernel
theorem dX3_init_6 : decode cX3_init 6 = .ok (.ifCond .le 7, 3) := by decide +kernel
theorem dX3_init_9 : decode cX3_init 9 = .ok (.iload_n 1, 1) := by decide +kernel
theorem dX3_init_10 : decode cX3_init 10 = .ok (.goto 4, 3) := by decide +kernel
theorem dX3_init_13 : decode cX3_init 13 = .ok (.iconst 0, 1) := by decide +kernel
theorem dX3_init_14 : decode cX3_init 14 = .ok (.newarray .int, 2) := by decide +kernel
theorem dX3_init_16 : decode cX3_init 16 = .ok (.putfield 9, 3) := by decide +kernel
theorem dX3_init_19 : decode cX3_init 19 = .ok (.return_, 1) := by decide +kernel
theorem dX4_init_0 : decode cX4_init 0 = .ok (.aload_n 0, 1) := by decide +kernel
theorem dX4_init_1 : decode cX4_init 1 = .ok (.invokespecial 3, 3) := by decide +kernel
theorem dX4_init_4 : decode cX4_init 4 = .ok (.return_, 1) := by decide +kernel
theorem dX5_init_0 : decode cX5_init 0 = .ok (.aload_n 0, 1) := by decide +kernel
theorem dX5_init_1 : decode cX5_init 1 = .ok (.invokespecial 3, 3) := by decide +kernel
theorem dX5_init_4 : decode cX5_init 4 = .ok (.aload_n 0, 1) := by decide +kernel
theorem dX5_init_5 : decode cX5_init 5 = .ok (.new 9, 3) := by decide +kernel
theorem dX5_init_8 : decode cX5_init 8 = .ok (.dup, 1) := by decide +kernel
theorem dX5_init_9 : decode cX5_init 9 = .ok (.invokespecial 11, 3) := by decide +kernel
theorem dX5_init_12 : decode cX5_init 12 = .ok (.putfield 12, 3) := by decide +kernel
theorem dX5_init_15 : decode cX5_init 15 = .ok (.aload_n 0, 1) := by decide +kernel
theorem dX5_init_16 : decode cX5_init 16 = .ok (.new 18, 3) := by decide +kernel
theorem dX5_init_19 : decode cX5_init 19 = .ok (.dup, 1) := by decide +kernel
theorem dX5_init_20 : decode cX5_init 20 = .ok (.invokespecial 20, 3) := by decide +kernel
theorem dX5_init_23 : decode cX5_init 23 = .ok (.putfield 21, 3) := by decide +kernel
theorem dX5_init_26 : decode cX5_init 26 = .ok (.aload_n 0, 1) := by decide +kernel
theorem dX5_init_27 : decode cX5_init 27 = .ok (.new 25, 3) := by decide +kernel
theorem dX5_init_30 : decode cX5_init 30 = .ok (.dup, 1) := by decide +kernel
theorem dX5_init_31 : decode cX5_init 31 = .ok (.invokespecial 27, 3) := by decide +kernel
theorem dX5_init_34 : decode cX5_init 34 = .ok (.putfield 28, 3) := by decide +kernel
theorem dX5_init_37 : decode cX5_init 37 = .ok (.aload_n 0, 1) := by decide +kernel
theorem dX5_init_38 : decode cX5_init 38 = .ok (.new 32, 3) := by decide +kernel
theorem dX5_init_41 : decode cX5_init 41 = .ok (.dup, 1) := by decide +kernel
theorem dX5_init_42 : decode cX5_init 42 = .ok (.bipush 64, 2) := by decide +kernel
theorem dX5_init_44 : decode cX5_init 44 = .ok (.invokespecial 34, 3) := by decide +kernel
theorem dX5_init_47 : decode cX5_init 47 = .ok (.putfield 37, 3) := by decide +kernel
theorem dX5_init_50 : decode cX5_init 50 = .ok (.aload_n 0, 1) := by decide +kernel
theorem dX5_init_51 : decode cX5_init 51 = .ok (.new 32, 3) := by decide +kernel
theorem dX5_init_54 : decode cX5_init 54 = .ok (.dup, 1) := by decide +kernel
theorem dX5_init_55 : decode cX5_init 55 = .ok (.bipush 64, 2) := by decide +kernel
theorem dX5_init_57 : decode cX5_init 57 = .ok (.invokespecial 34, 3) := by decide +kernel
theorem dX5_init_60 : decode cX5_init 60 = .ok (.putfield 41, 3) := by decide +kernel
theorem dX5_init_63 : decode cX5_init 63 = .ok (.aload_n 0, 1) := by decide +kernel
theorem dX5_init_64 : decode cX5_init 64 = .ok (.new 32, 3) := by decide +kernel
theorem dX5_init_67 : decode cX5_init 67 = .ok (.dup, 1) := by decide +kernel
theorem dX5_init_68 : decode cX5_init 68 = .ok (.bipush 64, 2) := by decide +kernel
theorem dX5_init_70 : decode cX5_init 70 = .ok (.invokespecial 34, 3) := by decide +kernel
theorem dX6_init_0 : decode cX6_init 0 = .ok (.aload_n 0, 1) := by decide +kernel
theorem dX6_init_1 : decode cX6_init 1 = .ok (.invokespecial 1, 3) := by decide +kernel
theorem dX6_init_4 : decode cX6_init 4 = .ok (.aload_n 0, 1) := by decide +kernel
theorem dX6_init_5 : decode cX6_init 5 = .ok (.new 7, 3) := by decide +kernel
theorem dX6_init_8 : decode cX6_init 8 = .ok (.dup, 1) := by decide +kernel
theorem dX6_init_9 : decode cX6_init 9 = .ok (.invokespecial 9, 3) := by decide +kernel
theorem dL_law_0 : decode code 0 = .ok (.new 9, 3) := by decide +kernel
theorem dL_law_3 : decode code 3 = .ok (.dup, 1) := by decide +kernel
theorem dL_law_4 : decode code 4 = .ok (.invokespecial 11, 3) := by decide +kernel
def rf_RL : String := "SplitpointerLaw"
/-- the good words of the tables -/
def rfT : List Cond := tables_1.filter goodWord
theorem rf_mem {w : Cond} {i : Nat} (h : tables_1[i]? = some w) (hg : goodWord w = true) : w ∈ rfT := List.mem_filter.mpr ⟨List.mem_of_getElem? h, hg⟩
theorem rf_in1 {w : Cond} (h : w ∈ rfT) : w ∈ tables_1 := (List.mem_filter.mp h).1
theorem rf_memR (ws : List Cond) (ps : List Nat) (hp : ws = ps.filterMap (fun i => tables_1[i]?)) (h : ws.all goodWord = true) : ∀ w ∈ ws, w ∈ rfT := by
  intro w hw
  have h1 := List.all_eq_true.mp h w hw
  rw [hp] at hw
  obtain ⟨i, -, hi⟩ := List.mem_filterMap.mp hw
  exact rf_mem hi h1
/-- a method's words: its own code, then all good words of the tables -/
def rfW (y : MethodName) (cc : ByteArray) (n : Nat) (ret : Option FieldType) : List Cond := Cond.code y cc n ret :: rfT
theorem rf_good {y : MethodName} {cc : ByteArray} {n : Nat} {ret : Option FieldType} (h : Cond.code y cc n ret ∈ rfT) : GoodIn rfT (rfW y cc n ret) := by
  intro w hw
  rcases List.mem_cons.mp hw with rfl | hw
  · exact ⟨h, good_of_word (List.mem_filter.mp h).2⟩
  · exact ⟨hw, good_of_word (List.mem_filter.mp hw).2⟩
theorem k_oi_i : (Cond.instanceMethod objectInit) ∈ rfT := rf_mem (i := 21) (by decide +kernel) (by decide +kernel)
theorem k_oi_c : (Cond.code objectInit ⟨#[0xb1]⟩ 1 none) ∈ rfT := rf_mem (i := 22) (by decide +kernel) (by decide +kernel)
theorem k_oi_X1 : (Cond.methodLink RX1 3 objectInit) ∈ rfT := rf_mem (i := 34) (by decide +kernel) (by decide +kernel)
theorem k_oi_X2 : (Cond.methodLink RX2 3 objectInit) ∈ rfT := rf_mem (i := 66) (by decide +kernel) (by decide +kernel)
theorem k_oi_X3 : (Cond.methodLink RX3 3 objectInit) ∈ rfT := rf_mem (i := 72) (by decide +kernel) (by decide +kernel)
theorem k_oi_X4 : (Cond.methodLink RX4 3 objectInit) ∈ rfT := rf_mem (i := 49) (by decide +kernel) (by decide +kernel)
theorem k_oi_X5 : (Cond.methodLink RX5 3 objectInit) ∈ rfT := rf_mem (i := 28) (by decide +kernel) (by decide +kernel)
theorem k_oi_X6 : (Cond.methodLink RX6 1 objectInit) ∈ rfT := rf_mem (i := 20) (by decide +kernel) (by decide +kernel)
theorem k_code_X1 : (Cond.code yX1_init cX1_init 1 none) ∈ rfT := rf_mem (i := 33) (by decide +kernel) (by decide +kernel)
theorem k_inst_X1 : (Cond.instanceMethod yX1_init) ∈ rfT := rf_mem (i := 32) (by decide +kernel) (by decide +kernel)
theorem k_able_X1 : (Cond.instantiable RX1 2) ∈ rfT := rf_mem (i := 30) (by decide +kernel) (by decide +kernel)
theorem k_ini_X1 : (Cond.initialized RX1) ∈ rfT := rf_mem (i := 3) (by decide +kernel) (by decide +kernel)
theorem k_code_X2 : (Cond.code yX2_init cX2_init 1 none) ∈ rfT := rf_mem (i := 65) (by decide +kernel) (by decide +kernel)
theorem k_inst_X2 : (Cond.instanceMethod yX2_init) ∈ rfT := rf_mem (i := 64) (by decide +kernel) (by decide +kernel)
theorem k_able_X2 : (Cond.instantiable RX2 5) ∈ rfT := rf_mem (i := 62) (by decide +kernel) (by decide +kernel)
theorem k_ini_X2 : (Cond.initialized RX2) ∈ rfT := rf_mem (i := 5) (by decide +kernel) (by decide +kernel)
theorem k_code_X3 : (Cond.code yX3_init cX3_init 2 none) ∈ rfT := rf_mem (i := 71) (by decide +kernel) (by decide +kernel)
theorem k_inst_X3 : (Cond.instanceMethod yX3_init) ∈ rfT := rf_mem (i := 70) (by decide +kernel) (by decide +kernel)
theorem k_able_X3 : (Cond.instantiable RX3 1) ∈ rfT := rf_mem (i := 68) (by decide +kernel) (by decide +kernel)
theorem k_ini_X3 : (Cond.initialized RX3) ∈ rfT := rf_mem (i := 6) (by decide +kernel) (by decide +kernel)
theorem k_code_X4 : (Cond.code yX4_init cX4_init 1 none) ∈ rfT := rf_mem (i := 48) (by decide +kernel) (by decide +kernel)
theorem k_inst_X4 : (Cond.instanceMethod yX4_init) ∈ rfT := rf_mem (i := 47) (by decide +kernel) (by decide +kernel)
theorem k_able_X4 : (Cond.instantiable RX4 2) ∈ rfT := rf_mem (i := 45) (by decide +kernel) (by decide +kernel)
theorem k_ini_X4 : (Cond.initialized RX4) ∈ rfT := rf_mem (i := 4) (by decide +kernel) (by decide +kernel)
theorem k_code_X5 : (Cond.code yX5_init cX5_init 1 none) ∈ rfT := rf_mem (i := 27) (by decide +kernel) (by decide +kernel)
theorem k_inst_X5 : (Cond.instanceMethod yX5_init) ∈ rfT := rf_mem (i := 26) (by decide +kernel) (by decide +kernel)
theorem k_able_X5 : (Cond.instantiable RX5 14) ∈ rfT := rf_mem (i := 24) (by decide +kernel) (by decide +kernel)
theorem k_ini_X5 : (Cond.initialized RX5) ∈ rfT := rf_mem (i := 2) (by decide +kernel) (by decide +kernel)
theorem k_code_X6 : (Cond.code yX6_init cX6_init 1 none) ∈ rfT := rf_mem (i := 19) (by decide +kernel) (by decide +kernel)
theorem k_inst_X6 : (Cond.instanceMethod yX6_init) ∈ rfT := rf_mem (i := 18) (by decide +kernel) (by decide +kernel)
theorem k_able_X6 : (Cond.instantiable RX6 16) ∈ rfT := rf_mem (i := 16) (by decide +kernel) (by decide +kernel)
theorem k_ini_X6 : (Cond.initialized RX6) ∈ rfT := rf_mem (i := 1) (by decide +kernel) (by decide +kernel)
theorem k_arr : (Cond.arrayClass .int) ∈ rfT := rf_mem (i := 77) (by decide +kernel) (by decide +kernel)
theorem k_cl_L_9 : (Cond.classLink rf_RL 9 RX6) ∈ rfT := rf_mem (i := 15) (by decide +kernel) (by decide +kernel)
theorem k_cl_X6_7 : (Cond.classLink RX6 7 RX5) ∈ rfT := rf_mem (i := 23) (by decide +kernel) (by decide +kernel)
theorem k_cl_X5_9 : (Cond.classLink RX5 9 RX1) ∈ rfT := rf_mem (i := 29) (by decide +kernel) (by decide +kernel)
theorem k_cl_X5_18 : (Cond.classLink RX5 18 RX4) ∈ rfT := rf_mem (i := 44) (by decide +kernel) (by decide +kernel)
theorem k_cl_X5_25 : (Cond.classLink RX5 25 RX2) ∈ rfT := rf_mem (i := 61) (by decide +kernel) (by decide +kernel)
theorem k_cl_X5_32 : (Cond.classLink RX5 32 RX3) ∈ rfT := rf_mem (i := 94) (by decide +kernel) (by decide +kernel)
theorem k_cl_X2_9 : (Cond.classLink RX2 9 RX3) ∈ rfT := rf_mem (i := 67) (by decide +kernel) (by decide +kernel)
theorem k_ml_L : (Cond.methodLink rf_RL 11 yX6_init) ∈ rfT := rf_mem (i := 17) (by decide +kernel) (by decide +kernel)
theorem k_ml_X2 : (Cond.methodLink RX2 11 yX3_init) ∈ rfT := rf_mem (i := 69) (by decide +kernel) (by decide +kernel)
theorem k_ml_X5 : (Cond.methodLink RX5 34 yX3_init) ∈ rfT := rf_mem (i := 95) (by decide +kernel) (by decide +kernel)
theorem k_nest_X6_9 : (Cond.methodLinkNest RX6 9 yX5_init "Splitpointer") ∈ tables_1 := List.mem_of_getElem? (i := 25) (by decide +kernel)
theorem k_nest_X5_11 : (Cond.methodLinkNest RX5 11 yX1_init "Splitpointer") ∈ tables_1 := List.mem_of_getElem? (i := 31) (by decide +kernel)
theorem k_nest_X5_20 : (Cond.methodLinkNest RX5 20 yX4_init "Splitpointer") ∈ tables_1 := List.mem_of_getElem? (i := 46) (by decide +kernel)
theorem k_nest_X5_27 : (Cond.methodLinkNest RX5 27 yX2_init "Splitpointer") ∈ tables_1 := List.mem_of_getElem? (i := 63) (by decide +kernel)
theorem k_fl_X2_14 : (Cond.fieldLink RX2 14 "Splitpointer$Pages" "keys" "LSplitpointer$Row;") ∈ rfT := rf_mem (i := 78) (by decide +kernel) (by decide +kernel)
theorem k_fl_X2_20 : (Cond.fieldLink RX2 20 "Splitpointer$Pages" "values" "LSplitpointer$Row;") ∈ rfT := rf_mem (i := 79) (by decide +kernel) (by decide +kernel)
theorem k_fl_X2_23 : (Cond.fieldLink RX2 23 "Splitpointer$Pages" "sizes" "LSplitpointer$Row;") ∈ rfT := rf_mem (i := 80) (by decide +kernel) (by decide +kernel)
theorem k_fl_X2_26 : (Cond.fieldLink RX2 26 "Splitpointer$Pages" "owners" "LSplitpointer$Row;") ∈ rfT := rf_mem (i := 81) (by decide +kernel) (by decide +kernel)
theorem k_fl_X2_29 : (Cond.fieldLink RX2 29 "Splitpointer$Pages" "behinds" "LSplitpointer$Row;") ∈ rfT := rf_mem (i := 82) (by decide +kernel) (by decide +kernel)
theorem k_fl_X5_12 : (Cond.fieldLink RX5 12 "Splitpointer$TableFile" "hashing" "LSplitpointer$Hashing;") ∈ rfT := rf_mem (i := 116) (by decide +kernel) (by decide +kernel)
theorem k_fl_X5_21 : (Cond.fieldLink RX5 21 "Splitpointer$TableFile" "shape" "LSplitpointer$Shape;") ∈ rfT := rf_mem (i := 118) (by decide +kernel) (by decide +kernel)
theorem k_fl_X5_28 : (Cond.fieldLink RX5 28 "Splitpointer$TableFile" "pages" "LSplitpointer$Pages;") ∈ rfT := rf_mem (i := 120) (by decide +kernel) (by decide +kernel)
theorem k_fl_X5_37 : (Cond.fieldLink RX5 37 "Splitpointer$TableFile" "firsts" "LSplitpointer$Row;") ∈ rfT := rf_mem (i := 122) (by decide +kernel) (by decide +kernel)
theorem k_fl_X5_41 : (Cond.fieldLink RX5 41 "Splitpointer$TableFile" "lasts" "LSplitpointer$Row;") ∈ rfT := rf_mem (i := 123) (by decide +kernel) (by decide +kernel)
theorem k_fl_X5_44 : (Cond.fieldLink RX5 44 "Splitpointer$TableFile" "filters" "LSplitpointer$Row;") ∈ rfT := rf_mem (i := 124) (by decide +kernel) (by decide +kernel)
theorem k_fl_X3_9 : (Cond.fieldLink RX3 9 "Splitpointer$Row" "cells" "[I") ∈ rfT := rf_mem (i := 73) (by decide +kernel) (by decide +kernel)
theorem inX1 : ∀ w ∈ u_ws RX1 TX1 2, w ∈ rfT := rf_memR _ [39, 41] (by decide +kernel) (by decide +kernel)
theorem inX2 : ∀ w ∈ u_ws RX2 TX2 5, w ∈ rfT := rf_memR _ [83, 85, 87, 89, 91] (by decide +kernel) (by decide +kernel)
theorem inX3 : ∀ w ∈ u_ws RX3 TX3 1, w ∈ rfT := rf_memR _ [74] (by decide +kernel) (by decide +kernel)
theorem inX4 : ∀ w ∈ u_ws RX4 TX4 2, w ∈ rfT := rf_memR _ [56, 58] (by decide +kernel) (by decide +kernel)
theorem inX5 : ∀ w ∈ u_ws RX5 TX5 14, w ∈ rfT := rf_memR _ [136, 138, 140, 142, 144, 146, 148, 150, 152, 154, 156, 158, 160, 162] (by decide +kernel) (by decide +kernel)
abbrev rfCl : List vw_C := [(RX1, TX1, 2), (RX2, TX2, 5), (RX3, TX3, 1), (RX4, TX4, 2), (RX5, TX5, 14)]
