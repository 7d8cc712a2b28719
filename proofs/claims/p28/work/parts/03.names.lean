/-! ===== BEGIN printed: names, fields, word lists, decode rows ===== -/
def RX0 : String := "NetworkDatabase$Gathering"
def TX0 : u_T := fun k => match k with
  | 0 => ("NetworkDatabase$Gathering", "order", "LNetworkDatabase$Row;", true)
  | 1 => ("NetworkDatabase$Gathering", "places", "LNetworkDatabase$Row;", true)
  | _ => ("NetworkDatabase$Gathering", "size", "I", false)
def tyX0 : Nat → FieldType := fun k => match k with
  | 0 => .object "NetworkDatabase$Row"
  | 1 => .object "NetworkDatabase$Row"
  | _ => .int
abbrev wsX00 : List Cond := u_ws RX0 TX0 3
theorem nmX0 : ∀ a, a < 3 → ∀ b, b < 3 → a ≠ b → (TX0 a).2.1 ≠ (TX0 b).2.1 := by decide +kernel
theorem tyX0_ok : ∀ k, k < 3 → parseFieldDescriptor (TX0 k).2.2.1 = some (tyX0 k) := by decide +kernel
abbrev cX0_init : ByteArray := prog_2_method_1_code
def yX0_init : MethodName := ⟨RX0, "<init>", "()V"⟩
abbrev cX0_clear : ByteArray := prog_2_method_2_code
def yX0_clear : MethodName := ⟨RX0, "clear", "()V"⟩
abbrev cX0_add : ByteArray := prog_2_method_3_code
def yX0_add : MethodName := ⟨RX0, "add", "(I)V"⟩
abbrev cX0_at : ByteArray := prog_2_method_4_code
def yX0_at : MethodName := ⟨RX0, "at", "(I)I"⟩
def RX1 : String := "NetworkDatabase$Row"
def TX1 : u_T := fun k => match k with
  | _ => ("NetworkDatabase$Row", "cells", "[I", true)
def tyX1 : Nat → FieldType := fun k => match k with
  | _ => .array .int
abbrev wsX10 : List Cond := u_ws RX1 TX1 1
theorem nmX1 : ∀ a, a < 1 → ∀ b, b < 1 → a ≠ b → (TX1 a).2.1 ≠ (TX1 b).2.1 := by decide +kernel
theorem tyX1_ok : ∀ k, k < 1 → parseFieldDescriptor (TX1 k).2.2.1 = some (tyX1 k) := by decide +kernel
abbrev cX1_init : ByteArray := prog_3_method_1_code
def yX1_init : MethodName := ⟨RX1, "<init>", "(I)V"⟩
abbrev cX1_at : ByteArray := prog_3_method_2_code
def yX1_at : MethodName := ⟨RX1, "at", "(I)I"⟩
abbrev cX1_put : ByteArray := prog_3_method_3_code
def yX1_put : MethodName := ⟨RX1, "put", "(II)V"⟩
abbrev cX1_clear : ByteArray := prog_3_method_4_code
def yX1_clear : MethodName := ⟨RX1, "clear", "()V"⟩
def RX2 : String := "NetworkDatabase$SetType"
def TX2 : u_T := fun k => match k with
  | 0 => ("NetworkDatabase$SetType", "ownerType", "I", true)
  | 1 => ("NetworkDatabase$SetType", "memberType", "I", true)
  | 2 => ("NetworkDatabase$SetType", "insertion", "I", true)
  | 3 => ("NetworkDatabase$SetType", "automatic", "Z", true)
  | 4 => ("NetworkDatabase$SetType", "retention", "I", true)
  | 5 => ("NetworkDatabase$SetType", "ring", "LNetworkDatabase$Row;", true)
  | 6 => ("NetworkDatabase$SetType", "behind", "LNetworkDatabase$Row;", true)
  | 7 => ("NetworkDatabase$SetType", "ahead", "LNetworkDatabase$Row;", true)
  | _ => ("NetworkDatabase$SetType", "current", "I", false)
def tyX2 : Nat → FieldType := fun k => match k with
  | 0 => .int
  | 1 => .int
  | 2 => .int
  | 3 => .boolean
  | 4 => .int
  | 5 => .object "NetworkDatabase$Row"
  | 6 => .object "NetworkDatabase$Row"
  | 7 => .object "NetworkDatabase$Row"
  | _ => .int
abbrev wsX20 : List Cond := u_ws RX2 TX2 9
theorem nmX2 : ∀ a, a < 9 → ∀ b, b < 9 → a ≠ b → (TX2 a).2.1 ≠ (TX2 b).2.1 := by decide +kernel
theorem tyX2_ok : ∀ k, k < 9 → parseFieldDescriptor (TX2 k).2.2.1 = some (tyX2 k) := by decide +kernel
abbrev cX2_init : ByteArray := prog_4_method_1_code
def yX2_init : MethodName := ⟨RX2, "<init>", "(IIIZI)V"⟩
abbrev cX2_owns : ByteArray := prog_4_method_2_code
def yX2_owns : MethodName := ⟨RX2, "owns", "(I)Z"⟩
abbrev cX2_isMember : ByteArray := prog_4_method_3_code
def yX2_isMember : MethodName := ⟨RX2, "isMember", "(I)Z"⟩
abbrev cX2_takesAtStore : ByteArray := prog_4_method_4_code
def yX2_takesAtStore : MethodName := ⟨RX2, "takesAtStore", "(I)Z"⟩
abbrev cX2_erasesMembers : ByteArray := prog_4_method_5_code
def yX2_erasesMembers : MethodName := ⟨RX2, "erasesMembers", "(I)Z"⟩
abbrev cX2_currentOwner : ByteArray := prog_4_method_6_code
def yX2_currentOwner : MethodName := ⟨RX2, "currentOwner", "()I"⟩
abbrev cX2_admit : ByteArray := prog_4_method_7_code
/-- the name that a word of the tables gives a method -/
def nm_of : Cond → String
  | .instanceMethod y => y.name
  | _ => ""
def yX2_admit : MethodName := ⟨RX2, nm_of (lw_tbl.getD 466 .tt), "(IILNetworkDatabase$Row;)V"⟩
abbrev cX2_insert : ByteArray := prog_4_method_8_code
def yX2_insert : MethodName := ⟨RX2, "insert", "(IILNetworkDatabase$Row;)V"⟩
abbrev cX2_frontFor : ByteArray := prog_4_method_9_code
def yX2_frontFor : MethodName := ⟨RX2, "frontFor", "(IILNetworkDatabase$Row;)I"⟩
abbrev cX2_frontBySorting : ByteArray := prog_4_method_10_code
def yX2_frontBySorting : MethodName := ⟨RX2, "frontBySorting", "(IILNetworkDatabase$Row;)I"⟩
abbrev cX2_link : ByteArray := prog_4_method_11_code
def yX2_link : MethodName := ⟨RX2, "link", "(II)V"⟩
abbrev cX2_takeOut : ByteArray := prog_4_method_12_code
def yX2_takeOut : MethodName := ⟨RX2, "takeOut", "(I)V"⟩
abbrev cX2_release : ByteArray := prog_4_method_13_code
def yX2_release : MethodName := ⟨RX2, "release", "(I)V"⟩
abbrev cX2_sortAnew : ByteArray := prog_4_method_14_code
def yX2_sortAnew : MethodName := ⟨RX2, "sortAnew", "(ILNetworkDatabase$Row;)V"⟩
abbrev cX2_forget : ByteArray := prog_4_method_15_code
def yX2_forget : MethodName := ⟨RX2, "forget", "(I)V"⟩
abbrev cX2_releaseMembers : ByteArray := prog_4_method_16_code
def yX2_releaseMembers : MethodName := ⟨RX2, "releaseMembers", "(I)V"⟩
abbrev cX2_gather : ByteArray := prog_4_method_17_code
def yX2_gather : MethodName := ⟨RX2, "gather", "(ILNetworkDatabase$Gathering;)V"⟩
abbrev cX2_neighbour : ByteArray := prog_4_method_18_code
def yX2_neighbour : MethodName := ⟨RX2, "neighbour", "(IZ)I"⟩
abbrev cX2_firstWithValue : ByteArray := prog_4_method_19_code
def yX2_firstWithValue : MethodName := ⟨RX2, "firstWithValue", "(IILNetworkDatabase$Row;)I"⟩
abbrev cX2_countByRing : ByteArray := prog_4_method_20_code
def yX2_countByRing : MethodName := ⟨RX2, "countByRing", "(I)I"⟩
abbrev cX2_countByTable : ByteArray := prog_4_method_21_code
def yX2_countByTable : MethodName := ⟨RX2, "countByTable", "(I)I"⟩
abbrev cX2_memberByPlace : ByteArray := prog_4_method_22_code
def yX2_memberByPlace : MethodName := ⟨RX2, "memberByPlace", "(II)I"⟩
def RX3 : String := "NetworkDatabase"
def TX3 : u_T := fun k => match k with
  | 0 => ("NetworkDatabase", "sets", "Ljava/util/ArrayList;", true)
  | 1 => ("NetworkDatabase", "types", "LNetworkDatabase$Row;", true)
  | 2 => ("NetworkDatabase", "values", "LNetworkDatabase$Row;", true)
  | 3 => ("NetworkDatabase", "currentOfTypes", "LNetworkDatabase$Row;", true)
  | 4 => ("NetworkDatabase", "doomed", "LNetworkDatabase$Gathering;", true)
  | 5 => ("NetworkDatabase", "stored", "I", false)
  | 6 => ("NetworkDatabase", "present", "I", false)
  | _ => ("NetworkDatabase", "runUnit", "I", false)
def tyX3 : Nat → FieldType := fun k => match k with
  | 0 => .object "java/util/ArrayList"
  | 1 => .object "NetworkDatabase$Row"
  | 2 => .object "NetworkDatabase$Row"
  | 3 => .object "NetworkDatabase$Row"
  | 4 => .object "NetworkDatabase$Gathering"
  | 5 => .int
  | 6 => .int
  | _ => .int
abbrev wsX30 : List Cond := u_ws RX3 TX3 8
theorem nmX3 : ∀ a, a < 8 → ∀ b, b < 8 → a ≠ b → (TX3 a).2.1 ≠ (TX3 b).2.1 := by decide +kernel
theorem tyX3_ok : ∀ k, k < 8 → parseFieldDescriptor (TX3 k).2.2.1 = some (tyX3 k) := by decide +kernel
abbrev cX3_init : ByteArray := prog_1_method_1_code
def yX3_init : MethodName := ⟨RX3, "<init>", "()V"⟩
abbrev cX3_declare : ByteArray := prog_1_method_2_code
def yX3_declare : MethodName := ⟨RX3, "declare", "(IIIZI)I"⟩
abbrev cX3_store : ByteArray := prog_1_method_3_code
def yX3_store : MethodName := ⟨RX3, "store", "(II)I"⟩
abbrev cX3_modify : ByteArray := prog_1_method_4_code
def yX3_modify : MethodName := ⟨RX3, "modify", "(I)I"⟩
abbrev cX3_erase : ByteArray := prog_1_method_5_code
def yX3_erase : MethodName := ⟨RX3, "erase", "(I)I"⟩
abbrev cX3_connect : ByteArray := prog_1_method_6_code
def yX3_connect : MethodName := ⟨RX3, "connect", "(I)I"⟩
abbrev cX3_disconnect : ByteArray := prog_1_method_7_code
def yX3_disconnect : MethodName := ⟨RX3, "disconnect", "(I)I"⟩
abbrev cX3_reconnect : ByteArray := prog_1_method_8_code
def yX3_reconnect : MethodName := ⟨RX3, "reconnect", "(II)I"⟩
abbrev cX3_find : ByteArray := prog_1_method_9_code
def yX3_find : MethodName := ⟨RX3, "find", "(I)I"⟩
abbrev cX3_findOf : ByteArray := prog_1_method_10_code
def yX3_findOf : MethodName := ⟨RX3, "findOf", "(IZ)I"⟩
abbrev cX3_findEnd : ByteArray := prog_1_method_11_code
def yX3_findEnd : MethodName := ⟨RX3, "findEnd", "(IZ)I"⟩
abbrev cX3_findNext : ByteArray := prog_1_method_12_code
def yX3_findNext : MethodName := ⟨RX3, "findNext", "(IZ)I"⟩
abbrev cX3_findOwner : ByteArray := prog_1_method_13_code
def yX3_findOwner : MethodName := ⟨RX3, "findOwner", "(I)I"⟩
abbrev cX3_findValue : ByteArray := prog_1_method_14_code
def yX3_findValue : MethodName := ⟨RX3, "findValue", "(II)I"⟩
abbrev cX3_setTypes : ByteArray := prog_1_method_15_code
def yX3_setTypes : MethodName := ⟨RX3, "setTypes", "()I"⟩
abbrev cX3_records : ByteArray := prog_1_method_16_code
def yX3_records : MethodName := ⟨RX3, "records", "()I"⟩
abbrev cX3_current : ByteArray := prog_1_method_17_code
def yX3_current : MethodName := ⟨RX3, "current", "()I"⟩
abbrev cX3_currentOf : ByteArray := prog_1_method_18_code
def yX3_currentOf : MethodName := ⟨RX3, "currentOf", "(I)I"⟩
abbrev cX3_currentIn : ByteArray := prog_1_method_19_code
def yX3_currentIn : MethodName := ⟨RX3, "currentIn", "(I)I"⟩
abbrev cX3_typeOf : ByteArray := prog_1_method_20_code
def yX3_typeOf : MethodName := ⟨RX3, "typeOf", "(I)I"⟩
abbrev cX3_valueOf : ByteArray := prog_1_method_21_code
def yX3_valueOf : MethodName := ⟨RX3, "valueOf", "(I)I"⟩
abbrev cX3_ownerOf : ByteArray := prog_1_method_22_code
def yX3_ownerOf : MethodName := ⟨RX3, "ownerOf", "(II)I"⟩
abbrev cX3_members : ByteArray := prog_1_method_23_code
def yX3_members : MethodName := ⟨RX3, "members", "(II)I"⟩
abbrev cX3_membersByTable : ByteArray := prog_1_method_24_code
def yX3_membersByTable : MethodName := ⟨RX3, "membersByTable", "(II)I"⟩
abbrev cX3_memberAt : ByteArray := prog_1_method_25_code
def yX3_memberAt : MethodName := ⟨RX3, "memberAt", "(III)I"⟩
abbrev cX3_wouldErase : ByteArray := prog_1_method_26_code
def yX3_wouldErase : MethodName := ⟨RX3, "wouldErase", "(II)I"⟩
abbrev cX3_requireType : ByteArray := prog_1_method_27_code
def yX3_requireType : MethodName := ⟨RX3, "requireType", "(I)V"⟩
abbrev cX3_requireValue : ByteArray := prog_1_method_28_code
def yX3_requireValue : MethodName := ⟨RX3, "requireValue", "(I)V"⟩
abbrev cX3_requireWay : ByteArray := prog_1_method_29_code
def yX3_requireWay : MethodName := ⟨RX3, "requireWay", "(I)V"⟩
abbrev cX3_requireSet : ByteArray := prog_1_method_30_code
def yX3_requireSet : MethodName := ⟨RX3, "requireSet", "(I)LNetworkDatabase$SetType;"⟩
abbrev cX3_requireRecord : ByteArray := prog_1_method_31_code
def yX3_requireRecord : MethodName := ⟨RX3, "requireRecord", "(I)V"⟩
abbrev cX3_requireRunUnit : ByteArray := prog_1_method_32_code
def yX3_requireRunUnit : MethodName := ⟨RX3, "requireRunUnit", "()V"⟩
abbrev cX3_requireMembership : ByteArray := prog_1_method_33_code
def yX3_requireMembership : MethodName := ⟨RX3, "requireMembership", "(LNetworkDatabase$SetType;)V"⟩
abbrev cX3_lacksSetFor : ByteArray := prog_1_method_34_code
def yX3_lacksSetFor : MethodName := ⟨RX3, "lacksSetFor", "(I)Z"⟩
abbrev cX3_makeCurrent : ByteArray := prog_1_method_35_code
def yX3_makeCurrent : MethodName := ⟨RX3, "makeCurrent", "(I)I"⟩
abbrev cX3_gatherDoomed : ByteArray := prog_1_method_36_code
def yX3_gatherDoomed : MethodName := ⟨RX3, "gatherDoomed", "(II)I"⟩
abbrev cX3_gatherMembers : ByteArray := prog_1_method_37_code
def yX3_gatherMembers : MethodName := ⟨RX3, "gatherMembers", "(II)V"⟩
abbrev cX3_hasMembers : ByteArray := prog_1_method_38_code
def yX3_hasMembers : MethodName := ⟨RX3, "hasMembers", "(I)Z"⟩
abbrev cX3_remove : ByteArray := prog_1_method_39_code
def yX3_remove : MethodName := ⟨RX3, "remove", "(I)V"⟩
def RX4 : String := "NetworkDatabaseModel"
def TX4 : u_T := fun k => match k with
  | _ => ("", "", "", false)
def tyX4 : Nat → FieldType := fun k => match k with
  | _ => .int
abbrev wsX40 : List Cond := u_ws RX4 TX4 0
theorem nmX4 : ∀ a, a < 0 → ∀ b, b < 0 → a ≠ b → (TX4 a).2.1 ≠ (TX4 b).2.1 := by decide +kernel
theorem tyX4_ok : ∀ k, k < 0 → parseFieldDescriptor (TX4 k).2.2.1 = some (tyX4 k) := by decide +kernel
def RJx145de : String := "java/io/Serializable"
def TJx145de : u_T := fun k => match k with
  | _ => ("", "", "", false)
def tyJx145de : Nat → FieldType := fun k => match k with
  | _ => .int
abbrev wsJx145de0 : List Cond := u_ws RJx145de TJx145de 0
theorem nmJx145de : ∀ a, a < 0 → ∀ b, b < 0 → a ≠ b → (TJx145de a).2.1 ≠ (TJx145de b).2.1 := by decide +kernel
theorem tyJx145de_ok : ∀ k, k < 0 → parseFieldDescriptor (TJx145de k).2.2.1 = some (tyJx145de k) := by decide +kernel
def RJx8e188 : String := "java/lang/Cloneable"
def TJx8e188 : u_T := fun k => match k with
  | _ => ("", "", "", false)
def tyJx8e188 : Nat → FieldType := fun k => match k with
  | _ => .int
abbrev wsJx8e1880 : List Cond := u_ws RJx8e188 TJx8e188 0
theorem nmJx8e188 : ∀ a, a < 0 → ∀ b, b < 0 → a ≠ b → (TJx8e188 a).2.1 ≠ (TJx8e188 b).2.1 := by decide +kernel
theorem tyJx8e188_ok : ∀ k, k < 0 → parseFieldDescriptor (TJx8e188 k).2.2.1 = some (tyJx8e188 k) := by decide +kernel
def RJxab1ab : String := "java/lang/Iterable"
def TJxab1ab : u_T := fun k => match k with
  | _ => ("", "", "", false)
def tyJxab1ab : Nat → FieldType := fun k => match k with
  | _ => .int
abbrev wsJxab1ab0 : List Cond := u_ws RJxab1ab TJxab1ab 0
theorem nmJxab1ab : ∀ a, a < 0 → ∀ b, b < 0 → a ≠ b → (TJxab1ab a).2.1 ≠ (TJxab1ab b).2.1 := by decide +kernel
theorem tyJxab1ab_ok : ∀ k, k < 0 → parseFieldDescriptor (TJxab1ab k).2.2.1 = some (tyJxab1ab k) := by decide +kernel
def RJ9 : String := "java/lang/Math"
def TJ9 : u_T := fun k => match k with
  | _ => ("", "", "", false)
def tyJ9 : Nat → FieldType := fun k => match k with
  | _ => .int
abbrev wsJ90 : List Cond := u_ws RJ9 TJ9 0
theorem nmJ9 : ∀ a, a < 0 → ∀ b, b < 0 → a ≠ b → (TJ9 a).2.1 ≠ (TJ9 b).2.1 := by decide +kernel
theorem tyJ9_ok : ∀ k, k < 0 → parseFieldDescriptor (TJ9 k).2.2.1 = some (tyJ9 k) := by decide +kernel
abbrev cJ9_max_7cf53 : ByteArray := prog_14_method_65_code
def yJ9_max_7cf53 : MethodName := ⟨RJ9, "max", "(II)I"⟩
abbrev cJ9_min_7cf53 : ByteArray := prog_14_method_69_code
def yJ9_min_7cf53 : MethodName := ⟨RJ9, "min", "(II)I"⟩
def RJ0 : String := "java/lang/String"
def TJ0 : u_T := fun k => match k with
  | _ => ("", "", "", false)
def tyJ0 : Nat → FieldType := fun k => match k with
  | _ => .int
abbrev wsJ00 : List Cond := u_ws RJ0 TJ0 0
theorem nmJ0 : ∀ a, a < 0 → ∀ b, b < 0 → a ≠ b → (TJ0 a).2.1 ≠ (TJ0 b).2.1 := by decide +kernel
theorem tyJ0_ok : ∀ k, k < 0 → parseFieldDescriptor (TJ0 k).2.2.1 = some (tyJ0 k) := by decide +kernel
def RJ10 : String := "java/lang/System"
def TJ10 : u_T := fun k => match k with
  | _ => ("", "", "", false)
def tyJ10 : Nat → FieldType := fun k => match k with
  | _ => .int
abbrev wsJ100 : List Cond := u_ws RJ10 TJ10 0
theorem nmJ10 : ∀ a, a < 0 → ∀ b, b < 0 → a ≠ b → (TJ10 a).2.1 ≠ (TJ10 b).2.1 := by decide +kernel
theorem tyJ10_ok : ∀ k, k < 0 → parseFieldDescriptor (TJ10 k).2.2.1 = some (tyJ10 k) := by decide +kernel
def RJxa1e45 : String := "java/util/AbstractCollection"
def TJxa1e45 : u_T := fun k => match k with
  | _ => ("", "", "", false)
def tyJxa1e45 : Nat → FieldType := fun k => match k with
  | _ => .int
abbrev wsJxa1e450 : List Cond := u_ws RJxa1e45 TJxa1e45 0
theorem nmJxa1e45 : ∀ a, a < 0 → ∀ b, b < 0 → a ≠ b → (TJxa1e45 a).2.1 ≠ (TJxa1e45 b).2.1 := by decide +kernel
theorem tyJxa1e45_ok : ∀ k, k < 0 → parseFieldDescriptor (TJxa1e45 k).2.2.1 = some (tyJxa1e45 k) := by decide +kernel
abbrev cJxa1e45_init_da8c8 : ByteArray := prog_19_method_1_code
def yJxa1e45_init_da8c8 : MethodName := ⟨RJxa1e45, "<init>", "()V"⟩
def RJxc12de : String := "java/util/AbstractList"
def TJxc12de : u_T := fun k => match k with
  | _ => ("", "", "", false)
def tyJxc12de : Nat → FieldType := fun k => match k with
  | _ => .int
abbrev wsJxc12de0 : List Cond := u_ws RJxc12de TJxc12de 0
theorem nmJxc12de : ∀ a, a < 0 → ∀ b, b < 0 → a ≠ b → (TJxc12de a).2.1 ≠ (TJxc12de b).2.1 := by decide +kernel
theorem tyJxc12de_ok : ∀ k, k < 0 → parseFieldDescriptor (TJxc12de k).2.2.1 = some (tyJxc12de k) := by decide +kernel
abbrev cJxc12de_init_da8c8 : ByteArray := prog_20_method_1_code
def yJxc12de_init_da8c8 : MethodName := ⟨RJxc12de, "<init>", "()V"⟩
def RJx4a65c : String := "java/util/ArrayList"
def TJx4a65c : u_T := fun k => match k with
  | 0 => ("java/util/AbstractList", "modCount", "I", false)
  | 1 => ("java/util/ArrayList", "elementData", "[Ljava/lang/Object;", false)
  | _ => ("java/util/ArrayList", "size", "I", false)
def tyJx4a65c : Nat → FieldType := fun k => match k with
  | 0 => .int
  | 1 => .array (.object "java/lang/Object")
  | _ => .int
abbrev wsJx4a65c0 : List Cond := u_ws RJx4a65c TJx4a65c 3
theorem nmJx4a65c : ∀ a, a < 3 → ∀ b, b < 3 → a ≠ b → (TJx4a65c a).2.1 ≠ (TJx4a65c b).2.1 := by decide +kernel
theorem tyJx4a65c_ok : ∀ k, k < 3 → parseFieldDescriptor (TJx4a65c k).2.2.1 = some (tyJx4a65c k) := by decide +kernel
abbrev cJx4a65c_init_da8c8 : ByteArray := prog_21_method_2_code
def yJx4a65c_init_da8c8 : MethodName := ⟨RJx4a65c, "<init>", "()V"⟩
abbrev cJx4a65c_grow_92f84 : ByteArray := prog_21_method_6_code
def yJx4a65c_grow_92f84 : MethodName := ⟨RJx4a65c, "grow", "(I)[Ljava/lang/Object;"⟩
abbrev cJx4a65c_grow_d5877 : ByteArray := prog_21_method_7_code
def yJx4a65c_grow_d5877 : MethodName := ⟨RJx4a65c, "grow", "()[Ljava/lang/Object;"⟩
abbrev cJx4a65c_size_8abf5 : ByteArray := prog_21_method_8_code
def yJx4a65c_size_8abf5 : MethodName := ⟨RJx4a65c, "size", "()I"⟩
abbrev cJx4a65c_elementData_915e3 : ByteArray := prog_21_method_18_code
def yJx4a65c_elementData_915e3 : MethodName := ⟨RJx4a65c, "elementData", "(I)Ljava/lang/Object;"⟩
abbrev cJx4a65c_get_915e3 : ByteArray := prog_21_method_20_code
def yJx4a65c_get_915e3 : MethodName := ⟨RJx4a65c, "get", "(I)Ljava/lang/Object;"⟩
abbrev cJx4a65c_add_72be8 : ByteArray := prog_21_method_24_code
def yJx4a65c_add_72be8 : MethodName := ⟨RJx4a65c, "add", "(Ljava/lang/Object;[Ljava/lang/Object;I)V"⟩
abbrev cJx4a65c_add_9ea2d : ByteArray := prog_21_method_25_code
def yJx4a65c_add_9ea2d : MethodName := ⟨RJx4a65c, "add", "(Ljava/lang/Object;)Z"⟩
def RJ7 : String := "java/util/Arrays"
def TJ7 : u_T := fun k => match k with
  | _ => ("", "", "", false)
def tyJ7 : Nat → FieldType := fun k => match k with
  | _ => .int
abbrev wsJ70 : List Cond := u_ws RJ7 TJ7 0
theorem nmJ7 : ∀ a, a < 0 → ∀ b, b < 0 → a ≠ b → (TJ7 a).2.1 ≠ (TJ7 b).2.1 := by decide +kernel
theorem tyJ7_ok : ∀ k, k < 0 → parseFieldDescriptor (TJ7 k).2.2.1 = some (tyJ7 k) := by decide +kernel
abbrev cJ7_fill_53178 : ByteArray := prog_22_method_103_code
def yJ7_fill_53178 : MethodName := ⟨RJ7, "fill", "([II)V"⟩
abbrev cJ7_copyOf_1904c : ByteArray := prog_22_method_119_code
def yJ7_copyOf_1904c : MethodName := ⟨RJ7, "copyOf", "([Ljava/lang/Object;I)[Ljava/lang/Object;"⟩
abbrev cJ7_copyOf_6403c : ByteArray := prog_22_method_120_code
def yJ7_copyOf_6403c : MethodName := ⟨RJ7, "copyOf", "([Ljava/lang/Object;ILjava/lang/Class;)[Ljava/lang/Object;"⟩
def RJx5ef63 : String := "java/util/Collection"
def TJx5ef63 : u_T := fun k => match k with
  | _ => ("", "", "", false)
def tyJx5ef63 : Nat → FieldType := fun k => match k with
  | _ => .int
abbrev wsJx5ef630 : List Cond := u_ws RJx5ef63 TJx5ef63 0
theorem nmJx5ef63 : ∀ a, a < 0 → ∀ b, b < 0 → a ≠ b → (TJx5ef63 a).2.1 ≠ (TJx5ef63 b).2.1 := by decide +kernel
theorem tyJx5ef63_ok : ∀ k, k < 0 → parseFieldDescriptor (TJx5ef63 k).2.2.1 = some (tyJx5ef63 k) := by decide +kernel
def RJxbd725 : String := "java/util/List"
def TJxbd725 : u_T := fun k => match k with
  | _ => ("", "", "", false)
def tyJxbd725 : Nat → FieldType := fun k => match k with
  | _ => .int
abbrev wsJxbd7250 : List Cond := u_ws RJxbd725 TJxbd725 0
theorem nmJxbd725 : ∀ a, a < 0 → ∀ b, b < 0 → a ≠ b → (TJxbd725 a).2.1 ≠ (TJxbd725 b).2.1 := by decide +kernel
theorem tyJxbd725_ok : ∀ k, k < 0 → parseFieldDescriptor (TJxbd725 k).2.2.1 = some (tyJxbd725 k) := by decide +kernel
def RJ15 : String := "java/util/Objects"
def TJ15 : u_T := fun k => match k with
  | _ => ("", "", "", false)
def tyJ15 : Nat → FieldType := fun k => match k with
  | _ => .int
abbrev wsJ150 : List Cond := u_ws RJ15 TJ15 0
theorem nmJ15 : ∀ a, a < 0 → ∀ b, b < 0 → a ≠ b → (TJ15 a).2.1 ≠ (TJ15 b).2.1 := by decide +kernel
theorem tyJ15_ok : ∀ k, k < 0 → parseFieldDescriptor (TJ15 k).2.2.1 = some (tyJ15 k) := by decide +kernel
abbrev cJ15_checkIndex_7cf53 : ByteArray := prog_25_method_17_code
def yJ15_checkIndex_7cf53 : MethodName := ⟨RJ15, "checkIndex", "(II)I"⟩
def RJxf0a74 : String := "java/util/RandomAccess"
def TJxf0a74 : u_T := fun k => match k with
  | _ => ("", "", "", false)
def tyJxf0a74 : Nat → FieldType := fun k => match k with
  | _ => .int
abbrev wsJxf0a740 : List Cond := u_ws RJxf0a74 TJxf0a74 0
theorem nmJxf0a74 : ∀ a, a < 0 → ∀ b, b < 0 → a ≠ b → (TJxf0a74 a).2.1 ≠ (TJxf0a74 b).2.1 := by decide +kernel
theorem tyJxf0a74_ok : ∀ k, k < 0 → parseFieldDescriptor (TJxf0a74 k).2.2.1 = some (tyJxf0a74 k) := by decide +kernel
def RJxa66e6 : String := "java/util/SequencedCollection"
def TJxa66e6 : u_T := fun k => match k with
  | _ => ("", "", "", false)
def tyJxa66e6 : Nat → FieldType := fun k => match k with
  | _ => .int
abbrev wsJxa66e60 : List Cond := u_ws RJxa66e6 TJxa66e6 0
theorem nmJxa66e6 : ∀ a, a < 0 → ∀ b, b < 0 → a ≠ b → (TJxa66e6 a).2.1 ≠ (TJxa66e6 b).2.1 := by decide +kernel
theorem tyJxa66e6_ok : ∀ k, k < 0 → parseFieldDescriptor (TJxa66e6 k).2.2.1 = some (tyJxa66e6 k) := by decide +kernel
def RJ8 : String := "jdk/internal/util/ArraysSupport"
def TJ8 : u_T := fun k => match k with
  | _ => ("", "", "", false)
def tyJ8 : Nat → FieldType := fun k => match k with
  | _ => .int
abbrev wsJ80 : List Cond := u_ws RJ8 TJ8 0
theorem nmJ8 : ∀ a, a < 0 → ∀ b, b < 0 → a ≠ b → (TJ8 a).2.1 ≠ (TJ8 b).2.1 := by decide +kernel
theorem tyJ8_ok : ∀ k, k < 0 → parseFieldDescriptor (TJ8 k).2.2.1 = some (tyJ8 k) := by decide +kernel
abbrev cJ8_newLength_cabcc : ByteArray := prog_28_method_27_code
def yJ8_newLength_cabcc : MethodName := ⟨RJ8, "newLength", "(III)I"⟩
abbrev cJ8_hugeLength_7cf53 : ByteArray := prog_28_method_28_code
def yJ8_hugeLength_7cf53 : MethodName := ⟨RJ8, "hugeLength", "(II)I"⟩
def RJ3 : String := "jdk/internal/util/Preconditions"
def TJ3 : u_T := fun k => match k with
  | _ => ("", "", "", false)
def tyJ3 : Nat → FieldType := fun k => match k with
  | _ => .int
abbrev wsJ30 : List Cond := u_ws RJ3 TJ3 0
theorem nmJ3 : ∀ a, a < 0 → ∀ b, b < 0 → a ≠ b → (TJ3 a).2.1 ≠ (TJ3 b).2.1 := by decide +kernel
theorem tyJ3_ok : ∀ k, k < 0 → parseFieldDescriptor (TJ3 k).2.2.1 = some (tyJ3 k) := by decide +kernel
abbrev cJ3_checkIndex_8e157 : ByteArray := prog_29_method_11_code
def yJ3_checkIndex_8e157 : MethodName := ⟨RJ3, "checkIndex", "(IILjava/util/function/BiFunction;)I"⟩
def RL : String := "NetworkDatabaseLaw"
abbrev cL_draw : ByteArray := method_2_code
def yL_draw : MethodName := ⟨RL, "draw", "([III)I"⟩
abbrev cL_acts : ByteArray := method_3_code
def yL_acts : MethodName := ⟨RL, "acts", "(LNetworkDatabase;III)I"⟩
abbrev cL_isSet : ByteArray := method_4_code
def yL_isSet : MethodName := ⟨RL, "isSet", "(LNetworkDatabase;[I[I[II)Z"⟩
abbrev cL_isBase : ByteArray := method_5_code
def yL_isBase : MethodName := ⟨RL, "isBase", "(LNetworkDatabase;[I[I[I)Z"⟩
abbrev cL_isCurrent : ByteArray := method_6_code
def yL_isCurrent : MethodName := ⟨RL, "isCurrent", "(LNetworkDatabase;[I[I[II[I)Z"⟩
abbrev cL_notes : ByteArray := method_7_code
def yL_notes : MethodName := ⟨RL, "notes", "(LNetworkDatabase;[I[I)V"⟩
abbrev cL_owner : ByteArray := method_8_code
def yL_owner : MethodName := ⟨RL, "owner", "(LNetworkDatabase;[I[II)I"⟩
abbrev cL_placeOf : ByteArray := method_9_code
def yL_placeOf : MethodName := ⟨RL, "placeOf", "(LNetworkDatabase;III)I"⟩
abbrev cL_finds : ByteArray := method_10_code
def yL_finds : MethodName := ⟨RL, "finds", "(LNetworkDatabase;III[I[I[I)Z"⟩
abbrev cL_isPlaced : ByteArray := method_11_code
def yL_isPlaced : MethodName := ⟨RL, "isPlaced", "(LNetworkDatabase;[IIIIII)Z"⟩
abbrev cL_stores : ByteArray := method_12_code
def yL_stores : MethodName := ⟨RL, "stores", "(LNetworkDatabase;II[I[I[I)Z"⟩
abbrev cL_erases : ByteArray := method_13_code
def yL_erases : MethodName := ⟨RL, "erases", "(LNetworkDatabase;I[I[I[I)Z"⟩
abbrev cL_goes : ByteArray := method_14_code
def yL_goes : MethodName := ⟨RL, "goes", "(LNetworkDatabase;[I[I[III)J"⟩
abbrev cL_isThere : ByteArray := method_15_code
def yL_isThere : MethodName := ⟨RL, "isThere", "(LNetworkDatabase;I)Z"⟩
abbrev cL_ties : ByteArray := method_16_code
def yL_ties : MethodName := ⟨RL, "ties", "(LNetworkDatabase;III[I[I[I)Z"⟩
abbrev cL_modifies : ByteArray := method_17_code
def yL_modifies : MethodName := ⟨RL, "modifies", "(LNetworkDatabase;I[I[I[I)Z"⟩
abbrev cL_base : ByteArray := method_18_code
def yL_base : MethodName := ⟨RL, "base", "([II)Z"⟩
abbrev cL_law : ByteArray := code
def yL_law : MethodName := ⟨RL, "law", "([I)Z"⟩
