/-! names: classes, fields in the order of the slots, methods, what the tables say of each, and how each instruction reads. By program out of the printed Statement and listing. -/
def xw : List Cond := lw_tbl.filter goodWord
theorem xw_g : ∀ w ∈ xw, xq_g w := fun w h => good_of_word (List.mem_filter.mp h).2
theorem xw_1 {i : Nat} {w : Cond} (h : tables_1_1[i]? = some w) (hg : goodWord w = true) : w ∈ xw := List.mem_filter.mpr ⟨List.mem_append_right _ (List.mem_append_left _ (List.mem_of_getElem? h)), hg⟩
theorem xw_2 {i : Nat} {w : Cond} (h : tables_1_2[i]? = some w) (hg : goodWord w = true) : w ∈ xw := List.mem_filter.mpr ⟨List.mem_append_right _ (List.mem_append_right _ (List.mem_append_left _ (List.mem_of_getElem? h))), hg⟩
theorem xw_3 {i : Nat} {w : Cond} (h : tables_1_3[i]? = some w) (hg : goodWord w = true) : w ∈ xw := List.mem_filter.mpr ⟨List.mem_append_right _ (List.mem_append_right _ (List.mem_append_right _ (List.mem_of_getElem? h))), hg⟩
theorem xw_s {i : Nat} {q : MethodName × Nat} (h : lw_privs[i]? = some q) : Cond.selects q.1.cls q.1 q.1 ∈ xw := List.mem_filter.mpr ⟨List.mem_append_left _ (List.mem_map.mpr ⟨q, List.mem_of_getElem? h, rfl⟩), rfl⟩
def R_C : String := "SlotCluster"
def T_C : u_T := fun k => match k with
  | 0 => ("SlotCluster", "cluster", "[LSlotCluster$Node;", true)
  | 1 => ("SlotCluster", "wire", "LSlotCluster$Wire;", true)
  | _ => ("SlotCluster", "slotsGone", "I", false)
def ty_C : Nat → FieldType := fun k => match k with
  | 0 => .array (.object "SlotCluster$Node")
  | 1 => .object "SlotCluster$Wire"
  | _ => .int
def R_W : String := "SlotCluster$Wire"
def T_W : u_T := fun k => match k with
  | 0 => ("SlotCluster$Wire", "kind", "I", false)
  | 1 => ("SlotCluster$Wire", "sender", "I", false)
  | 2 => ("SlotCluster$Wire", "time", "I", false)
  | 3 => ("SlotCluster$Wire", "members", "I", false)
  | _ => ("SlotCluster$Wire", "skew", "I", false)
def ty_W : Nat → FieldType := fun k => match k with
  | 0 => .int
  | 1 => .int
  | 2 => .int
  | 3 => .int
  | _ => .int
def R_D : String := "SlotCluster$Deviations"
def T_D : u_T := fun k => match k with
  | 0 => ("SlotCluster$Deviations", "latest", "[I", true)
  | 1 => ("SlotCluster$Deviations", "count", "I", false)
  | _ => ("SlotCluster$Deviations", "next", "I", false)
def ty_D : Nat → FieldType := fun k => match k with
  | 0 => .array .int
  | 1 => .int
  | _ => .int
def R_N : String := "SlotCluster$Node"
def T_N : u_T := fun k => match k with
  | 0 => ("SlotCluster$Node", "number", "I", true)
  | 1 => ("SlotCluster$Node", "size", "I", true)
  | 2 => ("SlotCluster$Node", "deviations", "LSlotCluster$Deviations;", true)
  | 3 => ("SlotCluster$Node", "mode", "I", false)
  | 4 => ("SlotCluster$Node", "turn", "I", false)
  | 5 => ("SlotCluster$Node", "time", "I", false)
  | 6 => ("SlotCluster$Node", "members", "I", false)
  | 7 => ("SlotCluster$Node", "agreed", "I", false)
  | 8 => ("SlotCluster$Node", "failed", "I", false)
  | 9 => ("SlotCluster$Node", "slotsToListen", "I", false)
  | 10 => ("SlotCluster$Node", "heardStart", "Z", false)
  | 11 => ("SlotCluster$Node", "tries", "I", false)
  | 12 => ("SlotCluster$Node", "ack", "I", false)
  | 13 => ("SlotCluster$Node", "suspect", "I", false)
  | 14 => ("SlotCluster$Node", "skew", "I", false)
  | 15 => ("SlotCluster$Node", "rate", "I", false)
  | 16 => ("SlotCluster$Node", "muted", "Z", false)
  | 17 => ("SlotCluster$Node", "deaf", "Z", false)
  | _ => ("SlotCluster$Node", "sending", "I", false)
def ty_N : Nat → FieldType := fun k => match k with
  | 0 => .int
  | 1 => .int
  | 2 => .object "SlotCluster$Deviations"
  | 3 => .int
  | 4 => .int
  | 5 => .int
  | 6 => .int
  | 7 => .int
  | 8 => .int
  | 9 => .int
  | 10 => .boolean
  | 11 => .int
  | 12 => .int
  | 13 => .int
  | 14 => .int
  | 15 => .int
  | 16 => .boolean
  | 17 => .boolean
  | _ => .int
def R_M : String := "SlotClusterModel"
def T_M : u_T := fun k => match k with
  | 0 => ("SlotClusterModel", "many", "I", true)
  | 1 => ("SlotClusterModel", "mode", "[I", true)
  | 2 => ("SlotClusterModel", "turn", "[I", true)
  | 3 => ("SlotClusterModel", "time", "[I", true)
  | 4 => ("SlotClusterModel", "agreed", "[I", true)
  | 5 => ("SlotClusterModel", "failed", "[I", true)
  | 6 => ("SlotClusterModel", "wait", "[I", true)
  | 7 => ("SlotClusterModel", "heard", "[Z", true)
  | 8 => ("SlotClusterModel", "tries", "[I", true)
  | 9 => ("SlotClusterModel", "ack", "[I", true)
  | 10 => ("SlotClusterModel", "suspect", "[I", true)
  | 11 => ("SlotClusterModel", "skew", "[I", true)
  | 12 => ("SlotClusterModel", "rate", "[I", true)
  | 13 => ("SlotClusterModel", "muted", "[Z", true)
  | 14 => ("SlotClusterModel", "deaf", "[Z", true)
  | 15 => ("SlotClusterModel", "member", "[Z", true)
  | 16 => ("SlotClusterModel", "measured", "[I", true)
  | 17 => ("SlotClusterModel", "measures", "[I", true)
  | 18 => ("SlotClusterModel", "slots", "I", false)
  | 19 => ("SlotClusterModel", "has", "I", false)
  | 20 => ("SlotClusterModel", "latest", "I", false)
  | 21 => ("SlotClusterModel", "sender", "I", false)
  | 22 => ("SlotClusterModel", "frameTime", "I", false)
  | 23 => ("SlotClusterModel", "frameSkew", "I", false)
  | 24 => ("SlotClusterModel", "frameMember", "[Z", true)
  | _ => ("SlotClusterModel", "sends", "[Z", true)
def ty_M : Nat → FieldType := fun k => match k with
  | 0 => .int
  | 1 => .array .int
  | 2 => .array .int
  | 3 => .array .int
  | 4 => .array .int
  | 5 => .array .int
  | 6 => .array .int
  | 7 => .array .boolean
  | 8 => .array .int
  | 9 => .array .int
  | 10 => .array .int
  | 11 => .array .int
  | 12 => .array .int
  | 13 => .array .boolean
  | 14 => .array .boolean
  | 15 => .array .boolean
  | 16 => .array .int
  | 17 => .array .int
  | 18 => .int
  | 19 => .int
  | 20 => .int
  | 21 => .int
  | 22 => .int
  | 23 => .int
  | 24 => .array .boolean
  | _ => .array .boolean
abbrev vcl : List vw_C := [(R_C, T_C, 3), (R_W, T_W, 5), (R_D, T_D, 3), (R_N, T_N, 19), (R_M, T_M, 26)]
def R_L : String := "SlotClusterLaw"
theorem nm_C : ∀ a, a < 3 → ∀ b, b < 3 → a ≠ b → (T_C a).2.1 ≠ (T_C b).2.1 := by decide +kernel
theorem tyo_C : ∀ k, k < 3 → parseFieldDescriptor (T_C k).2.2.1 = some (ty_C k) := by decide +kernel
theorem T_C_ok : xq_T vcl 0 := ⟨_, _, _, ty_C, rfl, tyo_C, nm_C⟩
theorem in_C : ∀ w ∈ u_ws R_C T_C 3, w ∈ xw := by
  intro w hw
  obtain ⟨k, hk, rfl⟩ := List.mem_map.mp hw
  have hk := List.mem_range.mp hk
  match k, hk with
  | 0, _ => exact (xw_1 (i := 153) rfl rfl)
  | 1, _ => exact (xw_1 (i := 155) rfl rfl)
  | 2, _ => exact (xw_1 (i := 157) rfl rfl)
  | k + 3, h => exact absurd h (by omega)
theorem n_C_2 : xq_N vcl 0 2 .int := ⟨_, _, _, rfl, rfl, by decide +kernel⟩
theorem nm_W : ∀ a, a < 5 → ∀ b, b < 5 → a ≠ b → (T_W a).2.1 ≠ (T_W b).2.1 := by decide +kernel
theorem tyo_W : ∀ k, k < 5 → parseFieldDescriptor (T_W k).2.2.1 = some (ty_W k) := by decide +kernel
theorem T_W_ok : xq_T vcl 1 := ⟨_, _, _, ty_W, rfl, tyo_W, nm_W⟩
theorem in_W : ∀ w ∈ u_ws R_W T_W 5, w ∈ xw := by
  intro w hw
  obtain ⟨k, hk, rfl⟩ := List.mem_map.mp hw
  have hk := List.mem_range.mp hk
  match k, hk with
  | 0, _ => exact (xw_1 (i := 139) rfl rfl)
  | 1, _ => exact (xw_1 (i := 141) rfl rfl)
  | 2, _ => exact (xw_1 (i := 143) rfl rfl)
  | 3, _ => exact (xw_1 (i := 145) rfl rfl)
  | 4, _ => exact (xw_1 (i := 147) rfl rfl)
  | k + 5, h => exact absurd h (by omega)
theorem n_W_0 : xq_N vcl 1 0 .int := ⟨_, _, _, rfl, rfl, by decide +kernel⟩
theorem n_W_1 : xq_N vcl 1 1 .int := ⟨_, _, _, rfl, rfl, by decide +kernel⟩
theorem n_W_2 : xq_N vcl 1 2 .int := ⟨_, _, _, rfl, rfl, by decide +kernel⟩
theorem n_W_3 : xq_N vcl 1 3 .int := ⟨_, _, _, rfl, rfl, by decide +kernel⟩
theorem n_W_4 : xq_N vcl 1 4 .int := ⟨_, _, _, rfl, rfl, by decide +kernel⟩
theorem nm_D : ∀ a, a < 3 → ∀ b, b < 3 → a ≠ b → (T_D a).2.1 ≠ (T_D b).2.1 := by decide +kernel
theorem tyo_D : ∀ k, k < 3 → parseFieldDescriptor (T_D k).2.2.1 = some (ty_D k) := by decide +kernel
theorem T_D_ok : xq_T vcl 2 := ⟨_, _, _, ty_D, rfl, tyo_D, nm_D⟩
theorem in_D : ∀ w ∈ u_ws R_D T_D 3, w ∈ xw := by
  intro w hw
  obtain ⟨k, hk, rfl⟩ := List.mem_map.mp hw
  have hk := List.mem_range.mp hk
  match k, hk with
  | 0, _ => exact (xw_1 (i := 37) rfl rfl)
  | 1, _ => exact (xw_1 (i := 39) rfl rfl)
  | 2, _ => exact (xw_1 (i := 41) rfl rfl)
  | k + 3, h => exact absurd h (by omega)
theorem n_D_1 : xq_N vcl 2 1 .int := ⟨_, _, _, rfl, rfl, by decide +kernel⟩
theorem n_D_2 : xq_N vcl 2 2 .int := ⟨_, _, _, rfl, rfl, by decide +kernel⟩
theorem nm_N : ∀ a, a < 19 → ∀ b, b < 19 → a ≠ b → (T_N a).2.1 ≠ (T_N b).2.1 := by decide +kernel
theorem tyo_N : ∀ k, k < 19 → parseFieldDescriptor (T_N k).2.2.1 = some (ty_N k) := by decide +kernel
theorem T_N_ok : xq_T vcl 3 := ⟨_, _, _, ty_N, rfl, tyo_N, nm_N⟩
theorem in_N : ∀ w ∈ u_ws R_N T_N 19, w ∈ xw := by
  intro w hw
  obtain ⟨k, hk, rfl⟩ := List.mem_map.mp hw
  have hk := List.mem_range.mp hk
  match k, hk with
  | 0, _ => exact (xw_1 (i := 82) rfl rfl)
  | 1, _ => exact (xw_1 (i := 84) rfl rfl)
  | 2, _ => exact (xw_1 (i := 86) rfl rfl)
  | 3, _ => exact (xw_1 (i := 88) rfl rfl)
  | 4, _ => exact (xw_1 (i := 90) rfl rfl)
  | 5, _ => exact (xw_1 (i := 92) rfl rfl)
  | 6, _ => exact (xw_1 (i := 94) rfl rfl)
  | 7, _ => exact (xw_1 (i := 96) rfl rfl)
  | 8, _ => exact (xw_1 (i := 98) rfl rfl)
  | 9, _ => exact (xw_1 (i := 100) rfl rfl)
  | 10, _ => exact (xw_1 (i := 102) rfl rfl)
  | 11, _ => exact (xw_1 (i := 104) rfl rfl)
  | 12, _ => exact (xw_1 (i := 106) rfl rfl)
  | 13, _ => exact (xw_1 (i := 108) rfl rfl)
  | 14, _ => exact (xw_1 (i := 110) rfl rfl)
  | 15, _ => exact (xw_1 (i := 112) rfl rfl)
  | 16, _ => exact (xw_1 (i := 114) rfl rfl)
  | 17, _ => exact (xw_1 (i := 116) rfl rfl)
  | 18, _ => exact (xw_1 (i := 118) rfl rfl)
  | k + 19, h => exact absurd h (by omega)
theorem n_N_3 : xq_N vcl 3 3 .int := ⟨_, _, _, rfl, rfl, by decide +kernel⟩
theorem n_N_4 : xq_N vcl 3 4 .int := ⟨_, _, _, rfl, rfl, by decide +kernel⟩
theorem n_N_5 : xq_N vcl 3 5 .int := ⟨_, _, _, rfl, rfl, by decide +kernel⟩
theorem n_N_6 : xq_N vcl 3 6 .int := ⟨_, _, _, rfl, rfl, by decide +kernel⟩
theorem n_N_7 : xq_N vcl 3 7 .int := ⟨_, _, _, rfl, rfl, by decide +kernel⟩
theorem n_N_8 : xq_N vcl 3 8 .int := ⟨_, _, _, rfl, rfl, by decide +kernel⟩
theorem n_N_9 : xq_N vcl 3 9 .int := ⟨_, _, _, rfl, rfl, by decide +kernel⟩
theorem n_N_10 : xq_N vcl 3 10 .boolean := ⟨_, _, _, rfl, rfl, by decide +kernel⟩
theorem n_N_11 : xq_N vcl 3 11 .int := ⟨_, _, _, rfl, rfl, by decide +kernel⟩
theorem n_N_12 : xq_N vcl 3 12 .int := ⟨_, _, _, rfl, rfl, by decide +kernel⟩
theorem n_N_13 : xq_N vcl 3 13 .int := ⟨_, _, _, rfl, rfl, by decide +kernel⟩
theorem n_N_14 : xq_N vcl 3 14 .int := ⟨_, _, _, rfl, rfl, by decide +kernel⟩
theorem n_N_15 : xq_N vcl 3 15 .int := ⟨_, _, _, rfl, rfl, by decide +kernel⟩
theorem n_N_16 : xq_N vcl 3 16 .boolean := ⟨_, _, _, rfl, rfl, by decide +kernel⟩
theorem n_N_17 : xq_N vcl 3 17 .boolean := ⟨_, _, _, rfl, rfl, by decide +kernel⟩
theorem n_N_18 : xq_N vcl 3 18 .int := ⟨_, _, _, rfl, rfl, by decide +kernel⟩
theorem nm_M : ∀ a, a < 26 → ∀ b, b < 26 → a ≠ b → (T_M a).2.1 ≠ (T_M b).2.1 := by decide +kernel
theorem tyo_M : ∀ k, k < 26 → parseFieldDescriptor (T_M k).2.2.1 = some (ty_M k) := by decide +kernel
theorem T_M_ok : xq_T vcl 4 := ⟨_, _, _, ty_M, rfl, tyo_M, nm_M⟩
theorem in_M : ∀ w ∈ u_ws R_M T_M 26, w ∈ xw := by
  intro w hw
  obtain ⟨k, hk, rfl⟩ := List.mem_map.mp hw
  have hk := List.mem_range.mp hk
  match k, hk with
  | 0, _ => exact (xw_2 (i := 171) rfl rfl)
  | 1, _ => exact (xw_2 (i := 173) rfl rfl)
  | 2, _ => exact (xw_2 (i := 175) rfl rfl)
  | 3, _ => exact (xw_2 (i := 177) rfl rfl)
  | 4, _ => exact (xw_2 (i := 179) rfl rfl)
  | 5, _ => exact (xw_2 (i := 181) rfl rfl)
  | 6, _ => exact (xw_2 (i := 183) rfl rfl)
  | 7, _ => exact (xw_2 (i := 185) rfl rfl)
  | 8, _ => exact (xw_2 (i := 187) rfl rfl)
  | 9, _ => exact (xw_2 (i := 189) rfl rfl)
  | 10, _ => exact (xw_2 (i := 191) rfl rfl)
  | 11, _ => exact (xw_2 (i := 193) rfl rfl)
  | 12, _ => exact (xw_2 (i := 195) rfl rfl)
  | 13, _ => exact (xw_2 (i := 197) rfl rfl)
  | 14, _ => exact (xw_2 (i := 199) rfl rfl)
  | 15, _ => exact (xw_2 (i := 201) rfl rfl)
  | 16, _ => exact (xw_2 (i := 203) rfl rfl)
  | 17, _ => exact (xw_2 (i := 205) rfl rfl)
  | 18, _ => exact (xw_2 (i := 207) rfl rfl)
  | 19, _ => exact (xw_2 (i := 209) rfl rfl)
  | 20, _ => exact (xw_2 (i := 211) rfl rfl)
  | 21, _ => exact (xw_2 (i := 213) rfl rfl)
  | 22, _ => exact (xw_2 (i := 215) rfl rfl)
  | 23, _ => exact (xw_2 (i := 217) rfl rfl)
  | 24, _ => exact (xw_2 (i := 219) rfl rfl)
  | 25, _ => exact (xw_2 (i := 221) rfl rfl)
  | k + 26, h => exact absurd h (by omega)
theorem n_M_18 : xq_N vcl 4 18 .int := ⟨_, _, _, rfl, rfl, by decide +kernel⟩
theorem n_M_19 : xq_N vcl 4 19 .int := ⟨_, _, _, rfl, rfl, by decide +kernel⟩
theorem n_M_20 : xq_N vcl 4 20 .int := ⟨_, _, _, rfl, rfl, by decide +kernel⟩
theorem n_M_21 : xq_N vcl 4 21 .int := ⟨_, _, _, rfl, rfl, by decide +kernel⟩
theorem n_M_22 : xq_N vcl 4 22 .int := ⟨_, _, _, rfl, rfl, by decide +kernel⟩
theorem n_M_23 : xq_N vcl 4 23 .int := ⟨_, _, _, rfl, rfl, by decide +kernel⟩
abbrev b_C_init : ByteArray := prog_1_method_1_code
def y_C_init : MethodName := ⟨R_C, "<init>", "(I)V"⟩
abbrev b_C_nodes : ByteArray := prog_1_method_2_code
def y_C_nodes : MethodName := ⟨R_C, "nodes", "()I"⟩
abbrev b_C_on : ByteArray := prog_1_method_3_code
def y_C_on : MethodName := ⟨R_C, "on", "(II)Z"⟩
abbrev b_C_off : ByteArray := prog_1_method_4_code
def y_C_off : MethodName := ⟨R_C, "off", "(I)Z"⟩
abbrev b_C_thaw : ByteArray := prog_1_method_5_code
def y_C_thaw : MethodName := ⟨R_C, "thaw", "(I)Z"⟩
abbrev b_C_mute : ByteArray := prog_1_method_6_code
def y_C_mute : MethodName := ⟨R_C, "mute", "(I)Z"⟩
abbrev b_C_deafen : ByteArray := prog_1_method_7_code
def y_C_deafen : MethodName := ⟨R_C, "deafen", "(I)Z"⟩
abbrev b_C_shift : ByteArray := prog_1_method_8_code
def y_C_shift : MethodName := ⟨R_C, "shift", "(II)Z"⟩
abbrev b_C_run : ByteArray := prog_1_method_9_code
def y_C_run : MethodName := ⟨R_C, "run", "(I)I"⟩
abbrev b_C_slots : ByteArray := prog_1_method_10_code
def y_C_slots : MethodName := ⟨R_C, "slots", "()I"⟩
abbrev b_C_bus : ByteArray := prog_1_method_11_code
def y_C_bus : MethodName := ⟨R_C, "bus", "()I"⟩
abbrev b_C_mode : ByteArray := prog_1_method_12_code
def y_C_mode : MethodName := ⟨R_C, "mode", "(I)I"⟩
abbrev b_C_members : ByteArray := prog_1_method_13_code
def y_C_members : MethodName := ⟨R_C, "members", "(I)I"⟩
abbrev b_C_time : ByteArray := prog_1_method_14_code
def y_C_time : MethodName := ⟨R_C, "time", "(I)I"⟩
abbrev b_C_counts : ByteArray := prog_1_method_15_code
def y_C_counts : MethodName := ⟨R_C, "counts", "(I)I"⟩
abbrev b_C_patience : ByteArray := prog_1_method_16_code
def y_C_patience : MethodName := ⟨R_C, "patience", "(I)I"⟩
abbrev b_C_gap : ByteArray := prog_1_method_17_code
def y_C_gap : MethodName := ⟨R_C, "gap", "(II)I"⟩
abbrev b_C_united : ByteArray := prog_1_method_18_code
def y_C_united : MethodName := ⟨R_C, "united", "()Z"⟩
abbrev b_C_find : ByteArray := prog_1_method_19_code
def y_C_find : MethodName := ⟨R_C, "find", "(I)LSlotCluster$Node;"⟩
abbrev b_C_findSwitchedOn : ByteArray := prog_1_method_20_code
def y_C_findSwitchedOn : MethodName := ⟨R_C, "findSwitchedOn", "(I)LSlotCluster$Node;"⟩
abbrev b_C_findInside : ByteArray := prog_1_method_21_code
def y_C_findInside : MethodName := ⟨R_C, "findInside", "(I)LSlotCluster$Node;"⟩
abbrev b_C_passOneSlot : ByteArray := prog_1_method_22_code
def y_C_passOneSlot : MethodName := ⟨R_C, "passOneSlot", "()V"⟩
abbrev b_C_sendAll : ByteArray := prog_1_method_23_code
def y_C_sendAll : MethodName := ⟨R_C, "sendAll", "()V"⟩
abbrev b_C_loseMutedFrame : ByteArray := prog_1_method_24_code
def y_C_loseMutedFrame : MethodName := ⟨R_C, "loseMutedFrame", "()V"⟩
abbrev b_C_hearAll : ByteArray := prog_1_method_25_code
def y_C_hearAll : MethodName := ⟨R_C, "hearAll", "()V"⟩
abbrev b_M_init : ByteArray := prog_6_method_1_code
def y_M_init : MethodName := ⟨R_M, "<init>", "(I)V"⟩
abbrev b_M_nodes : ByteArray := prog_6_method_2_code
def y_M_nodes : MethodName := ⟨R_M, "nodes", "()I"⟩
abbrev b_M_isNode : ByteArray := prog_6_method_3_code
def y_M_isNode : MethodName := ⟨R_M, "isNode", "(I)Z"⟩
abbrev b_M_isOn : ByteArray := prog_6_method_4_code
def y_M_isOn : MethodName := ⟨R_M, "isOn", "(I)Z"⟩
abbrev b_M_inside : ByteArray := prog_6_method_5_code
def y_M_inside : MethodName := ⟨R_M, "inside", "(I)Z"⟩
abbrev b_M_listen : ByteArray := prog_6_method_6_code
def y_M_listen : MethodName := ⟨R_M, "listen", "(I)V"⟩
abbrev b_M_on : ByteArray := prog_6_method_7_code
def y_M_on : MethodName := ⟨R_M, "on", "(II)Z"⟩
abbrev b_M_off : ByteArray := prog_6_method_8_code
def y_M_off : MethodName := ⟨R_M, "off", "(I)Z"⟩
abbrev b_M_thaw : ByteArray := prog_6_method_9_code
def y_M_thaw : MethodName := ⟨R_M, "thaw", "(I)Z"⟩
abbrev b_M_mute : ByteArray := prog_6_method_10_code
def y_M_mute : MethodName := ⟨R_M, "mute", "(I)Z"⟩
abbrev b_M_deafen : ByteArray := prog_6_method_11_code
def y_M_deafen : MethodName := ⟨R_M, "deafen", "(I)Z"⟩
abbrev b_M_shift : ByteArray := prog_6_method_12_code
def y_M_shift : MethodName := ⟨R_M, "shift", "(II)Z"⟩
abbrev b_M_goOn : ByteArray := prog_6_method_13_code
def y_M_goOn : MethodName := ⟨R_M, "goOn", "(I)V"⟩
abbrev b_M_startAlone : ByteArray := prog_6_method_14_code
def y_M_startAlone : MethodName := ⟨R_M, "startAlone", "(I)V"⟩
abbrev b_M_ownTurn : ByteArray := prog_6_method_15_code
def y_M_ownTurn : MethodName := ⟨R_M, "ownTurn", "(I)V"⟩
abbrev b_M_decide : ByteArray := prog_6_method_16_code
def y_M_decide : MethodName := ⟨R_M, "decide", "(I)V"⟩
abbrev b_M_gather : ByteArray := prog_6_method_17_code
def y_M_gather : MethodName := ⟨R_M, "gather", "()V"⟩
abbrev b_M_comeIn : ByteArray := prog_6_method_18_code
def y_M_comeIn : MethodName := ⟨R_M, "comeIn", "(I)V"⟩
abbrev b_M_listens : ByteArray := prog_6_method_19_code
def y_M_listens : MethodName := ⟨R_M, "listens", "(II)V"⟩
abbrev b_M_matches : ByteArray := prog_6_method_20_code
def y_M_matches : MethodName := ⟨R_M, "matches", "(II)Z"⟩
abbrev b_M_bad : ByteArray := prog_6_method_21_code
def y_M_bad : MethodName := ⟨R_M, "bad", "(I)V"⟩
abbrev b_M_good : ByteArray := prog_6_method_22_code
def y_M_good : MethodName := ⟨R_M, "good", "(I)V"⟩
abbrev b_M_compared : ByteArray := prog_6_method_23_code
def y_M_compared : MethodName := ⟨R_M, "compared", "(I)V"⟩
abbrev b_M_insides : ByteArray := prog_6_method_24_code
def y_M_insides : MethodName := ⟨R_M, "insides", "(II)V"⟩
abbrev b_M_hear : ByteArray := prog_6_method_25_code
def y_M_hear : MethodName := ⟨R_M, "hear", "(I)V"⟩
abbrev b_M_set : ByteArray := prog_6_method_26_code
def y_M_set : MethodName := ⟨R_M, "set", "(I)V"⟩
abbrev b_M_slot : ByteArray := prog_6_method_27_code
def y_M_slot : MethodName := ⟨R_M, "slot", "()V"⟩
abbrev b_M_run : ByteArray := prog_6_method_28_code
def y_M_run : MethodName := ⟨R_M, "run", "(I)I"⟩
abbrev b_M_slots : ByteArray := prog_6_method_29_code
def y_M_slots : MethodName := ⟨R_M, "slots", "()I"⟩
abbrev b_M_bus : ByteArray := prog_6_method_30_code
def y_M_bus : MethodName := ⟨R_M, "bus", "()I"⟩
abbrev b_M_mode : ByteArray := prog_6_method_31_code
def y_M_mode : MethodName := ⟨R_M, "mode", "(I)I"⟩
abbrev b_M_members : ByteArray := prog_6_method_32_code
def y_M_members : MethodName := ⟨R_M, "members", "(I)I"⟩
abbrev b_M_time : ByteArray := prog_6_method_33_code
def y_M_time : MethodName := ⟨R_M, "time", "(I)I"⟩
abbrev b_M_counts : ByteArray := prog_6_method_34_code
def y_M_counts : MethodName := ⟨R_M, "counts", "(I)I"⟩
abbrev b_M_patience : ByteArray := prog_6_method_35_code
def y_M_patience : MethodName := ⟨R_M, "patience", "(I)I"⟩
abbrev b_M_gap : ByteArray := prog_6_method_36_code
def y_M_gap : MethodName := ⟨R_M, "gap", "(II)I"⟩
abbrev b_M_united : ByteArray := prog_6_method_37_code
def y_M_united : MethodName := ⟨R_M, "united", "()Z"⟩
abbrev b_D_init : ByteArray := prog_2_method_1_code
def y_D_init : MethodName := ⟨R_D, "<init>", "()V"⟩
abbrev b_D_forget : ByteArray := prog_2_method_2_code
def y_D_forget : MethodName := ⟨R_D, "forget", "()V"⟩
abbrev b_D_keep : ByteArray := prog_2_method_3_code
def y_D_keep : MethodName := ⟨R_D, "keep", "(I)V"⟩
abbrev b_D_areComplete : ByteArray := prog_2_method_4_code
def y_D_areComplete : MethodName := ⟨R_D, "areComplete", "()Z"⟩
abbrev b_D_middle : ByteArray := prog_2_method_5_code
def y_D_middle : MethodName := ⟨R_D, "middle", "()I"⟩
abbrev b_N_init : ByteArray := prog_3_method_1_code
def y_N_init : MethodName := ⟨R_N, "<init>", "(II)V"⟩
abbrev b_N_isInside : ByteArray := prog_3_method_2_code
def y_N_isInside : MethodName := ⟨R_N, "isInside", "()Z"⟩
abbrev b_N_seesTheSameAs : ByteArray := prog_3_method_3_code
def y_N_seesTheSameAs : MethodName := ⟨R_N, "seesTheSameAs", "(LSlotCluster$Node;)Z"⟩
abbrev b_N_switchOn : ByteArray := prog_3_method_4_code
def y_N_switchOn : MethodName := ⟨R_N, "switchOn", "(I)V"⟩
abbrev b_N_switchOff : ByteArray := prog_3_method_5_code
def y_N_switchOff : MethodName := ⟨R_N, "switchOff", "()V"⟩
abbrev b_N_beginListening : ByteArray := prog_3_method_6_code
def y_N_beginListening : MethodName := ⟨R_N, "beginListening", "()V"⟩
abbrev b_N_listenLong : ByteArray := prog_3_method_7_code
def y_N_listenLong : MethodName := ⟨R_N, "listenLong", "()V"⟩
abbrev b_N_moveClock : ByteArray := prog_3_method_8_code
def y_N_moveClock : MethodName := ⟨R_N, "moveClock", "()V"⟩
abbrev b_N_chooseWhatToSend : ByteArray := prog_3_method_9_code
def y_N_chooseWhatToSend : MethodName := ⟨R_N, "chooseWhatToSend", "()V"⟩
abbrev b_N_listenOneSlot : ByteArray := prog_3_method_10_code
def y_N_listenOneSlot : MethodName := ⟨R_N, "listenOneSlot", "()V"⟩
abbrev b_N_takeOwnTurn : ByteArray := prog_3_method_11_code
def y_N_takeOwnTurn : MethodName := ⟨R_N, "takeOwnTurn", "()V"⟩
abbrev b_N_countAnew : ByteArray := prog_3_method_12_code
def y_N_countAnew : MethodName := ⟨R_N, "countAnew", "(I)V"⟩
abbrev b_N_kindHeard : ByteArray := prog_3_method_13_code
def y_N_kindHeard : MethodName := ⟨R_N, "kindHeard", "(LSlotCluster$Wire;)I"⟩
abbrev b_N_hearListening : ByteArray := prog_3_method_14_code
def y_N_hearListening : MethodName := ⟨R_N, "hearListening", "(ILSlotCluster$Wire;)V"⟩
abbrev b_N_comeIn : ByteArray := prog_3_method_15_code
def y_N_comeIn : MethodName := ⟨R_N, "comeIn", "(LSlotCluster$Wire;)V"⟩
abbrev b_N_hearInside : ByteArray := prog_3_method_16_code
def y_N_hearInside : MethodName := ⟨R_N, "hearInside", "(ILSlotCluster$Wire;)V"⟩
abbrev b_N_isDue : ByteArray := prog_3_method_17_code
def y_N_isDue : MethodName := ⟨R_N, "isDue", "(LSlotCluster$Wire;)Z"⟩
abbrev b_N_compareMembers : ByteArray := prog_3_method_18_code
def y_N_compareMembers : MethodName := ⟨R_N, "compareMembers", "(I)I"⟩
abbrev b_N_settleDoubt : ByteArray := prog_3_method_19_code
def y_N_settleDoubt : MethodName := ⟨R_N, "settleDoubt", "(II)I"⟩
abbrev b_N_without : ByteArray := prog_3_method_20_code
def y_N_without : MethodName := ⟨R_N, "without", "(II)I"⟩
abbrev b_N_join : ByteArray := prog_3_method_21_code
def y_N_join : MethodName := ⟨R_N, "join", "(I)V"⟩
abbrev b_N_leave : ByteArray := prog_3_method_22_code
def y_N_leave : MethodName := ⟨R_N, "leave", "(I)V"⟩
abbrev b_N_correctClock : ByteArray := prog_3_method_23_code
def y_N_correctClock : MethodName := ⟨R_N, "correctClock", "()V"⟩
abbrev b_W_init : ByteArray := prog_4_method_1_code
def y_W_init : MethodName := ⟨R_W, "<init>", "()V"⟩
abbrev b_W_fallSilent : ByteArray := prog_4_method_2_code
def y_W_fallSilent : MethodName := ⟨R_W, "fallSilent", "()V"⟩
abbrev b_W_carry : ByteArray := prog_4_method_3_code
def y_W_carry : MethodName := ⟨R_W, "carry", "(LSlotCluster$Node;)V"⟩
abbrev b_W_hasFrame : ByteArray := prog_4_method_4_code
def y_W_hasFrame : MethodName := ⟨R_W, "hasFrame", "()Z"⟩
abbrev b_L_cell : ByteArray := method_2_code
def y_L_cell : MethodName := ⟨R_L, "cell", "([II)I"⟩
abbrev b_L_law : ByteArray := code
def y_L_law : MethodName := ⟨R_L, "law", "([I)Z"⟩
theorem m_C_9 : Cond.methodLink R_C 9 Lib.Math.min.name ∈ xw := (xw_1 (i := 15) rfl rfl)
theorem m_C_15 : Cond.methodLink R_C 15 Lib.Math.max.name ∈ xw := (xw_1 (i := 18) rfl rfl)
theorem f_C_20 : xq_F xw R_C 20 vcl 0 0 := ⟨_, _, _, rfl, in_C, by decide, (xw_1 (i := 150) rfl rfl)⟩
theorem f_C_30 : xq_F xw R_C 30 vcl 0 1 := ⟨_, _, _, rfl, in_C, by decide, (xw_1 (i := 151) rfl rfl)⟩
theorem g_C_34 : xq_G xw R_C 34 y_C_find b_C_find 2 (some (.object "SlotCluster$Node")) 1 := ⟨(xw_1 (i := 171) rfl rfl), (xw_1 (i := 168) rfl rfl), (xw_1 (i := 170) rfl rfl), (xw_s (i := 0) (q := (y_C_find, _)) rfl), (xw_1 (i := 1) rfl rfl), by decide +kernel⟩
theorem f_C_38 : xq_F xw R_C 38 vcl 3 3 := ⟨_, _, _, rfl, in_N, by decide, (xw_1 (i := 50) rfl rfl)⟩
theorem g_C_42 : xq_G xw R_C 42 y_N_switchOn b_N_switchOn 2 none 1 := ⟨(xw_1 (i := 175) rfl rfl), (xw_1 (i := 172) rfl rfl), (xw_1 (i := 173) rfl rfl), (xw_1 (i := 174) rfl rfl), (xw_1 (i := 3) rfl rfl), by decide +kernel⟩
theorem g_C_46 : xq_G xw R_C 46 y_C_findSwitchedOn b_C_findSwitchedOn 3 (some (.object "SlotCluster$Node")) 1 := ⟨(xw_1 (i := 195) rfl rfl), (xw_1 (i := 192) rfl rfl), (xw_1 (i := 194) rfl rfl), (xw_s (i := 2) (q := (y_C_findSwitchedOn, _)) rfl), (xw_1 (i := 1) rfl rfl), by decide +kernel⟩
theorem g_C_49 : xq_G xw R_C 49 y_N_switchOff b_N_switchOff 1 none 0 := ⟨(xw_1 (i := 199) rfl rfl), (xw_1 (i := 196) rfl rfl), (xw_1 (i := 197) rfl rfl), (xw_1 (i := 198) rfl rfl), (xw_1 (i := 3) rfl rfl), by decide +kernel⟩
theorem g_C_52 : xq_G xw R_C 52 y_N_beginListening b_N_beginListening 1 none 0 := ⟨(xw_1 (i := 179) rfl rfl), (xw_1 (i := 204) rfl rfl), (xw_1 (i := 177) rfl rfl), (xw_1 (i := 178) rfl rfl), (xw_1 (i := 3) rfl rfl), by decide +kernel⟩
theorem f_C_55 : xq_F xw R_C 55 vcl 3 11 := ⟨_, _, _, rfl, in_N, by decide, (xw_1 (i := 67) rfl rfl)⟩
theorem f_C_58 : xq_F xw R_C 58 vcl 3 16 := ⟨_, _, _, rfl, in_N, by decide, (xw_1 (i := 76) rfl rfl)⟩
theorem f_C_62 : xq_F xw R_C 62 vcl 3 17 := ⟨_, _, _, rfl, in_N, by decide, (xw_1 (i := 78) rfl rfl)⟩
theorem f_C_65 : xq_F xw R_C 65 vcl 3 14 := ⟨_, _, _, rfl, in_N, by decide, (xw_1 (i := 73) rfl rfl)⟩
theorem g_C_68 : xq_G xw R_C 68 y_C_passOneSlot b_C_passOneSlot 5 none 0 := ⟨(xw_1 (i := 224) rfl rfl), (xw_1 (i := 221) rfl rfl), (xw_1 (i := 223) rfl rfl), (xw_s (i := 3) (q := (y_C_passOneSlot, _)) rfl), (xw_1 (i := 1) rfl rfl), by decide +kernel⟩
theorem g_C_71 : xq_G xw R_C 71 y_W_hasFrame b_W_hasFrame 1 (some .boolean) 0 := ⟨(xw_2 (i := 33) rfl rfl), (xw_2 (i := 30) rfl rfl), (xw_2 (i := 31) rfl rfl), (xw_2 (i := 32) rfl rfl), (xw_1 (i := 5) rfl rfl), by decide +kernel⟩
theorem f_C_75 : xq_F xw R_C 75 vcl 0 2 := ⟨_, _, _, rfl, in_C, by decide, (xw_1 (i := 152) rfl rfl)⟩
theorem f_C_78 : xq_F xw R_C 78 vcl 1 0 := ⟨_, _, _, rfl, in_W, by decide, (xw_1 (i := 128) rfl rfl)⟩
theorem f_C_81 : xq_F xw R_C 81 vcl 1 1 := ⟨_, _, _, rfl, in_W, by decide, (xw_1 (i := 131) rfl rfl)⟩
theorem g_C_84 : xq_G xw R_C 84 y_C_findInside b_C_findInside 3 (some (.object "SlotCluster$Node")) 1 := ⟨(xw_2 (i := 111) rfl rfl), (xw_2 (i := 108) rfl rfl), (xw_2 (i := 110) rfl rfl), (xw_s (i := 16) (q := (y_C_findInside, _)) rfl), (xw_1 (i := 1) rfl rfl), by decide +kernel⟩
theorem f_C_87 : xq_F xw R_C 87 vcl 3 6 := ⟨_, _, _, rfl, in_N, by decide, (xw_1 (i := 58) rfl rfl)⟩
theorem f_C_90 : xq_F xw R_C 90 vcl 3 5 := ⟨_, _, _, rfl, in_N, by decide, (xw_1 (i := 55) rfl rfl)⟩
theorem f_C_93 : xq_F xw R_C 93 vcl 3 4 := ⟨_, _, _, rfl, in_N, by decide, (xw_1 (i := 52) rfl rfl)⟩
theorem f_C_96 : xq_F xw R_C 96 vcl 3 7 := ⟨_, _, _, rfl, in_N, by decide, (xw_1 (i := 60) rfl rfl)⟩
theorem f_C_99 : xq_F xw R_C 99 vcl 3 8 := ⟨_, _, _, rfl, in_N, by decide, (xw_1 (i := 62) rfl rfl)⟩
theorem f_C_102 : xq_F xw R_C 102 vcl 3 12 := ⟨_, _, _, rfl, in_N, by decide, (xw_1 (i := 69) rfl rfl)⟩
theorem f_C_105 : xq_F xw R_C 105 vcl 3 9 := ⟨_, _, _, rfl, in_N, by decide, (xw_1 (i := 64) rfl rfl)⟩
theorem g_C_108 : xq_G xw R_C 108 y_N_seesTheSameAs b_N_seesTheSameAs 2 (some .boolean) 1 := ⟨(xw_2 (i := 135) rfl rfl), (xw_2 (i := 132) rfl rfl), (xw_2 (i := 133) rfl rfl), (xw_2 (i := 134) rfl rfl), (xw_1 (i := 3) rfl rfl), by decide +kernel⟩
theorem g_C_112 : xq_G xw R_C 112 y_N_isInside b_N_isInside 1 (some .boolean) 0 := ⟨(xw_1 (i := 232) rfl rfl), (xw_2 (i := 50) rfl rfl), (xw_1 (i := 230) rfl rfl), (xw_1 (i := 231) rfl rfl), (xw_1 (i := 3) rfl rfl), by decide +kernel⟩
theorem g_C_115 : xq_G xw R_C 115 y_N_moveClock b_N_moveClock 1 none 0 := ⟨(xw_1 (i := 228) rfl rfl), (xw_1 (i := 225) rfl rfl), (xw_1 (i := 226) rfl rfl), (xw_1 (i := 227) rfl rfl), (xw_1 (i := 3) rfl rfl), by decide +kernel⟩
theorem g_C_118 : xq_G xw R_C 118 y_C_sendAll b_C_sendAll 5 none 0 := ⟨(xw_1 (i := 237) rfl rfl), (xw_1 (i := 234) rfl rfl), (xw_1 (i := 236) rfl rfl), (xw_s (i := 4) (q := (y_C_sendAll, _)) rfl), (xw_1 (i := 1) rfl rfl), by decide +kernel⟩
theorem g_C_121 : xq_G xw R_C 121 y_C_loseMutedFrame b_C_loseMutedFrame 2 none 0 := ⟨(xw_2 (i := 29) rfl rfl), (xw_2 (i := 26) rfl rfl), (xw_2 (i := 28) rfl rfl), (xw_s (i := 9) (q := (y_C_loseMutedFrame, _)) rfl), (xw_1 (i := 1) rfl rfl), by decide +kernel⟩
theorem g_C_124 : xq_G xw R_C 124 y_C_hearAll b_C_hearAll 5 none 0 := ⟨(xw_2 (i := 37) rfl rfl), (xw_2 (i := 34) rfl rfl), (xw_2 (i := 36) rfl rfl), (xw_s (i := 10) (q := (y_C_hearAll, _)) rfl), (xw_1 (i := 1) rfl rfl), by decide +kernel⟩
theorem g_C_127 : xq_G xw R_C 127 y_N_correctClock b_N_correctClock 1 none 0 := ⟨(xw_2 (i := 81) rfl rfl), (xw_2 (i := 78) rfl rfl), (xw_2 (i := 79) rfl rfl), (xw_2 (i := 80) rfl rfl), (xw_1 (i := 3) rfl rfl), by decide +kernel⟩
theorem g_C_130 : xq_G xw R_C 130 y_W_fallSilent b_W_fallSilent 1 none 0 := ⟨(xw_2 (i := 1) rfl rfl), (xw_1 (i := 238) rfl rfl), (xw_1 (i := 239) rfl rfl), (xw_2 (i := 0) rfl rfl), (xw_1 (i := 5) rfl rfl), by decide +kernel⟩
theorem g_C_133 : xq_G xw R_C 133 y_N_chooseWhatToSend b_N_chooseWhatToSend 1 none 0 := ⟨(xw_2 (i := 5) rfl rfl), (xw_2 (i := 2) rfl rfl), (xw_2 (i := 3) rfl rfl), (xw_2 (i := 4) rfl rfl), (xw_1 (i := 3) rfl rfl), by decide +kernel⟩
theorem f_C_136 : xq_F xw R_C 136 vcl 3 18 := ⟨_, _, _, rfl, in_N, by decide, (xw_1 (i := 81) rfl rfl)⟩
theorem g_C_139 : xq_G xw R_C 139 y_W_carry b_W_carry 2 none 1 := ⟨(xw_2 (i := 25) rfl rfl), (xw_2 (i := 22) rfl rfl), (xw_2 (i := 23) rfl rfl), (xw_2 (i := 24) rfl rfl), (xw_1 (i := 5) rfl rfl), by decide +kernel⟩
theorem g_C_143 : xq_G xw R_C 143 y_N_kindHeard b_N_kindHeard 2 (some .int) 1 := ⟨(xw_2 (i := 41) rfl rfl), (xw_2 (i := 38) rfl rfl), (xw_2 (i := 39) rfl rfl), (xw_2 (i := 40) rfl rfl), (xw_1 (i := 3) rfl rfl), by decide +kernel⟩
theorem g_C_147 : xq_G xw R_C 147 y_N_hearListening b_N_hearListening 3 none 2 := ⟨(xw_2 (i := 45) rfl rfl), (xw_2 (i := 42) rfl rfl), (xw_2 (i := 43) rfl rfl), (xw_2 (i := 44) rfl rfl), (xw_1 (i := 3) rfl rfl), by decide +kernel⟩
theorem g_C_151 : xq_G xw R_C 151 y_N_hearInside b_N_hearInside 4 none 2 := ⟨(xw_2 (i := 54) rfl rfl), (xw_2 (i := 51) rfl rfl), (xw_2 (i := 52) rfl rfl), (xw_2 (i := 53) rfl rfl), (xw_1 (i := 3) rfl rfl), by decide +kernel⟩
theorem f_M_7 : xq_F xw R_M 7 vcl 4 1 := ⟨_, _, _, rfl, in_M, by decide, (xw_2 (i := 146) rfl rfl)⟩
theorem f_M_13 : xq_F xw R_M 13 vcl 4 2 := ⟨_, _, _, rfl, in_M, by decide, (xw_2 (i := 147) rfl rfl)⟩
theorem f_M_16 : xq_F xw R_M 16 vcl 4 3 := ⟨_, _, _, rfl, in_M, by decide, (xw_2 (i := 148) rfl rfl)⟩
theorem f_M_19 : xq_F xw R_M 19 vcl 4 4 := ⟨_, _, _, rfl, in_M, by decide, (xw_2 (i := 149) rfl rfl)⟩
theorem f_M_22 : xq_F xw R_M 22 vcl 4 5 := ⟨_, _, _, rfl, in_M, by decide, (xw_2 (i := 150) rfl rfl)⟩
theorem f_M_25 : xq_F xw R_M 25 vcl 4 6 := ⟨_, _, _, rfl, in_M, by decide, (xw_2 (i := 151) rfl rfl)⟩
theorem f_M_28 : xq_F xw R_M 28 vcl 4 7 := ⟨_, _, _, rfl, in_M, by decide, (xw_2 (i := 152) rfl rfl)⟩
theorem f_M_32 : xq_F xw R_M 32 vcl 4 8 := ⟨_, _, _, rfl, in_M, by decide, (xw_2 (i := 153) rfl rfl)⟩
theorem f_M_35 : xq_F xw R_M 35 vcl 4 9 := ⟨_, _, _, rfl, in_M, by decide, (xw_2 (i := 154) rfl rfl)⟩
theorem f_M_38 : xq_F xw R_M 38 vcl 4 10 := ⟨_, _, _, rfl, in_M, by decide, (xw_2 (i := 155) rfl rfl)⟩
theorem f_M_41 : xq_F xw R_M 41 vcl 4 11 := ⟨_, _, _, rfl, in_M, by decide, (xw_2 (i := 156) rfl rfl)⟩
theorem f_M_44 : xq_F xw R_M 44 vcl 4 12 := ⟨_, _, _, rfl, in_M, by decide, (xw_2 (i := 157) rfl rfl)⟩
theorem f_M_47 : xq_F xw R_M 47 vcl 4 13 := ⟨_, _, _, rfl, in_M, by decide, (xw_2 (i := 158) rfl rfl)⟩
theorem f_M_50 : xq_F xw R_M 50 vcl 4 14 := ⟨_, _, _, rfl, in_M, by decide, (xw_2 (i := 159) rfl rfl)⟩
theorem f_M_53 : xq_F xw R_M 53 vcl 4 15 := ⟨_, _, _, rfl, in_M, by decide, (xw_2 (i := 160) rfl rfl)⟩
theorem f_M_56 : xq_F xw R_M 56 vcl 4 16 := ⟨_, _, _, rfl, in_M, by decide, (xw_2 (i := 161) rfl rfl)⟩
theorem f_M_59 : xq_F xw R_M 59 vcl 4 17 := ⟨_, _, _, rfl, in_M, by decide, (xw_2 (i := 162) rfl rfl)⟩
theorem f_M_62 : xq_F xw R_M 62 vcl 4 20 := ⟨_, _, _, rfl, in_M, by decide, (xw_2 (i := 165) rfl rfl)⟩
theorem f_M_66 : xq_F xw R_M 66 vcl 4 24 := ⟨_, _, _, rfl, in_M, by decide, (xw_2 (i := 169) rfl rfl)⟩
theorem f_M_69 : xq_F xw R_M 69 vcl 4 25 := ⟨_, _, _, rfl, in_M, by decide, (xw_2 (i := 170) rfl rfl)⟩
theorem f_M_72 : xq_F xw R_M 72 vcl 4 0 := ⟨_, _, _, rfl, in_M, by decide, (xw_2 (i := 145) rfl rfl)⟩
theorem g_M_75 : xq_G xw R_M 75 y_M_isNode b_M_isNode 2 (some .boolean) 1 := ⟨(xw_2 (i := 236) rfl rfl), (xw_2 (i := 233) rfl rfl), (xw_2 (i := 235) rfl rfl), (xw_s (i := 17) (q := (y_M_isNode, _)) rfl), (xw_1 (i := 6) rfl rfl), by decide +kernel⟩
theorem g_M_79 : xq_G xw R_M 79 y_M_listen b_M_listen 2 none 1 := ⟨(xw_3 (i := 0) rfl rfl), (xw_2 (i := 237) rfl rfl), (xw_2 (i := 239) rfl rfl), (xw_s (i := 18) (q := (y_M_listen, _)) rfl), (xw_1 (i := 6) rfl rfl), by decide +kernel⟩
theorem g_M_83 : xq_G xw R_M 83 y_M_isOn b_M_isOn 2 (some .boolean) 1 := ⟨(xw_3 (i := 8) rfl rfl), (xw_3 (i := 5) rfl rfl), (xw_3 (i := 7) rfl rfl), (xw_s (i := 19) (q := (y_M_isOn, _)) rfl), (xw_1 (i := 6) rfl rfl), by decide +kernel⟩
theorem g_M_86 : xq_G xw R_M 86 y_M_inside b_M_inside 2 (some .boolean) 1 := ⟨(xw_3 (i := 40) rfl rfl), (xw_3 (i := 37) rfl rfl), (xw_3 (i := 39) rfl rfl), (xw_s (i := 22) (q := (y_M_inside, _)) rfl), (xw_1 (i := 6) rfl rfl), by decide +kernel⟩
theorem k_M_89 : Cond.constant R_M 89 65535 ∈ xw := (xw_3 (i := 41) rfl rfl)
theorem g_M_90 : xq_G xw R_M 90 y_M_startAlone b_M_startAlone 3 none 1 := ⟨(xw_3 (i := 49) rfl rfl), (xw_3 (i := 46) rfl rfl), (xw_3 (i := 48) rfl rfl), (xw_s (i := 24) (q := (y_M_startAlone, _)) rfl), (xw_1 (i := 6) rfl rfl), by decide +kernel⟩
theorem g_M_93 : xq_G xw R_M 93 y_M_ownTurn b_M_ownTurn 2 none 1 := ⟨(xw_3 (i := 53) rfl rfl), (xw_3 (i := 50) rfl rfl), (xw_3 (i := 52) rfl rfl), (xw_s (i := 25) (q := (y_M_ownTurn, _)) rfl), (xw_1 (i := 6) rfl rfl), by decide +kernel⟩
theorem f_M_96 : xq_F xw R_M 96 vcl 4 21 := ⟨_, _, _, rfl, in_M, by decide, (xw_2 (i := 166) rfl rfl)⟩
theorem f_M_99 : xq_F xw R_M 99 vcl 4 19 := ⟨_, _, _, rfl, in_M, by decide, (xw_2 (i := 164) rfl rfl)⟩
theorem f_M_102 : xq_F xw R_M 102 vcl 4 22 := ⟨_, _, _, rfl, in_M, by decide, (xw_2 (i := 167) rfl rfl)⟩
theorem f_M_105 : xq_F xw R_M 105 vcl 4 23 := ⟨_, _, _, rfl, in_M, by decide, (xw_2 (i := 168) rfl rfl)⟩
theorem g_M_108 : xq_G xw R_M 108 y_M_comeIn b_M_comeIn 3 none 1 := ⟨(xw_3 (i := 69) rfl rfl), (xw_3 (i := 66) rfl rfl), (xw_3 (i := 68) rfl rfl), (xw_s (i := 29) (q := (y_M_comeIn, _)) rfl), (xw_1 (i := 6) rfl rfl), by decide +kernel⟩
theorem g_M_111 : xq_G xw R_M 111 y_M_matches b_M_matches 6 (some .boolean) 2 := ⟨(xw_3 (i := 85) rfl rfl), (xw_3 (i := 82) rfl rfl), (xw_3 (i := 84) rfl rfl), (xw_s (i := 33) (q := (y_M_matches, _)) rfl), (xw_1 (i := 6) rfl rfl), by decide +kernel⟩
theorem g_M_115 : xq_G xw R_M 115 y_M_good b_M_good 3 none 1 := ⟨(xw_3 (i := 89) rfl rfl), (xw_3 (i := 86) rfl rfl), (xw_3 (i := 88) rfl rfl), (xw_s (i := 34) (q := (y_M_good, _)) rfl), (xw_1 (i := 6) rfl rfl), by decide +kernel⟩
theorem g_M_118 : xq_G xw R_M 118 y_M_bad b_M_bad 2 none 1 := ⟨(xw_3 (i := 77) rfl rfl), (xw_3 (i := 74) rfl rfl), (xw_3 (i := 76) rfl rfl), (xw_s (i := 31) (q := (y_M_bad, _)) rfl), (xw_1 (i := 6) rfl rfl), by decide +kernel⟩
theorem g_M_121 : xq_G xw R_M 121 y_M_compared b_M_compared 3 none 1 := ⟨(xw_3 (i := 81) rfl rfl), (xw_3 (i := 78) rfl rfl), (xw_3 (i := 80) rfl rfl), (xw_s (i := 32) (q := (y_M_compared, _)) rfl), (xw_1 (i := 6) rfl rfl), by decide +kernel⟩
theorem g_M_124 : xq_G xw R_M 124 y_M_listens b_M_listens 3 none 2 := ⟨(xw_3 (i := 65) rfl rfl), (xw_3 (i := 62) rfl rfl), (xw_3 (i := 64) rfl rfl), (xw_s (i := 28) (q := (y_M_listens, _)) rfl), (xw_1 (i := 6) rfl rfl), by decide +kernel⟩
theorem g_M_128 : xq_G xw R_M 128 y_M_insides b_M_insides 4 none 2 := ⟨(xw_3 (i := 73) rfl rfl), (xw_3 (i := 70) rfl rfl), (xw_3 (i := 72) rfl rfl), (xw_s (i := 30) (q := (y_M_insides, _)) rfl), (xw_1 (i := 6) rfl rfl), by decide +kernel⟩
theorem g_M_131 : xq_G xw R_M 131 y_M_goOn b_M_goOn 2 none 1 := ⟨(xw_3 (i := 36) rfl rfl), (xw_3 (i := 33) rfl rfl), (xw_3 (i := 35) rfl rfl), (xw_s (i := 21) (q := (y_M_goOn, _)) rfl), (xw_1 (i := 6) rfl rfl), by decide +kernel⟩
theorem g_M_134 : xq_G xw R_M 134 y_M_decide b_M_decide 2 none 1 := ⟨(xw_3 (i := 45) rfl rfl), (xw_3 (i := 42) rfl rfl), (xw_3 (i := 44) rfl rfl), (xw_s (i := 23) (q := (y_M_decide, _)) rfl), (xw_1 (i := 6) rfl rfl), by decide +kernel⟩
theorem g_M_137 : xq_G xw R_M 137 y_M_gather b_M_gather 3 none 0 := ⟨(xw_3 (i := 57) rfl rfl), (xw_3 (i := 54) rfl rfl), (xw_3 (i := 56) rfl rfl), (xw_s (i := 26) (q := (y_M_gather, _)) rfl), (xw_1 (i := 6) rfl rfl), by decide +kernel⟩
theorem g_M_140 : xq_G xw R_M 140 y_M_hear b_M_hear 3 none 1 := ⟨(xw_3 (i := 61) rfl rfl), (xw_3 (i := 58) rfl rfl), (xw_3 (i := 60) rfl rfl), (xw_s (i := 27) (q := (y_M_hear, _)) rfl), (xw_1 (i := 6) rfl rfl), by decide +kernel⟩
theorem g_M_143 : xq_G xw R_M 143 y_M_set b_M_set 7 none 1 := ⟨(xw_3 (i := 93) rfl rfl), (xw_3 (i := 90) rfl rfl), (xw_3 (i := 92) rfl rfl), (xw_s (i := 35) (q := (y_M_set, _)) rfl), (xw_1 (i := 6) rfl rfl), by decide +kernel⟩
theorem f_M_146 : xq_F xw R_M 146 vcl 4 18 := ⟨_, _, _, rfl, in_M, by decide, (xw_2 (i := 163) rfl rfl)⟩
theorem g_M_149 : xq_G xw R_M 149 y_M_slot b_M_slot 2 none 0 := ⟨(xw_3 (i := 32) rfl rfl), (xw_3 (i := 29) rfl rfl), (xw_3 (i := 31) rfl rfl), (xw_s (i := 20) (q := (y_M_slot, _)) rfl), (xw_1 (i := 6) rfl rfl), by decide +kernel⟩
theorem g_M_152 : xq_G xw R_M 152 y_M_time b_M_time 2 (some .int) 1 := ⟨(xw_3 (i := 113) rfl rfl), (xw_3 (i := 130) rfl rfl), (xw_3 (i := 111) rfl rfl), (xw_3 (i := 112) rfl rfl), (xw_1 (i := 6) rfl rfl), by decide +kernel⟩
theorem g_M_155 : xq_G xw R_M 155 y_M_members b_M_members 4 (some .int) 1 := ⟨(xw_3 (i := 109) rfl rfl), (xw_3 (i := 131) rfl rfl), (xw_3 (i := 107) rfl rfl), (xw_3 (i := 108) rfl rfl), (xw_1 (i := 6) rfl rfl), by decide +kernel⟩
theorem f_D_9 : xq_F xw R_D 9 vcl 2 0 := ⟨_, _, _, rfl, in_D, by decide, (xw_1 (i := 34) rfl rfl)⟩
theorem f_D_15 : xq_F xw R_D 15 vcl 2 1 := ⟨_, _, _, rfl, in_D, by decide, (xw_1 (i := 35) rfl rfl)⟩
theorem f_D_19 : xq_F xw R_D 19 vcl 2 2 := ⟨_, _, _, rfl, in_D, by decide, (xw_1 (i := 36) rfl rfl)⟩
theorem m_D_22 : Cond.methodLink R_D 22 Lib.Math.min.name ∈ xw := (xw_2 (i := 90) rfl rfl)
theorem m_D_28 : Cond.methodLink R_D 28 Lib.Math.max.name ∈ xw := (xw_2 (i := 91) rfl rfl)
theorem f_N_9 : xq_F xw R_N 9 vcl 3 0 := ⟨_, _, _, rfl, in_N, by decide, (xw_1 (i := 45) rfl rfl)⟩
theorem f_N_15 : xq_F xw R_N 15 vcl 3 1 := ⟨_, _, _, rfl, in_N, by decide, (xw_1 (i := 47) rfl rfl)⟩
theorem f_N_21 : xq_F xw R_N 21 vcl 3 2 := ⟨_, _, _, rfl, in_N, by decide, (xw_1 (i := 48) rfl rfl)⟩
theorem f_N_25 : xq_F xw R_N 25 vcl 3 3 := ⟨_, _, _, rfl, in_N, by decide, (xw_1 (i := 49) rfl rfl)⟩
theorem f_N_28 : xq_F xw R_N 28 vcl 3 12 := ⟨_, _, _, rfl, in_N, by decide, (xw_1 (i := 68) rfl rfl)⟩
theorem f_N_31 : xq_F xw R_N 31 vcl 3 18 := ⟨_, _, _, rfl, in_N, by decide, (xw_1 (i := 79) rfl rfl)⟩
theorem f_N_34 : xq_F xw R_N 34 vcl 3 6 := ⟨_, _, _, rfl, in_N, by decide, (xw_1 (i := 56) rfl rfl)⟩
theorem f_N_37 : xq_F xw R_N 37 vcl 3 4 := ⟨_, _, _, rfl, in_N, by decide, (xw_1 (i := 51) rfl rfl)⟩
theorem f_N_40 : xq_F xw R_N 40 vcl 3 5 := ⟨_, _, _, rfl, in_N, by decide, (xw_1 (i := 53) rfl rfl)⟩
theorem g_N_43 : xq_G xw R_N 43 y_N_beginListening b_N_beginListening 1 none 0 := ⟨(xw_1 (i := 179) rfl rfl), (xw_1 (i := 176) rfl rfl), (xw_1 (i := 177) rfl rfl), (xw_1 (i := 178) rfl rfl), (xw_1 (i := 3) rfl rfl), by decide +kernel⟩
theorem f_N_46 : xq_F xw R_N 46 vcl 3 15 := ⟨_, _, _, rfl, in_N, by decide, (xw_1 (i := 74) rfl rfl)⟩
theorem f_N_49 : xq_F xw R_N 49 vcl 3 11 := ⟨_, _, _, rfl, in_N, by decide, (xw_1 (i := 66) rfl rfl)⟩
theorem f_N_52 : xq_F xw R_N 52 vcl 3 14 := ⟨_, _, _, rfl, in_N, by decide, (xw_1 (i := 72) rfl rfl)⟩
theorem f_N_55 : xq_F xw R_N 55 vcl 3 7 := ⟨_, _, _, rfl, in_N, by decide, (xw_1 (i := 59) rfl rfl)⟩
theorem f_N_58 : xq_F xw R_N 58 vcl 3 8 := ⟨_, _, _, rfl, in_N, by decide, (xw_1 (i := 61) rfl rfl)⟩
theorem f_N_61 : xq_F xw R_N 61 vcl 3 16 := ⟨_, _, _, rfl, in_N, by decide, (xw_1 (i := 75) rfl rfl)⟩
theorem f_N_65 : xq_F xw R_N 65 vcl 3 17 := ⟨_, _, _, rfl, in_N, by decide, (xw_1 (i := 77) rfl rfl)⟩
theorem g_N_68 : xq_G xw R_N 68 y_N_listenLong b_N_listenLong 1 none 0 := ⟨(xw_1 (i := 183) rfl rfl), (xw_1 (i := 180) rfl rfl), (xw_1 (i := 182) rfl rfl), (xw_s (i := 1) (q := (y_N_listenLong, _)) rfl), (xw_1 (i := 3) rfl rfl), by decide +kernel⟩
theorem f_N_71 : xq_F xw R_N 71 vcl 3 10 := ⟨_, _, _, rfl, in_N, by decide, (xw_1 (i := 65) rfl rfl)⟩
theorem g_N_74 : xq_G xw R_N 74 y_D_forget b_D_forget 1 none 0 := ⟨(xw_1 (i := 187) rfl rfl), (xw_1 (i := 184) rfl rfl), (xw_1 (i := 185) rfl rfl), (xw_1 (i := 186) rfl rfl), (xw_1 (i := 4) rfl rfl), by decide +kernel⟩
theorem f_N_77 : xq_F xw R_N 77 vcl 3 9 := ⟨_, _, _, rfl, in_N, by decide, (xw_1 (i := 63) rfl rfl)⟩
theorem g_N_80 : xq_G xw R_N 80 y_N_isInside b_N_isInside 1 (some .boolean) 0 := ⟨(xw_1 (i := 232) rfl rfl), (xw_1 (i := 229) rfl rfl), (xw_1 (i := 230) rfl rfl), (xw_1 (i := 231) rfl rfl), (xw_1 (i := 3) rfl rfl), by decide +kernel⟩
theorem k_N_84 : Cond.constant R_N 84 65535 ∈ xw := (xw_1 (i := 233) rfl rfl)
theorem g_N_85 : xq_G xw R_N 85 y_N_listenOneSlot b_N_listenOneSlot 1 none 0 := ⟨(xw_2 (i := 9) rfl rfl), (xw_2 (i := 6) rfl rfl), (xw_2 (i := 8) rfl rfl), (xw_s (i := 5) (q := (y_N_listenOneSlot, _)) rfl), (xw_1 (i := 3) rfl rfl), by decide +kernel⟩
theorem g_N_88 : xq_G xw R_N 88 y_N_takeOwnTurn b_N_takeOwnTurn 1 none 0 := ⟨(xw_2 (i := 17) rfl rfl), (xw_2 (i := 14) rfl rfl), (xw_2 (i := 16) rfl rfl), (xw_s (i := 7) (q := (y_N_takeOwnTurn, _)) rfl), (xw_1 (i := 3) rfl rfl), by decide +kernel⟩
theorem g_N_91 : xq_G xw R_N 91 y_N_countAnew b_N_countAnew 2 none 1 := ⟨(xw_2 (i := 13) rfl rfl), (xw_2 (i := 10) rfl rfl), (xw_2 (i := 12) rfl rfl), (xw_s (i := 6) (q := (y_N_countAnew, _)) rfl), (xw_1 (i := 3) rfl rfl), by decide +kernel⟩
theorem g_N_95 : xq_G xw R_N 95 y_N_join b_N_join 2 none 1 := ⟨(xw_2 (i := 21) rfl rfl), (xw_2 (i := 18) rfl rfl), (xw_2 (i := 20) rfl rfl), (xw_s (i := 8) (q := (y_N_join, _)) rfl), (xw_1 (i := 3) rfl rfl), by decide +kernel⟩
theorem f_N_98 : xq_F xw R_N 98 vcl 1 0 := ⟨_, _, _, rfl, in_W, by decide, (xw_1 (i := 129) rfl rfl)⟩
theorem g_N_103 : xq_G xw R_N 103 y_N_comeIn b_N_comeIn 2 none 1 := ⟨(xw_2 (i := 49) rfl rfl), (xw_2 (i := 46) rfl rfl), (xw_2 (i := 48) rfl rfl), (xw_s (i := 11) (q := (y_N_comeIn, _)) rfl), (xw_1 (i := 3) rfl rfl), by decide +kernel⟩
theorem f_N_107 : xq_F xw R_N 107 vcl 1 1 := ⟨_, _, _, rfl, in_W, by decide, (xw_1 (i := 132) rfl rfl)⟩
theorem f_N_110 : xq_F xw R_N 110 vcl 1 2 := ⟨_, _, _, rfl, in_W, by decide, (xw_1 (i := 134) rfl rfl)⟩
theorem f_N_111 : xq_F xw R_N 111 vcl 1 3 := ⟨_, _, _, rfl, in_W, by decide, (xw_1 (i := 136) rfl rfl)⟩
theorem f_N_112 : xq_F xw R_N 112 vcl 1 4 := ⟨_, _, _, rfl, in_W, by decide, (xw_1 (i := 138) rfl rfl)⟩
theorem g_N_113 : xq_G xw R_N 113 y_N_leave b_N_leave 2 none 1 := ⟨(xw_2 (i := 58) rfl rfl), (xw_2 (i := 55) rfl rfl), (xw_2 (i := 57) rfl rfl), (xw_s (i := 12) (q := (y_N_leave, _)) rfl), (xw_1 (i := 3) rfl rfl), by decide +kernel⟩
theorem g_N_116 : xq_G xw R_N 116 y_N_isDue b_N_isDue 3 (some .boolean) 1 := ⟨(xw_2 (i := 62) rfl rfl), (xw_2 (i := 59) rfl rfl), (xw_2 (i := 61) rfl rfl), (xw_s (i := 13) (q := (y_N_isDue, _)) rfl), (xw_1 (i := 3) rfl rfl), by decide +kernel⟩
theorem g_N_120 : xq_G xw R_N 120 y_N_compareMembers b_N_compareMembers 3 (some .int) 1 := ⟨(xw_2 (i := 66) rfl rfl), (xw_2 (i := 63) rfl rfl), (xw_2 (i := 65) rfl rfl), (xw_s (i := 14) (q := (y_N_compareMembers, _)) rfl), (xw_1 (i := 3) rfl rfl), by decide +kernel⟩
theorem g_N_124 : xq_G xw R_N 124 y_D_keep b_D_keep 2 none 1 := ⟨(xw_2 (i := 77) rfl rfl), (xw_2 (i := 74) rfl rfl), (xw_2 (i := 75) rfl rfl), (xw_2 (i := 76) rfl rfl), (xw_1 (i := 4) rfl rfl), by decide +kernel⟩
theorem g_N_127 : xq_G xw R_N 127 y_N_settleDoubt b_N_settleDoubt 3 (some .int) 2 := ⟨(xw_2 (i := 70) rfl rfl), (xw_2 (i := 67) rfl rfl), (xw_2 (i := 69) rfl rfl), (xw_s (i := 15) (q := (y_N_settleDoubt, _)) rfl), (xw_1 (i := 3) rfl rfl), by decide +kernel⟩
theorem g_N_131 : xq_GS xw R_N 131 y_N_without b_N_without 2 (some .int) 2 := ⟨(xw_2 (i := 73) rfl rfl), (xw_2 (i := 71) rfl rfl), (xw_2 (i := 72) rfl rfl), (xw_1 (i := 3) rfl rfl), by decide +kernel⟩
theorem f_N_134 : xq_F xw R_N 134 vcl 3 13 := ⟨_, _, _, rfl, in_N, by decide, (xw_1 (i := 70) rfl rfl)⟩
theorem g_N_137 : xq_G xw R_N 137 y_D_areComplete b_D_areComplete 1 (some .boolean) 0 := ⟨(xw_2 (i := 85) rfl rfl), (xw_2 (i := 82) rfl rfl), (xw_2 (i := 83) rfl rfl), (xw_2 (i := 84) rfl rfl), (xw_1 (i := 4) rfl rfl), by decide +kernel⟩
theorem g_N_140 : xq_G xw R_N 140 y_D_middle b_D_middle 8 (some .int) 0 := ⟨(xw_2 (i := 89) rfl rfl), (xw_2 (i := 86) rfl rfl), (xw_2 (i := 87) rfl rfl), (xw_2 (i := 88) rfl rfl), (xw_1 (i := 4) rfl rfl), by decide +kernel⟩
theorem f_W_9 : xq_F xw R_W 9 vcl 1 0 := ⟨_, _, _, rfl, in_W, by decide, (xw_1 (i := 127) rfl rfl)⟩
theorem f_W_15 : xq_F xw R_W 15 vcl 3 18 := ⟨_, _, _, rfl, in_N, by decide, (xw_1 (i := 80) rfl rfl)⟩
theorem f_W_20 : xq_F xw R_W 20 vcl 3 0 := ⟨_, _, _, rfl, in_N, by decide, (xw_1 (i := 46) rfl rfl)⟩
theorem f_W_23 : xq_F xw R_W 23 vcl 1 1 := ⟨_, _, _, rfl, in_W, by decide, (xw_1 (i := 130) rfl rfl)⟩
theorem f_W_26 : xq_F xw R_W 26 vcl 3 5 := ⟨_, _, _, rfl, in_N, by decide, (xw_1 (i := 54) rfl rfl)⟩
theorem f_W_29 : xq_F xw R_W 29 vcl 1 2 := ⟨_, _, _, rfl, in_W, by decide, (xw_1 (i := 133) rfl rfl)⟩
theorem f_W_30 : xq_F xw R_W 30 vcl 3 6 := ⟨_, _, _, rfl, in_N, by decide, (xw_1 (i := 57) rfl rfl)⟩
theorem f_W_33 : xq_F xw R_W 33 vcl 1 3 := ⟨_, _, _, rfl, in_W, by decide, (xw_1 (i := 135) rfl rfl)⟩
theorem f_W_34 : xq_F xw R_W 34 vcl 3 14 := ⟨_, _, _, rfl, in_N, by decide, (xw_1 (i := 71) rfl rfl)⟩
theorem f_W_37 : xq_F xw R_W 37 vcl 1 4 := ⟨_, _, _, rfl, in_W, by decide, (xw_1 (i := 137) rfl rfl)⟩
theorem g_L_9 : xq_GS xw R_L 9 y_L_cell b_L_cell 2 (some .int) 2 := ⟨(xw_2 (i := 138) rfl rfl), (xw_2 (i := 136) rfl rfl), (xw_2 (i := 137) rfl rfl), (xw_1 (i := 0) rfl rfl), by decide +kernel⟩
theorem g_L_21 : xq_G xw R_L 21 y_C_nodes b_C_nodes 1 (some .int) 0 := ⟨(xw_1 (i := 163) rfl rfl), (xw_1 (i := 160) rfl rfl), (xw_1 (i := 161) rfl rfl), (xw_1 (i := 162) rfl rfl), (xw_1 (i := 1) rfl rfl), by decide +kernel⟩
theorem g_L_25 : xq_G xw R_L 25 y_M_nodes b_M_nodes 1 (some .int) 0 := ⟨(xw_2 (i := 228) rfl rfl), (xw_2 (i := 225) rfl rfl), (xw_2 (i := 226) rfl rfl), (xw_2 (i := 227) rfl rfl), (xw_1 (i := 6) rfl rfl), by decide +kernel⟩
theorem g_L_26 : xq_G xw R_L 26 y_C_on b_C_on 4 (some .boolean) 2 := ⟨(xw_1 (i := 167) rfl rfl), (xw_1 (i := 164) rfl rfl), (xw_1 (i := 165) rfl rfl), (xw_1 (i := 166) rfl rfl), (xw_1 (i := 1) rfl rfl), by decide +kernel⟩
theorem g_L_30 : xq_G xw R_L 30 y_M_on b_M_on 4 (some .boolean) 2 := ⟨(xw_2 (i := 232) rfl rfl), (xw_2 (i := 229) rfl rfl), (xw_2 (i := 230) rfl rfl), (xw_2 (i := 231) rfl rfl), (xw_1 (i := 6) rfl rfl), by decide +kernel⟩
theorem g_L_31 : xq_G xw R_L 31 y_C_off b_C_off 3 (some .boolean) 1 := ⟨(xw_1 (i := 191) rfl rfl), (xw_1 (i := 188) rfl rfl), (xw_1 (i := 189) rfl rfl), (xw_1 (i := 190) rfl rfl), (xw_1 (i := 1) rfl rfl), by decide +kernel⟩
theorem g_L_35 : xq_G xw R_L 35 y_M_off b_M_off 2 (some .boolean) 1 := ⟨(xw_3 (i := 4) rfl rfl), (xw_3 (i := 1) rfl rfl), (xw_3 (i := 2) rfl rfl), (xw_3 (i := 3) rfl rfl), (xw_1 (i := 6) rfl rfl), by decide +kernel⟩
theorem g_L_36 : xq_G xw R_L 36 y_C_thaw b_C_thaw 3 (some .boolean) 1 := ⟨(xw_1 (i := 203) rfl rfl), (xw_1 (i := 200) rfl rfl), (xw_1 (i := 201) rfl rfl), (xw_1 (i := 202) rfl rfl), (xw_1 (i := 1) rfl rfl), by decide +kernel⟩
theorem g_L_39 : xq_G xw R_L 39 y_M_thaw b_M_thaw 2 (some .boolean) 1 := ⟨(xw_3 (i := 12) rfl rfl), (xw_3 (i := 9) rfl rfl), (xw_3 (i := 10) rfl rfl), (xw_3 (i := 11) rfl rfl), (xw_1 (i := 6) rfl rfl), by decide +kernel⟩
theorem g_L_40 : xq_G xw R_L 40 y_C_mute b_C_mute 3 (some .boolean) 1 := ⟨(xw_1 (i := 208) rfl rfl), (xw_1 (i := 205) rfl rfl), (xw_1 (i := 206) rfl rfl), (xw_1 (i := 207) rfl rfl), (xw_1 (i := 1) rfl rfl), by decide +kernel⟩
theorem g_L_43 : xq_G xw R_L 43 y_M_mute b_M_mute 2 (some .boolean) 1 := ⟨(xw_3 (i := 16) rfl rfl), (xw_3 (i := 13) rfl rfl), (xw_3 (i := 14) rfl rfl), (xw_3 (i := 15) rfl rfl), (xw_1 (i := 6) rfl rfl), by decide +kernel⟩
theorem g_L_44 : xq_G xw R_L 44 y_C_deafen b_C_deafen 3 (some .boolean) 1 := ⟨(xw_1 (i := 212) rfl rfl), (xw_1 (i := 209) rfl rfl), (xw_1 (i := 210) rfl rfl), (xw_1 (i := 211) rfl rfl), (xw_1 (i := 1) rfl rfl), by decide +kernel⟩
theorem g_L_47 : xq_G xw R_L 47 y_M_deafen b_M_deafen 2 (some .boolean) 1 := ⟨(xw_3 (i := 20) rfl rfl), (xw_3 (i := 17) rfl rfl), (xw_3 (i := 18) rfl rfl), (xw_3 (i := 19) rfl rfl), (xw_1 (i := 6) rfl rfl), by decide +kernel⟩
theorem g_L_48 : xq_G xw R_L 48 y_C_shift b_C_shift 4 (some .boolean) 2 := ⟨(xw_1 (i := 216) rfl rfl), (xw_1 (i := 213) rfl rfl), (xw_1 (i := 214) rfl rfl), (xw_1 (i := 215) rfl rfl), (xw_1 (i := 1) rfl rfl), by decide +kernel⟩
theorem g_L_51 : xq_G xw R_L 51 y_M_shift b_M_shift 3 (some .boolean) 2 := ⟨(xw_3 (i := 24) rfl rfl), (xw_3 (i := 21) rfl rfl), (xw_3 (i := 22) rfl rfl), (xw_3 (i := 23) rfl rfl), (xw_1 (i := 6) rfl rfl), by decide +kernel⟩
theorem g_L_52 : xq_G xw R_L 52 y_C_run b_C_run 4 (some .int) 1 := ⟨(xw_1 (i := 220) rfl rfl), (xw_1 (i := 217) rfl rfl), (xw_1 (i := 218) rfl rfl), (xw_1 (i := 219) rfl rfl), (xw_1 (i := 1) rfl rfl), by decide +kernel⟩
theorem g_L_56 : xq_G xw R_L 56 y_M_run b_M_run 4 (some .int) 1 := ⟨(xw_3 (i := 28) rfl rfl), (xw_3 (i := 25) rfl rfl), (xw_3 (i := 26) rfl rfl), (xw_3 (i := 27) rfl rfl), (xw_1 (i := 6) rfl rfl), by decide +kernel⟩
theorem g_L_57 : xq_G xw R_L 57 y_C_slots b_C_slots 1 (some .int) 0 := ⟨(xw_2 (i := 95) rfl rfl), (xw_2 (i := 92) rfl rfl), (xw_2 (i := 93) rfl rfl), (xw_2 (i := 94) rfl rfl), (xw_1 (i := 1) rfl rfl), by decide +kernel⟩
theorem g_L_60 : xq_G xw R_L 60 y_M_slots b_M_slots 1 (some .int) 0 := ⟨(xw_3 (i := 97) rfl rfl), (xw_3 (i := 94) rfl rfl), (xw_3 (i := 95) rfl rfl), (xw_3 (i := 96) rfl rfl), (xw_1 (i := 6) rfl rfl), by decide +kernel⟩
theorem g_L_61 : xq_G xw R_L 61 y_C_bus b_C_bus 1 (some .int) 0 := ⟨(xw_2 (i := 99) rfl rfl), (xw_2 (i := 96) rfl rfl), (xw_2 (i := 97) rfl rfl), (xw_2 (i := 98) rfl rfl), (xw_1 (i := 1) rfl rfl), by decide +kernel⟩
theorem g_L_64 : xq_G xw R_L 64 y_M_bus b_M_bus 1 (some .int) 0 := ⟨(xw_3 (i := 101) rfl rfl), (xw_3 (i := 98) rfl rfl), (xw_3 (i := 99) rfl rfl), (xw_3 (i := 100) rfl rfl), (xw_1 (i := 6) rfl rfl), by decide +kernel⟩
theorem g_L_65 : xq_G xw R_L 65 y_C_mode b_C_mode 3 (some .int) 1 := ⟨(xw_2 (i := 103) rfl rfl), (xw_2 (i := 100) rfl rfl), (xw_2 (i := 101) rfl rfl), (xw_2 (i := 102) rfl rfl), (xw_1 (i := 1) rfl rfl), by decide +kernel⟩
theorem g_L_68 : xq_G xw R_L 68 y_M_mode b_M_mode 2 (some .int) 1 := ⟨(xw_3 (i := 105) rfl rfl), (xw_3 (i := 102) rfl rfl), (xw_3 (i := 103) rfl rfl), (xw_3 (i := 104) rfl rfl), (xw_1 (i := 6) rfl rfl), by decide +kernel⟩
theorem g_L_69 : xq_G xw R_L 69 y_C_members b_C_members 3 (some .int) 1 := ⟨(xw_2 (i := 107) rfl rfl), (xw_2 (i := 104) rfl rfl), (xw_2 (i := 105) rfl rfl), (xw_2 (i := 106) rfl rfl), (xw_1 (i := 1) rfl rfl), by decide +kernel⟩
theorem g_L_72 : xq_G xw R_L 72 y_M_members b_M_members 4 (some .int) 1 := ⟨(xw_3 (i := 109) rfl rfl), (xw_3 (i := 106) rfl rfl), (xw_3 (i := 107) rfl rfl), (xw_3 (i := 108) rfl rfl), (xw_1 (i := 6) rfl rfl), by decide +kernel⟩
theorem g_L_73 : xq_G xw R_L 73 y_C_time b_C_time 3 (some .int) 1 := ⟨(xw_2 (i := 115) rfl rfl), (xw_2 (i := 112) rfl rfl), (xw_2 (i := 113) rfl rfl), (xw_2 (i := 114) rfl rfl), (xw_1 (i := 1) rfl rfl), by decide +kernel⟩
theorem g_L_76 : xq_G xw R_L 76 y_M_time b_M_time 2 (some .int) 1 := ⟨(xw_3 (i := 113) rfl rfl), (xw_3 (i := 110) rfl rfl), (xw_3 (i := 111) rfl rfl), (xw_3 (i := 112) rfl rfl), (xw_1 (i := 6) rfl rfl), by decide +kernel⟩
theorem g_L_77 : xq_G xw R_L 77 y_C_counts b_C_counts 3 (some .int) 1 := ⟨(xw_2 (i := 119) rfl rfl), (xw_2 (i := 116) rfl rfl), (xw_2 (i := 117) rfl rfl), (xw_2 (i := 118) rfl rfl), (xw_1 (i := 1) rfl rfl), by decide +kernel⟩
theorem g_L_80 : xq_G xw R_L 80 y_M_counts b_M_counts 2 (some .int) 1 := ⟨(xw_3 (i := 117) rfl rfl), (xw_3 (i := 114) rfl rfl), (xw_3 (i := 115) rfl rfl), (xw_3 (i := 116) rfl rfl), (xw_1 (i := 6) rfl rfl), by decide +kernel⟩
theorem g_L_81 : xq_G xw R_L 81 y_C_patience b_C_patience 3 (some .int) 1 := ⟨(xw_2 (i := 123) rfl rfl), (xw_2 (i := 120) rfl rfl), (xw_2 (i := 121) rfl rfl), (xw_2 (i := 122) rfl rfl), (xw_1 (i := 1) rfl rfl), by decide +kernel⟩
theorem g_L_84 : xq_G xw R_L 84 y_M_patience b_M_patience 2 (some .int) 1 := ⟨(xw_3 (i := 121) rfl rfl), (xw_3 (i := 118) rfl rfl), (xw_3 (i := 119) rfl rfl), (xw_3 (i := 120) rfl rfl), (xw_1 (i := 6) rfl rfl), by decide +kernel⟩
theorem g_L_85 : xq_G xw R_L 85 y_C_gap b_C_gap 5 (some .int) 2 := ⟨(xw_2 (i := 127) rfl rfl), (xw_2 (i := 124) rfl rfl), (xw_2 (i := 125) rfl rfl), (xw_2 (i := 126) rfl rfl), (xw_1 (i := 1) rfl rfl), by decide +kernel⟩
theorem g_L_89 : xq_G xw R_L 89 y_M_gap b_M_gap 3 (some .int) 2 := ⟨(xw_3 (i := 125) rfl rfl), (xw_3 (i := 122) rfl rfl), (xw_3 (i := 123) rfl rfl), (xw_3 (i := 124) rfl rfl), (xw_1 (i := 6) rfl rfl), by decide +kernel⟩
theorem g_L_90 : xq_G xw R_L 90 y_C_united b_C_united 7 (some .boolean) 0 := ⟨(xw_2 (i := 131) rfl rfl), (xw_2 (i := 128) rfl rfl), (xw_2 (i := 129) rfl rfl), (xw_2 (i := 130) rfl rfl), (xw_1 (i := 1) rfl rfl), by decide +kernel⟩
theorem g_L_94 : xq_G xw R_L 94 y_M_united b_M_united 5 (some .boolean) 0 := ⟨(xw_3 (i := 129) rfl rfl), (xw_3 (i := 126) rfl rfl), (xw_3 (i := 127) rfl rfl), (xw_3 (i := 128) rfl rfl), (xw_1 (i := 6) rfl rfl), by decide +kernel⟩
theorem m_max_s : Cond.static Lib.Math.max.name ∈ xw := (xw_1 (i := 19) rfl rfl)
theorem m_max_c : Cond.code Lib.Math.max.name Lib.Math.max.code 2 (some .int) ∈ xw := (xw_1 (i := 20) rfl rfl)
theorem m_min_s : Cond.static Lib.Math.min.name ∈ xw := (xw_1 (i := 16) rfl rfl)
theorem m_min_c : Cond.code Lib.Math.min.name Lib.Math.min.code 2 (some .int) ∈ xw := (xw_1 (i := 17) rfl rfl)
theorem m_init : Cond.initialized "java/lang/Math" ∈ xw := (xw_1 (i := 2) rfl rfl)
