section
-- ===== PART A: goes FIRST, ahead of the names: the tables' words, and 'selects' of the private methods out of them =====
/-- a private method of a class that the tables say can be made, by its rows of tables_1 -/
def lw_okq (q : MethodName × Nat) : Prop := (q.1.cls ≠ "java/lang/invoke/MethodHandle" ∧ q.1.cls ≠ "java/lang/invoke/VarHandle") ∧ Cond.instantiable q.1.cls q.2 ∈ tables_1 ∧ Cond.privateMethod q.1 ∈ tables_1 ∧ Cond.instanceMethod q.1 ∈ tables_1
theorem lw_p0 : lw_okq (⟨"GearModules$OneModule", "voteAll", "(I)I"⟩, 8) := ⟨⟨by decide +kernel, by decide +kernel⟩, List.mem_of_getElem? (i := 17) (by decide +kernel), List.mem_of_getElem? (i := 109) (by decide +kernel), List.mem_of_getElem? (i := 110) (by decide +kernel)⟩
theorem lw_p1 : lw_okq (⟨"GearModules$Sensor", "voteOfThree", "(I)V"⟩, 3) := ⟨⟨by decide +kernel, by decide +kernel⟩, List.mem_of_getElem? (i := 24) (by decide +kernel), List.mem_of_getElem? (i := 117) (by decide +kernel), List.mem_of_getElem? (i := 118) (by decide +kernel)⟩
theorem lw_p2 : lw_okq (⟨"GearModules$Sensor", "voteOfTwo", "(I)V"⟩, 3) := ⟨⟨by decide +kernel, by decide +kernel⟩, List.mem_of_getElem? (i := 24) (by decide +kernel), List.mem_of_getElem? (i := 127) (by decide +kernel), List.mem_of_getElem? (i := 128) (by decide +kernel)⟩
theorem lw_p3 : lw_okq (⟨"GearModules$OneModule", "wantedValves", "(Z)I"⟩, 8) := ⟨⟨by decide +kernel, by decide +kernel⟩, List.mem_of_getElem? (i := 17) (by decide +kernel), List.mem_of_getElem? (i := 131) (by decide +kernel), List.mem_of_getElem? (i := 132) (by decide +kernel)⟩
theorem lw_p4 : lw_okq (⟨"GearModules$OneModule", "isOn", "(I)Z"⟩, 8) := ⟨⟨by decide +kernel, by decide +kernel⟩, List.mem_of_getElem? (i := 17) (by decide +kernel), List.mem_of_getElem? (i := 139) (by decide +kernel), List.mem_of_getElem? (i := 140) (by decide +kernel)⟩
theorem lw_p5 : lw_okq (⟨"GearModules$OneModule", "gearsAreRetracted", "()Z"⟩, 8) := ⟨⟨by decide +kernel, by decide +kernel⟩, List.mem_of_getElem? (i := 17) (by decide +kernel), List.mem_of_getElem? (i := 143) (by decide +kernel), List.mem_of_getElem? (i := 144) (by decide +kernel)⟩
theorem lw_p6 : lw_okq (⟨"GearModules$OneModule", "switchValves", "(I)V"⟩, 8) := ⟨⟨by decide +kernel, by decide +kernel⟩, List.mem_of_getElem? (i := 17) (by decide +kernel), List.mem_of_getElem? (i := 147) (by decide +kernel), List.mem_of_getElem? (i := 148) (by decide +kernel)⟩
theorem lw_p7 : lw_okq (⟨"GearModules$OneModule", "watchConditions", "()I"⟩, 8) := ⟨⟨by decide +kernel, by decide +kernel⟩, List.mem_of_getElem? (i := 17) (by decide +kernel), List.mem_of_getElem? (i := 157) (by decide +kernel), List.mem_of_getElem? (i := 158) (by decide +kernel)⟩
theorem lw_p8 : lw_okq (⟨"GearModules$OneModule", "conditionHolds", "(I)Z"⟩, 8) := ⟨⟨by decide +kernel, by decide +kernel⟩, List.mem_of_getElem? (i := 17) (by decide +kernel), List.mem_of_getElem? (i := 161) (by decide +kernel), List.mem_of_getElem? (i := 162) (by decide +kernel)⟩
theorem lw_p9 : lw_okq (⟨"GearModules$OneModule", "isSwitchedOn", "(I)Z"⟩, 8) := ⟨⟨by decide +kernel, by decide +kernel⟩, List.mem_of_getElem? (i := 17) (by decide +kernel), List.mem_of_getElem? (i := 165) (by decide +kernel), List.mem_of_getElem? (i := 166) (by decide +kernel)⟩
theorem lw_p10 : lw_okq (⟨"GearModules$OneModule", "watchSwitch", "()I"⟩, 8) := ⟨⟨by decide +kernel, by decide +kernel⟩, List.mem_of_getElem? (i := 17) (by decide +kernel), List.mem_of_getElem? (i := 174) (by decide +kernel), List.mem_of_getElem? (i := 175) (by decide +kernel)⟩
theorem lw_p11 : lw_okq (⟨"GearModules$OneModule", "endWait", "()V"⟩, 8) := ⟨⟨by decide +kernel, by decide +kernel⟩, List.mem_of_getElem? (i := 17) (by decide +kernel), List.mem_of_getElem? (i := 178) (by decide +kernel), List.mem_of_getElem? (i := 179) (by decide +kernel)⟩
theorem lw_p12 : lw_okq (⟨"GearModules", "write", "(II)V"⟩, 6) := ⟨⟨by decide +kernel, by decide +kernel⟩, List.mem_of_getElem? (i := 8) (by decide +kernel), List.mem_of_getElem? (i := 182) (by decide +kernel), List.mem_of_getElem? (i := 183) (by decide +kernel)⟩
theorem lw_p13 : lw_okq (⟨"GearModules", "valvesOfEither", "()I"⟩, 6) := ⟨⟨by decide +kernel, by decide +kernel⟩, List.mem_of_getElem? (i := 8) (by decide +kernel), List.mem_of_getElem? (i := 223) (by decide +kernel), List.mem_of_getElem? (i := 224) (by decide +kernel)⟩
theorem lw_p14 : lw_okq (⟨"GearModulesModel", "step", "(I)V"⟩, 14) := ⟨⟨by decide +kernel, by decide +kernel⟩, List.mem_of_getElem? (i := 278) (by decide +kernel), List.mem_of_getElem? (i := 336) (by decide +kernel), List.mem_of_getElem? (i := 337) (by decide +kernel)⟩
theorem lw_p15 : lw_okq (⟨"GearModulesModel", "vote", "(II)V"⟩, 14) := ⟨⟨by decide +kernel, by decide +kernel⟩, List.mem_of_getElem? (i := 278) (by decide +kernel), List.mem_of_getElem? (i := 340) (by decide +kernel), List.mem_of_getElem? (i := 341) (by decide +kernel)⟩
def lw_privs_1 : List (MethodName × Nat) := [(⟨"GearModules$OneModule", "voteAll", "(I)I"⟩, 8), (⟨"GearModules$Sensor", "voteOfThree", "(I)V"⟩, 3), (⟨"GearModules$Sensor", "voteOfTwo", "(I)V"⟩, 3), (⟨"GearModules$OneModule", "wantedValves", "(Z)I"⟩, 8), (⟨"GearModules$OneModule", "isOn", "(I)Z"⟩, 8), (⟨"GearModules$OneModule", "gearsAreRetracted", "()Z"⟩, 8), (⟨"GearModules$OneModule", "switchValves", "(I)V"⟩, 8), (⟨"GearModules$OneModule", "watchConditions", "()I"⟩, 8), (⟨"GearModules$OneModule", "conditionHolds", "(I)Z"⟩, 8), (⟨"GearModules$OneModule", "isSwitchedOn", "(I)Z"⟩, 8), (⟨"GearModules$OneModule", "watchSwitch", "()I"⟩, 8), (⟨"GearModules$OneModule", "endWait", "()V"⟩, 8), (⟨"GearModules", "write", "(II)V"⟩, 6), (⟨"GearModules", "valvesOfEither", "()I"⟩, 6), (⟨"GearModulesModel", "step", "(I)V"⟩, 14), (⟨"GearModulesModel", "vote", "(II)V"⟩, 14)]
theorem lw_r1 : ∀ q ∈ lw_privs_1, lw_okq q := List.forall_mem_cons.mpr ⟨lw_p0, List.forall_mem_cons.mpr ⟨lw_p1, List.forall_mem_cons.mpr ⟨lw_p2, List.forall_mem_cons.mpr ⟨lw_p3, List.forall_mem_cons.mpr ⟨lw_p4, List.forall_mem_cons.mpr ⟨lw_p5, List.forall_mem_cons.mpr ⟨lw_p6, List.forall_mem_cons.mpr ⟨lw_p7, List.forall_mem_cons.mpr ⟨lw_p8, List.forall_mem_cons.mpr ⟨lw_p9, List.forall_mem_cons.mpr ⟨lw_p10, List.forall_mem_cons.mpr ⟨lw_p11, List.forall_mem_cons.mpr ⟨lw_p12, List.forall_mem_cons.mpr ⟨lw_p13, List.forall_mem_cons.mpr ⟨lw_p14, List.forall_mem_cons.mpr ⟨lw_p15, fun _ h => absurd h List.not_mem_nil⟩⟩⟩⟩⟩⟩⟩⟩⟩⟩⟩⟩⟩⟩⟩⟩
theorem lw_p16 : lw_okq (⟨"GearModulesModel", "say", "(IIZ)I"⟩, 14) := ⟨⟨by decide +kernel, by decide +kernel⟩, List.mem_of_getElem? (i := 278) (by decide +kernel), List.mem_of_getElem? (i := 344) (by decide +kernel), List.mem_of_getElem? (i := 345) (by decide +kernel)⟩
theorem lw_p17 : lw_okq (⟨"GearModulesModel", "channel", "(II)Z"⟩, 14) := ⟨⟨by decide +kernel, by decide +kernel⟩, List.mem_of_getElem? (i := 278) (by decide +kernel), List.mem_of_getElem? (i := 348) (by decide +kernel), List.mem_of_getElem? (i := 349) (by decide +kernel)⟩
theorem lw_p18 : lw_okq (⟨"GearModulesModel", "gets", "(II)V"⟩, 14) := ⟨⟨by decide +kernel, by decide +kernel⟩, List.mem_of_getElem? (i := 278) (by decide +kernel), List.mem_of_getElem? (i := 352) (by decide +kernel), List.mem_of_getElem? (i := 353) (by decide +kernel)⟩
theorem lw_p19 : lw_okq (⟨"GearModulesModel", "valvesNow", "(I)I"⟩, 14) := ⟨⟨by decide +kernel, by decide +kernel⟩, List.mem_of_getElem? (i := 278) (by decide +kernel), List.mem_of_getElem? (i := 358) (by decide +kernel), List.mem_of_getElem? (i := 359) (by decide +kernel)⟩
theorem lw_p20 : lw_okq (⟨"GearModulesModel", "wanted", "(II)Z"⟩, 14) := ⟨⟨by decide +kernel, by decide +kernel⟩, List.mem_of_getElem? (i := 278) (by decide +kernel), List.mem_of_getElem? (i := 362) (by decide +kernel), List.mem_of_getElem? (i := 363) (by decide +kernel)⟩
theorem lw_p21 : lw_okq (⟨"GearModulesModel", "right", "(I)Z"⟩, 14) := ⟨⟨by decide +kernel, by decide +kernel⟩, List.mem_of_getElem? (i := 278) (by decide +kernel), List.mem_of_getElem? (i := 366) (by decide +kernel), List.mem_of_getElem? (i := 367) (by decide +kernel)⟩
theorem lw_p22 : lw_okq (⟨"GearModulesModel", "was", "(III)Z"⟩, 14) := ⟨⟨by decide +kernel, by decide +kernel⟩, List.mem_of_getElem? (i := 278) (by decide +kernel), List.mem_of_getElem? (i := 370) (by decide +kernel), List.mem_of_getElem? (i := 371) (by decide +kernel)⟩
theorem lw_p23 : lw_okq (⟨"GearModulesModel", "watch", "(I)V"⟩, 14) := ⟨⟨by decide +kernel, by decide +kernel⟩, List.mem_of_getElem? (i := 278) (by decide +kernel), List.mem_of_getElem? (i := 377) (by decide +kernel), List.mem_of_getElem? (i := 378) (by decide +kernel)⟩
theorem lw_p24 : lw_okq (⟨"GearModulesModel", "waiting", "(II)V"⟩, 14) := ⟨⟨by decide +kernel, by decide +kernel⟩, List.mem_of_getElem? (i := 278) (by decide +kernel), List.mem_of_getElem? (i := 381) (by decide +kernel), List.mem_of_getElem? (i := 382) (by decide +kernel)⟩
theorem lw_p25 : lw_okq (⟨"GearModulesModel", "condition", "(II)Z"⟩, 14) := ⟨⟨by decide +kernel, by decide +kernel⟩, List.mem_of_getElem? (i := 278) (by decide +kernel), List.mem_of_getElem? (i := 385) (by decide +kernel), List.mem_of_getElem? (i := 386) (by decide +kernel)⟩
theorem lw_p26 : lw_okq (⟨"GearModulesModel", "valvesOf", "(I)I"⟩, 14) := ⟨⟨by decide +kernel, by decide +kernel⟩, List.mem_of_getElem? (i := 278) (by decide +kernel), List.mem_of_getElem? (i := 415) (by decide +kernel), List.mem_of_getElem? (i := 416) (by decide +kernel)⟩
def lw_privs_2 : List (MethodName × Nat) := [(⟨"GearModulesModel", "say", "(IIZ)I"⟩, 14), (⟨"GearModulesModel", "channel", "(II)Z"⟩, 14), (⟨"GearModulesModel", "gets", "(II)V"⟩, 14), (⟨"GearModulesModel", "valvesNow", "(I)I"⟩, 14), (⟨"GearModulesModel", "wanted", "(II)Z"⟩, 14), (⟨"GearModulesModel", "right", "(I)Z"⟩, 14), (⟨"GearModulesModel", "was", "(III)Z"⟩, 14), (⟨"GearModulesModel", "watch", "(I)V"⟩, 14), (⟨"GearModulesModel", "waiting", "(II)V"⟩, 14), (⟨"GearModulesModel", "condition", "(II)Z"⟩, 14), (⟨"GearModulesModel", "valvesOf", "(I)I"⟩, 14)]
theorem lw_r2 : ∀ q ∈ lw_privs_2, lw_okq q := List.forall_mem_cons.mpr ⟨lw_p16, List.forall_mem_cons.mpr ⟨lw_p17, List.forall_mem_cons.mpr ⟨lw_p18, List.forall_mem_cons.mpr ⟨lw_p19, List.forall_mem_cons.mpr ⟨lw_p20, List.forall_mem_cons.mpr ⟨lw_p21, List.forall_mem_cons.mpr ⟨lw_p22, List.forall_mem_cons.mpr ⟨lw_p23, List.forall_mem_cons.mpr ⟨lw_p24, List.forall_mem_cons.mpr ⟨lw_p25, List.forall_mem_cons.mpr ⟨lw_p26, fun _ h => absurd h List.not_mem_nil⟩⟩⟩⟩⟩⟩⟩⟩⟩⟩⟩
def lw_privs : List (MethodName × Nat) := lw_privs_1 ++ (lw_privs_2)
def lw_tbl : List Cond := k2_sels lw_privs ++ tables_1
theorem lw_privs_ok : ∀ q ∈ lw_privs, lw_okq q := by
  show ∀ q ∈ lw_privs_1 ++ (lw_privs_2), lw_okq q
  exact List.forall_mem_append.mpr ⟨lw_r1, lw_r2⟩
end
section
abbrev R_G : String := "GearModules"
def F_G : u_T := fun k => match k with
  | 0 => ("GearModules", "modules", "[LGearModules$OneModule;", true)
  | 1 => ("GearModules", "records", "[J", true)
  | 2 => ("GearModules", "kept", "I", false)
  | 3 => ("GearModules", "newest", "I", false)
  | 4 => ("GearModules", "ticks", "I", false)
  | _ => ("GearModules", "handleDown", "Z", false)
def t_G : Nat → FieldType := fun k => match k with
  | 0 => .array (.object "GearModules$OneModule")
  | 1 => .array .long
  | 2 => .int
  | 3 => .int
  | 4 => .int
  | _ => .boolean
theorem n_G : ∀ a, a < 6 → ∀ b, b < 6 → a ≠ b → (F_G a).2.1 ≠ (F_G b).2.1 := by decide +kernel
theorem t_G_ok : ∀ k, k < 6 → parseFieldDescriptor (F_G k).2.2.1 = some (t_G k) := by decide +kernel
abbrev R_M : String := "GearModules$OneModule"
def F_M : u_T := fun k => match k with
  | 0 => ("GearModules$OneModule", "sensors", "[LGearModules$Sensor;", true)
  | 1 => ("GearModules$OneModule", "counts", "[I", true)
  | 2 => ("GearModules$OneModule", "working", "Z", false)
  | 3 => ("GearModules$OneModule", "waiting", "Z", false)
  | 4 => ("GearModules$OneModule", "generalWasOn", "Z", false)
  | 5 => ("GearModules$OneModule", "valvesOn", "I", false)
  | 6 => ("GearModules$OneModule", "generalStays", "I", false)
  | _ => ("GearModules$OneModule", "found", "I", false)
def t_M : Nat → FieldType := fun k => match k with
  | 0 => .array (.object "GearModules$Sensor")
  | 1 => .array .int
  | 2 => .boolean
  | 3 => .boolean
  | 4 => .boolean
  | 5 => .int
  | 6 => .int
  | _ => .int
theorem n_M : ∀ a, a < 8 → ∀ b, b < 8 → a ≠ b → (F_M a).2.1 ≠ (F_M b).2.1 := by decide +kernel
theorem t_M_ok : ∀ k, k < 8 → parseFieldDescriptor (F_M k).2.2.1 = some (t_M k) := by decide +kernel
abbrev R_S : String := "GearModules$Sensor"
def F_S : u_T := fun k => match k with
  | 0 => ("GearModules$Sensor", "on", "Z", false)
  | 1 => ("GearModules$Sensor", "broken", "Z", false)
  | _ => ("GearModules$Sensor", "valid", "I", false)
def t_S : Nat → FieldType := fun k => match k with
  | 0 => .boolean
  | 1 => .boolean
  | _ => .int
theorem n_S : ∀ a, a < 3 → ∀ b, b < 3 → a ≠ b → (F_S a).2.1 ≠ (F_S b).2.1 := by decide +kernel
theorem t_S_ok : ∀ k, k < 3 → parseFieldDescriptor (F_S k).2.2.1 = some (t_S k) := by decide +kernel
abbrev R_R : String := "GearModulesModel"
def F_R : u_T := fun k => match k with
  | 0 => ("GearModulesModel", "down", "Z", false)
  | 1 => ("GearModulesModel", "time", "I", false)
  | 2 => ("GearModulesModel", "channels", "I", false)
  | 3 => ("GearModulesModel", "failed", "[Z", false)
  | 4 => ("GearModulesModel", "bad", "[Z", false)
  | 5 => ("GearModulesModel", "value", "[Z", false)
  | 6 => ("GearModulesModel", "broken", "[Z", false)
  | 7 => ("GearModulesModel", "had", "[Z", false)
  | 8 => ("GearModulesModel", "held", "[I", false)
  | 9 => ("GearModulesModel", "waits", "[Z", false)
  | 10 => ("GearModulesModel", "waited", "[I", false)
  | 11 => ("GearModulesModel", "past", "[I", false)
  | 12 => ("GearModulesModel", "written", "I", false)
  | _ => ("GearModulesModel", "records", "[J", false)
def t_R : Nat → FieldType := fun k => match k with
  | 0 => .boolean
  | 1 => .int
  | 2 => .int
  | 3 => .array .boolean
  | 4 => .array .boolean
  | 5 => .array .boolean
  | 6 => .array .boolean
  | 7 => .array .boolean
  | 8 => .array .int
  | 9 => .array .boolean
  | 10 => .array .int
  | 11 => .array .int
  | 12 => .int
  | _ => .array .long
theorem n_R : ∀ a, a < 14 → ∀ b, b < 14 → a ≠ b → (F_R a).2.1 ≠ (F_R b).2.1 := by decide +kernel
theorem t_R_ok : ∀ k, k < 14 → parseFieldDescriptor (F_R k).2.2.1 = some (t_R k) := by decide +kernel
abbrev gm_cl : List vw_C := [(R_G, F_G, 6), (R_M, F_M, 8), (R_S, F_S, 3), (R_R, F_R, 14)]
def gm_fl : List (String × Nat × String × String × String) := [("GearModules$OneModule", 102, "GearModules$Sensor", "on", "Z"), ("GearModules$OneModule", 105, "GearModules$Sensor", "broken", "Z"), ("GearModules", 60, "GearModules$OneModule", "sensors", "[LGearModules$Sensor;"), ("GearModules", 72, "GearModules$OneModule", "counts", "[I"), ("GearModules", 50, "GearModules$OneModule", "working", "Z"), ("GearModules", 57, "GearModules$OneModule", "valvesOn", "I"), ("GearModules", 69, "GearModules$OneModule", "found", "I"), ("GearModules$OneModule", 93, "GearModules", "LIMITS", "[I")]
def gm_ml : List (String × Nat × MethodName) := [("GearModules$OneModule", 25, ⟨"GearModules$Sensor", "<init>", "()V"⟩)]
abbrev y_G_init : MethodName := ⟨"GearModules", "<init>", "()V"⟩
abbrev b_G_init : ByteArray := prog_1_method_1_code
abbrev y_G_handle : MethodName := ⟨"GearModules", "handle", "(Z)Z"⟩
abbrev b_G_handle : ByteArray := prog_1_method_2_code
abbrev y_G_tick : MethodName := ⟨"GearModules", "tick", "(II)I"⟩
abbrev b_G_tick : ByteArray := prog_1_method_3_code
abbrev y_G_fail : MethodName := ⟨"GearModules", "fail", "(I)Z"⟩
abbrev b_G_fail : ByteArray := prog_1_method_4_code
abbrev y_G_replace : MethodName := ⟨"GearModules", "replace", "(I)Z"⟩
abbrev b_G_replace : ByteArray := prog_1_method_5_code
abbrev y_G_works : MethodName := ⟨"GearModules", "works", "(I)Z"⟩
abbrev b_G_works : ByteArray := prog_1_method_6_code
abbrev y_G_time : MethodName := ⟨"GearModules", "time", "()I"⟩
abbrev b_G_time : ByteArray := prog_1_method_7_code
abbrev y_G_valves : MethodName := ⟨"GearModules", "valves", "(I)I"⟩
abbrev b_G_valves : ByteArray := prog_1_method_8_code
abbrev y_G_sensor : MethodName := ⟨"GearModules", "sensor", "(II)I"⟩
abbrev b_G_sensor : ByteArray := prog_1_method_9_code
abbrev y_G_anomalies : MethodName := ⟨"GearModules", "anomalies", "(I)I"⟩
abbrev b_G_anomalies : ByteArray := prog_1_method_10_code
abbrev y_G_running : MethodName := ⟨"GearModules", "running", "(II)I"⟩
abbrev b_G_running : ByteArray := prog_1_method_11_code
abbrev y_G_lights : MethodName := ⟨"GearModules", "lights", "()I"⟩
abbrev b_G_lights : ByteArray := prog_1_method_12_code
abbrev y_G_entry : MethodName := ⟨"GearModules", "entry", "(I)J"⟩
abbrev b_G_entry : ByteArray := prog_1_method_13_code
abbrev y_G_word : MethodName := ⟨"GearModules", "word", "(II)I"⟩
abbrev b_G_word : ByteArray := prog_1_method_14_code
abbrev y_G_label : MethodName := ⟨"GearModules", "label", "(I)I"⟩
abbrev b_G_label : ByteArray := prog_1_method_15_code
abbrev y_G_isModule : MethodName := ⟨"GearModules", "isModule", "(I)Z"⟩
abbrev b_G_isModule : ByteArray := prog_1_method_16_code
abbrev y_G_hasOddParity : MethodName := ⟨"GearModules", "hasOddParity", "(I)Z"⟩
abbrev b_G_hasOddParity : ByteArray := prog_1_method_17_code
abbrev y_G_valvesOfEither : MethodName := ⟨"GearModules", "valvesOfEither", "()I"⟩
abbrev b_G_valvesOfEither : ByteArray := prog_1_method_18_code
abbrev y_G_write : MethodName := ⟨"GearModules", "write", "(II)V"⟩
abbrev b_G_write : ByteArray := prog_1_method_19_code
abbrev y_R_init : MethodName := ⟨"GearModulesModel", "<init>", "()V"⟩
abbrev b_R_init : ByteArray := prog_5_method_1_code
abbrev y_R_isModule : MethodName := ⟨"GearModulesModel", "isModule", "(I)Z"⟩
abbrev b_R_isModule : ByteArray := prog_5_method_2_code
abbrev y_R_handle : MethodName := ⟨"GearModulesModel", "handle", "(Z)Z"⟩
abbrev b_R_handle : ByteArray := prog_5_method_3_code
abbrev y_R_channel : MethodName := ⟨"GearModulesModel", "channel", "(II)Z"⟩
abbrev b_R_channel : ByteArray := prog_5_method_4_code
abbrev y_R_say : MethodName := ⟨"GearModulesModel", "say", "(IIZ)I"⟩
abbrev b_R_say : ByteArray := prog_5_method_5_code
abbrev y_R_vote : MethodName := ⟨"GearModulesModel", "vote", "(II)V"⟩
abbrev b_R_vote : ByteArray := prog_5_method_6_code
abbrev y_R_was : MethodName := ⟨"GearModulesModel", "was", "(III)Z"⟩
abbrev b_R_was : ByteArray := prog_5_method_7_code
abbrev y_R_right : MethodName := ⟨"GearModulesModel", "right", "(I)Z"⟩
abbrev b_R_right : ByteArray := prog_5_method_8_code
abbrev y_R_wanted : MethodName := ⟨"GearModulesModel", "wanted", "(II)Z"⟩
abbrev b_R_wanted : ByteArray := prog_5_method_9_code
abbrev y_R_opposite : MethodName := ⟨"GearModulesModel", "opposite", "(I)I"⟩
abbrev b_R_opposite : ByteArray := prog_5_method_10_code
abbrev y_R_valvesNow : MethodName := ⟨"GearModulesModel", "valvesNow", "(I)I"⟩
abbrev b_R_valvesNow : ByteArray := prog_5_method_11_code
abbrev y_R_limit : MethodName := ⟨"GearModulesModel", "limit", "(I)I"⟩
abbrev b_R_limit : ByteArray := prog_5_method_12_code
abbrev y_R_condition : MethodName := ⟨"GearModulesModel", "condition", "(II)Z"⟩
abbrev b_R_condition : ByteArray := prog_5_method_13_code
abbrev y_R_gets : MethodName := ⟨"GearModulesModel", "gets", "(II)V"⟩
abbrev b_R_gets : ByteArray := prog_5_method_14_code
abbrev y_R_waiting : MethodName := ⟨"GearModulesModel", "waiting", "(II)V"⟩
abbrev b_R_waiting : ByteArray := prog_5_method_15_code
abbrev y_R_watch : MethodName := ⟨"GearModulesModel", "watch", "(I)V"⟩
abbrev b_R_watch : ByteArray := prog_5_method_16_code
abbrev y_R_step : MethodName := ⟨"GearModulesModel", "step", "(I)V"⟩
abbrev b_R_step : ByteArray := prog_5_method_17_code
abbrev y_R_tick : MethodName := ⟨"GearModulesModel", "tick", "(II)I"⟩
abbrev b_R_tick : ByteArray := prog_5_method_18_code
abbrev y_R_fail : MethodName := ⟨"GearModulesModel", "fail", "(I)Z"⟩
abbrev b_R_fail : ByteArray := prog_5_method_19_code
abbrev y_R_replace : MethodName := ⟨"GearModulesModel", "replace", "(I)Z"⟩
abbrev b_R_replace : ByteArray := prog_5_method_20_code
abbrev y_R_works : MethodName := ⟨"GearModulesModel", "works", "(I)Z"⟩
abbrev b_R_works : ByteArray := prog_5_method_21_code
abbrev y_R_time : MethodName := ⟨"GearModulesModel", "time", "()I"⟩
abbrev b_R_time : ByteArray := prog_5_method_22_code
abbrev y_R_valvesOf : MethodName := ⟨"GearModulesModel", "valvesOf", "(I)I"⟩
abbrev b_R_valvesOf : ByteArray := prog_5_method_23_code
abbrev y_R_valves : MethodName := ⟨"GearModulesModel", "valves", "(I)I"⟩
abbrev b_R_valves : ByteArray := prog_5_method_24_code
abbrev y_R_sensor : MethodName := ⟨"GearModulesModel", "sensor", "(II)I"⟩
abbrev b_R_sensor : ByteArray := prog_5_method_25_code
abbrev y_R_anomalies : MethodName := ⟨"GearModulesModel", "anomalies", "(I)I"⟩
abbrev b_R_anomalies : ByteArray := prog_5_method_26_code
abbrev y_R_running : MethodName := ⟨"GearModulesModel", "running", "(II)I"⟩
abbrev b_R_running : ByteArray := prog_5_method_27_code
abbrev y_R_lights : MethodName := ⟨"GearModulesModel", "lights", "()I"⟩
abbrev b_R_lights : ByteArray := prog_5_method_28_code
abbrev y_R_entry : MethodName := ⟨"GearModulesModel", "entry", "(I)J"⟩
abbrev b_R_entry : ByteArray := prog_5_method_29_code
abbrev y_R_ones : MethodName := ⟨"GearModulesModel", "ones", "(I)I"⟩
abbrev b_R_ones : ByteArray := prog_5_method_30_code
abbrev y_R_word : MethodName := ⟨"GearModulesModel", "word", "(II)I"⟩
abbrev b_R_word : ByteArray := prog_5_method_31_code
abbrev y_R_label : MethodName := ⟨"GearModulesModel", "label", "(I)I"⟩
abbrev b_R_label : ByteArray := prog_5_method_32_code
abbrev y_M_init : MethodName := ⟨"GearModules$OneModule", "<init>", "()V"⟩
abbrev b_M_init : ByteArray := prog_2_method_1_code
abbrev y_M_renew : MethodName := ⟨"GearModules$OneModule", "renew", "()V"⟩
abbrev b_M_renew : ByteArray := prog_2_method_2_code
abbrev y_M_stop : MethodName := ⟨"GearModules$OneModule", "stop", "()Z"⟩
abbrev b_M_stop : ByteArray := prog_2_method_3_code
abbrev y_M_beginWait : MethodName := ⟨"GearModules$OneModule", "beginWait", "()V"⟩
abbrev b_M_beginWait : ByteArray := prog_2_method_4_code
abbrev y_M_endWait : MethodName := ⟨"GearModules$OneModule", "endWait", "()V"⟩
abbrev b_M_endWait : ByteArray := prog_2_method_5_code
abbrev y_M_step : MethodName := ⟨"GearModules$OneModule", "step", "(IZ)I"⟩
abbrev b_M_step : ByteArray := prog_2_method_6_code
abbrev y_M_voteAll : MethodName := ⟨"GearModules$OneModule", "voteAll", "(I)I"⟩
abbrev b_M_voteAll : ByteArray := prog_2_method_7_code
abbrev y_M_wantedValves : MethodName := ⟨"GearModules$OneModule", "wantedValves", "(Z)I"⟩
abbrev b_M_wantedValves : ByteArray := prog_2_method_8_code
abbrev y_M_switchValves : MethodName := ⟨"GearModules$OneModule", "switchValves", "(I)V"⟩
abbrev b_M_switchValves : ByteArray := prog_2_method_9_code
abbrev y_M_opposites : MethodName := ⟨"GearModules$OneModule", "opposites", "(I)I"⟩
abbrev b_M_opposites : ByteArray := prog_2_method_10_code
abbrev y_M_watchConditions : MethodName := ⟨"GearModules$OneModule", "watchConditions", "()I"⟩
abbrev b_M_watchConditions : ByteArray := prog_2_method_11_code
abbrev y_M_conditionHolds : MethodName := ⟨"GearModules$OneModule", "conditionHolds", "(I)Z"⟩
abbrev b_M_conditionHolds : ByteArray := prog_2_method_12_code
abbrev y_M_watchSwitch : MethodName := ⟨"GearModules$OneModule", "watchSwitch", "()I"⟩
abbrev b_M_watchSwitch : ByteArray := prog_2_method_13_code
abbrev y_M_gearsAreExtended : MethodName := ⟨"GearModules$OneModule", "gearsAreExtended", "()Z"⟩
abbrev b_M_gearsAreExtended : ByteArray := prog_2_method_14_code
abbrev y_M_gearsAreRetracted : MethodName := ⟨"GearModules$OneModule", "gearsAreRetracted", "()Z"⟩
abbrev b_M_gearsAreRetracted : ByteArray := prog_2_method_15_code
abbrev y_M_isOn : MethodName := ⟨"GearModules$OneModule", "isOn", "(I)Z"⟩
abbrev b_M_isOn : ByteArray := prog_2_method_16_code
abbrev y_M_isSwitchedOn : MethodName := ⟨"GearModules$OneModule", "isSwitchedOn", "(I)Z"⟩
abbrev b_M_isSwitchedOn : ByteArray := prog_2_method_17_code
abbrev y_M_sensorsOn : MethodName := ⟨"GearModules$OneModule", "sensorsOn", "()I"⟩
abbrev b_M_sensorsOn : ByteArray := prog_2_method_18_code
abbrev y_M_sensorsBroken : MethodName := ⟨"GearModules$OneModule", "sensorsBroken", "()I"⟩
abbrev b_M_sensorsBroken : ByteArray := prog_2_method_19_code
abbrev y_M_status : MethodName := ⟨"GearModules$OneModule", "status", "()I"⟩
abbrev b_M_status : ByteArray := prog_2_method_20_code
abbrev y_S_init : MethodName := ⟨"GearModules$Sensor", "<init>", "()V"⟩
abbrev b_S_init : ByteArray := prog_3_method_1_code
abbrev y_S_reset : MethodName := ⟨"GearModules$Sensor", "reset", "()V"⟩
abbrev b_S_reset : ByteArray := prog_3_method_2_code
abbrev y_S_vote : MethodName := ⟨"GearModules$Sensor", "vote", "(I)Z"⟩
abbrev b_S_vote : ByteArray := prog_3_method_3_code
abbrev y_S_voteOfThree : MethodName := ⟨"GearModules$Sensor", "voteOfThree", "(I)V"⟩
abbrev b_S_voteOfThree : ByteArray := prog_3_method_4_code
abbrev y_S_voteOfTwo : MethodName := ⟨"GearModules$Sensor", "voteOfTwo", "(I)V"⟩
abbrev b_S_voteOfTwo : ByteArray := prog_3_method_5_code
abbrev y_S_summary : MethodName := ⟨"GearModules$Sensor", "summary", "()I"⟩
abbrev b_S_summary : ByteArray := prog_3_method_6_code
abbrev y_L_law : MethodName := ⟨"GearModulesLaw", "law", "([I)Z"⟩
abbrev b_L_law : ByteArray := code
abbrev y_I_bitCount : MethodName := ⟨"java/lang/Integer", "bitCount", "(I)I"⟩
abbrev b_I_bitCount : ByteArray := prog_6_method_49_code
end
section
-- what a state is, for the class and for the reference: flags, ints, small numbers, records
abbrev gm_St : Type := (Nat → Nat → Bool) × (Nat → Nat → Int32) × (Nat → Nat) × (Nat → Int64)
def gm_b (b : Bool) : Int32 := if b = true then 1 else 0
def gm_sB (u : gm_St) (j i : Nat) (b : Bool) : gm_St := (fun x y => if x = j then (if y = i then b else u.1 x y) else u.1 x y, u.2)
def gm_sG (u : gm_St) (j i : Nat) (v : Int32) : gm_St := (u.1, fun x y => if x = j then (if y = i then v else u.2.1 x y) else u.2.1 x y, u.2.2)
def gm_sN (u : gm_St) (i : Nat) (v : Nat) : gm_St := (u.1, u.2.1, fun y => if y = i then v else u.2.2.1 y, u.2.2.2)
def gm_sL (u : gm_St) (i : Nat) (v : Int64) : gm_St := (u.1, u.2.1, u.2.2.1, fun y => if y = i then v else u.2.2.2 y)
theorem gm_b0 {b : Bool} : gm_b b = 0 ↔ b = false := by cases b <;> decide
theorem gm_b1 {b : Bool} : ¬ gm_b b = 0 ↔ b = true := by cases b <;> decide
theorem gm_bb {b d : Bool} : gm_b b = gm_b d ↔ b = d := by cases b <;> cases d <;> decide
theorem gm_nb (b : Bool) : narrow .boolean (.int (gm_b b)) = .int (gm_b b) := by cases b <;> rfl
theorem gm_fb (b : Bool) : fits .boolean (.int (gm_b b)) = true := by cases b <;> rfl
theorem gm_vb (b : Bool) : vp_nar .boolean (gm_b b) = gm_b b := by cases b <;> rfl
-- the words that stay true from call to call
def gm_A : List Cond := lw_tbl.filter goodWord
theorem gm_in (i : Nat) {w : Cond} (h : lw_tbl[i]? = some w) (hg : goodWord w = true) : w ∈ gm_A := List.mem_filter.mpr ⟨List.mem_of_getElem? h, hg⟩
theorem gm_good {ws : List Cond} (h : ∀ w ∈ ws, w ∈ gm_A) : GoodIn gm_A ws := fun w hw => ⟨h w hw, good_of_word (List.mem_filter.mp (h w hw)).2⟩
theorem gm_wsV {own C : String} {idx : Nat} {y : MethodName} {b : ByteArray} {n : Nat} {ret : Option FieldType} (h1 : Cond.methodLink own idx y ∈ gm_A) (h2 : Cond.instanceMethod y ∈ gm_A) (h3 : Cond.selects C y y ∈ gm_A) (h4 : Cond.initialized C ∈ gm_A) (h5 : Cond.code y b n ret ∈ gm_A) : ∀ w ∈ wsV own idx C y (Cond.code y b n ret :: gm_A), w ∈ gm_A := by
  intro w hw
  simp only [wsV, List.cons_append, List.nil_append, List.mem_cons] at hw
  rcases hw with rfl | rfl | rfl | rfl | rfl | h
  · exact h1
  · exact h2
  · exact h3
  · exact h4
  · exact h5
  · exact h
theorem gm_wsS {own : String} {idx : Nat} {y : MethodName} {b : ByteArray} {n : Nat} {ret : Option FieldType} (h1 : Cond.methodLink own idx y ∈ gm_A) (h2 : Cond.static y ∈ gm_A) (h4 : Cond.initialized y.cls ∈ gm_A) (h5 : Cond.code y b n ret ∈ gm_A) : ∀ w ∈ va_wsS own idx y (Cond.code y b n ret :: gm_A), w ∈ gm_A := by
  intro w hw
  simp only [va_wsS, List.cons_append, List.nil_append, List.mem_cons] at hw
  rcases hw with rfl | rfl | rfl | rfl | h
  · exact h1
  · exact h2
  · exact h4
  · exact h5
  · exact h
theorem gm_wsC {y : MethodName} {b : ByteArray} {n : Nat} {ret : Option FieldType} (h5 : Cond.code y b n ret ∈ gm_A) : ∀ w ∈ (Cond.code y b n ret :: gm_A), w ∈ gm_A := by
  intro w hw
  rcases List.mem_cons.mp hw with rfl | h
  · exact h5
  · exact h
theorem in_G : ∀ w ∈ u_ws R_G F_G 6, w ∈ gm_A := by
  intro w hw
  simp only [u_ws, List.mem_map, List.mem_range] at hw
  obtain ⟨k, hk, rfl⟩ := hw
  match k, hk with
  | 0, _ => exact gm_in 106 (by decide +kernel) (by decide +kernel)
  | 1, _ => exact gm_in 108 (by decide +kernel) (by decide +kernel)
  | 2, _ => exact gm_in 110 (by decide +kernel) (by decide +kernel)
  | 3, _ => exact gm_in 112 (by decide +kernel) (by decide +kernel)
  | 4, _ => exact gm_in 114 (by decide +kernel) (by decide +kernel)
  | 5, _ => exact gm_in 116 (by decide +kernel) (by decide +kernel)
  | _ + 6, h => exact absurd h (by omega)
theorem in_M : ∀ w ∈ u_ws R_M F_M 8, w ∈ gm_A := by
  intro w hw
  simp only [u_ws, List.mem_map, List.mem_range] at hw
  obtain ⟨k, hk, rfl⟩ := hw
  match k, hk with
  | 0, _ => exact gm_in 83 (by decide +kernel) (by decide +kernel)
  | 1, _ => exact gm_in 85 (by decide +kernel) (by decide +kernel)
  | 2, _ => exact gm_in 87 (by decide +kernel) (by decide +kernel)
  | 3, _ => exact gm_in 89 (by decide +kernel) (by decide +kernel)
  | 4, _ => exact gm_in 91 (by decide +kernel) (by decide +kernel)
  | 5, _ => exact gm_in 93 (by decide +kernel) (by decide +kernel)
  | 6, _ => exact gm_in 95 (by decide +kernel) (by decide +kernel)
  | 7, _ => exact gm_in 97 (by decide +kernel) (by decide +kernel)
  | _ + 8, h => exact absurd h (by omega)
theorem in_S : ∀ w ∈ u_ws R_S F_S 3, w ∈ gm_A := by
  intro w hw
  simp only [u_ws, List.mem_map, List.mem_range] at hw
  obtain ⟨k, hk, rfl⟩ := hw
  match k, hk with
  | 0, _ => exact gm_in 61 (by decide +kernel) (by decide +kernel)
  | 1, _ => exact gm_in 63 (by decide +kernel) (by decide +kernel)
  | 2, _ => exact gm_in 65 (by decide +kernel) (by decide +kernel)
  | _ + 3, h => exact absurd h (by omega)
theorem in_R : ∀ w ∈ u_ws R_R F_R 14, w ∈ gm_A := by
  intro w hw
  simp only [u_ws, List.mem_map, List.mem_range] at hw
  obtain ⟨k, hk, rfl⟩ := hw
  match k, hk with
  | 0, _ => exact gm_in 324 (by decide +kernel) (by decide +kernel)
  | 1, _ => exact gm_in 326 (by decide +kernel) (by decide +kernel)
  | 2, _ => exact gm_in 328 (by decide +kernel) (by decide +kernel)
  | 3, _ => exact gm_in 330 (by decide +kernel) (by decide +kernel)
  | 4, _ => exact gm_in 332 (by decide +kernel) (by decide +kernel)
  | 5, _ => exact gm_in 334 (by decide +kernel) (by decide +kernel)
  | 6, _ => exact gm_in 336 (by decide +kernel) (by decide +kernel)
  | 7, _ => exact gm_in 338 (by decide +kernel) (by decide +kernel)
  | 8, _ => exact gm_in 340 (by decide +kernel) (by decide +kernel)
  | 9, _ => exact gm_in 342 (by decide +kernel) (by decide +kernel)
  | 10, _ => exact gm_in 344 (by decide +kernel) (by decide +kernel)
  | 11, _ => exact gm_in 346 (by decide +kernel) (by decide +kernel)
  | 12, _ => exact gm_in 348 (by decide +kernel) (by decide +kernel)
  | 13, _ => exact gm_in 350 (by decide +kernel) (by decide +kernel)
  | _ + 14, h => exact absurd h (by omega)
-- what isn't a steady word, and goes from call to call as a premise: links between the nested classes, the table LIMITS
def gm_lim (j : Nat) : Int32 := match j with
  | 6 => 70 | 7 => 70 | 8 => 70 | 9 => 100 | 10 => 70 | 11 => 100 | 12 => 20 | 13 => 100 | 14 => 10 | 15 => 30 | _ => 0
def gm_X (A : Nat → Prop) (lt : Nat) (U : State) : Prop := (∀ q ∈ gm_fl, va_Nw (.fieldLinkNest q.1 q.2.1 q.2.2.1 q.2.2.2.1 q.2.2.2.2 "GearModules") U) ∧ (∀ q ∈ gm_ml, va_Nw (.methodLinkNest q.1 q.2.1 q.2.2 "GearModules") U) ∧ va_Z "GearModules" "LIMITS" "[I" (.ref lt) A U U.heap ∧ va_T .int lt 16 (fun j => .int (gm_lim j)) A U U.heap
theorem gm_X.calling {A : Nat → Prop} {lt : Nat} {U : State} {g : JFrame} {mk : MethodId} {a : Array Value} (h : gm_X A lt U) : gm_X A lt (U.calling g mk a) :=
  ⟨fun q hq => va_Nw.same rfl rfl (h.1 q hq), fun q hq => va_Nw.same rfl rfl (h.2.1 q hq), va_Z.moved (u := U) (U := U.calling g mk a) (Vm.Alike.refl U.vm) h.2.2.1, va_T.moved (u := U) (U := U.calling g mk a) (Vm.Alike.refl U.vm) h.2.2.2⟩
theorem gm_X.go {A : Nat → Prop} {lt : Nat} {s U : State} {H : Heap} {locs : List Loc} (h : gm_X A lt s) (hS : va_S A s.heap H locs) (hU : U.heap = H) (hW : s.WarmedH U.vm) : gm_X A lt U := by
  subst hU
  exact ⟨fun q hq => va_Nw.warmF hW (h.1 q hq), fun q hq => va_Nw.warmM hW (h.2.1 q hq), (va_Z.moved hW.alike h.2.2.1).kept hS.2.1, (va_T.moved hW.alike h.2.2.2).kept hS.2.1⟩
theorem gm_X.narrow {A B : Nat → Prop} {lt : Nat} {s : State} (h : gm_X A lt s) (hAB : ∀ q, B q → A q) : gm_X B lt s := ⟨h.1, h.2.1, h.2.2.1.narrow hAB, h.2.2.2.narrow hAB⟩
-- inside a method: what stays; what moves
def gm_F (p : Program) (s : State) (m : MethodId) (args : Array Value) (meth : Method) (c : Code) (own : String) (cc : ByteArray) (nL : Nat) (ret : Option FieldType) (D : va_G) (tys : List (ClassId × FieldType)) (A : Nat → Prop) (lt : Nat) : Prop :=
  p.tables.exec = Jvm.exec ∧ c.code = cc ∧ c.maxLocals = nL ∧ s.vm.findClass own = some m.cls ∧ (∀ w ∈ gm_A, w.before args s = true) ∧ meth.sig.returnType = ret ∧ meth.locks = false ∧ va_K D gm_cl tys s ∧ gm_X A lt s
def gm_M (D : va_G) (A : Nat → Prop) (s : State) (Wd : gm_St → va_W) (u : gm_St) (H : Heap) (locs : List Loc) : Prop := va_P D gm_cl (Wd u) H ∧ va_D A (Wd u) ∧ va_S A s.heap H locs
def gm_C (D : va_G) (tys : List (ClassId × FieldType)) (Wd : gm_St → va_W) (A : Nat → Prop) (lt : Nat) (u : gm_St) (U : State) : Prop := va_P D gm_cl (Wd u) U.heap ∧ va_K D gm_cl tys U ∧ va_D A (Wd u) ∧ gm_X A lt U
-- a method's contract: its answer, and the state behind it
def gm_I (l : Launch) (D : va_G) (tys : List (ClassId × FieldType)) (Wd : gm_St → va_W) (A : Nat → Prop) (lt : Nat) (y : MethodName) (b : ByteArray) (n : Nat) (ret : Option FieldType) (rm : Room) (av : List Value) (u : gm_St) (r : Int32) (u' : gm_St) : Prop :=
  Met l y (Cond.code y b n ret :: gm_A) rm (va_Pc av (gm_C D tys Wd A lt u)) (va_Qi (fun (r' : Int32) (v : gm_St) => r' = r ∧ v = u') (fun v t => va_P D gm_cl (Wd v) t.heap ∧ va_D A (Wd v)) A) 0 0 A
def gm_L (l : Launch) (D : va_G) (tys : List (ClassId × FieldType)) (Wd : gm_St → va_W) (A : Nat → Prop) (lt : Nat) (y : MethodName) (b : ByteArray) (n : Nat) (ret : Option FieldType) (rm : Room) (av : List Value) (u : gm_St) (r : Int64) (u' : gm_St) : Prop :=
  Met l y (Cond.code y b n ret :: gm_A) rm (va_Pc av (gm_C D tys Wd A lt u)) (va_Ql (fun (r' : Int64) (v : gm_St) => r' = r ∧ v = u') (fun v t => va_P D gm_cl (Wd v) t.heap ∧ va_D A (Wd v)) A) 0 0 A
def gm_V (l : Launch) (D : va_G) (tys : List (ClassId × FieldType)) (Wd : gm_St → va_W) (A : Nat → Prop) (lt : Nat) (y : MethodName) (b : ByteArray) (n : Nat) (rm : Room) (av : List Value) (u : gm_St) (u' : gm_St) : Prop :=
  Met l y (Cond.code y b n none :: gm_A) rm (va_Pc av (gm_C D tys Wd A lt u)) (va_Qv (fun (v : gm_St) => v = u') (fun v t => va_P D gm_cl (Wd v) t.heap ∧ va_D A (Wd v)) A) 0 0 A
section GM1
variable {l : Launch} {D : va_G} {tys : List (ClassId × FieldType)} {Wd : gm_St → va_W} {A : Nat → Prop} {lt : Nat} {y : MethodName} {b : ByteArray} {n : Nat} {rm : Room} {av : List Value} {u u' : gm_St}
theorem gm_enterI {r : Int32} (hy : plainName y.cls = true) (hn : (lg_sl av).length ≤ n)
    (body : ∀ (p : Program) (e : Env) (s : State) (m : MethodId) (args : Array Value) (below : List Frame) (meth : Method) (c : Code) (ls : Array Slot) (Q : State → Prop) (H : Heap) (locs : List Loc), gm_F p s m args meth c y.cls b n (some .int) D tys A lt → gm_M D A s Wd u H locs → lv_has ls n (lv_args 0 av) →
      (∀ (H : Heap) (locs : List Loc) (pc : Nat) (ls : Array Slot), gm_M D A s Wd u' H locs → decode b pc = .ok (.ireturn, 1) → W p l e rm s m args below meth c H locs 0 0 Q (F0 m pc ls [.int r])) →
      W p l e rm s m args below meth c H locs 0 0 Q (F0 m 0 ls [])) : gm_I l D tys Wd A lt y b n (some .int) rm av u r u' := by
  refine Met.ofW (cc := b) (maxL := n) (ret := some .int) hy rfl ?_
  intro p e s m args below meth c s₁ B hml hv
  obtain ⟨rfl, hP, hK, hD, hX⟩ := hv
  have hts := atoms_spec B.pre
  rw [lg_entry_eq]
  refine body p e s m _ below meth c _ _ _ _ ⟨B.exec, B.bytes, hml, findClass_of_methodNamed B.named, fun w h => hts w (List.mem_cons_of_mem _ h), B.returns, B.notSynchronized, hK, hX⟩ ⟨hP, hD, va_S.rf⟩ (lv_entry av hn) ?_
  intro H locs pc ls hM hd
  exact W.iret B.exec B.bytes B.returns (fun t ht hW => ⟨⟨r, u', rfl, ⟨rfl, rfl⟩, by rw [ht]; exact hM.1, hM.2.1⟩, hM.2.2.F ht⟩) hM.2.2.2.2 hd
theorem gm_enterZ {r : Bool} (hy : plainName y.cls = true) (hn : (lg_sl av).length ≤ n)
    (body : ∀ (p : Program) (e : Env) (s : State) (m : MethodId) (args : Array Value) (below : List Frame) (meth : Method) (c : Code) (ls : Array Slot) (Q : State → Prop) (H : Heap) (locs : List Loc), gm_F p s m args meth c y.cls b n (some .boolean) D tys A lt → gm_M D A s Wd u H locs → lv_has ls n (lv_args 0 av) →
      (∀ (H : Heap) (locs : List Loc) (pc : Nat) (ls : Array Slot), gm_M D A s Wd u' H locs → decode b pc = .ok (.ireturn, 1) → W p l e rm s m args below meth c H locs 0 0 Q (F0 m pc ls [.int (gm_b r)])) →
      W p l e rm s m args below meth c H locs 0 0 Q (F0 m 0 ls [])) : gm_I l D tys Wd A lt y b n (some .boolean) rm av u (gm_b r) u' := by
  refine Met.ofW (cc := b) (maxL := n) (ret := some .boolean) hy rfl ?_
  intro p e s m args below meth c s₁ B hml hv
  obtain ⟨rfl, hP, hK, hD, hX⟩ := hv
  have hts := atoms_spec B.pre
  rw [lg_entry_eq]
  refine body p e s m _ below meth c _ _ _ _ ⟨B.exec, B.bytes, hml, findClass_of_methodNamed B.named, fun w h => hts w (List.mem_cons_of_mem _ h), B.returns, B.notSynchronized, hK, hX⟩ ⟨hP, hD, va_S.rf⟩ (lv_entry av hn) ?_
  intro H locs pc ls hM hd
  exact W.zret B.exec B.bytes B.returns (gm_nb r) (fun t ht hW => ⟨⟨gm_b r, u', rfl, ⟨rfl, rfl⟩, by rw [ht]; exact hM.1, hM.2.1⟩, hM.2.2.F ht⟩) hM.2.2.2.2 hd
theorem gm_enterL {r : Int64} (hy : plainName y.cls = true) (hn : (lg_sl av).length ≤ n)
    (body : ∀ (p : Program) (e : Env) (s : State) (m : MethodId) (args : Array Value) (below : List Frame) (meth : Method) (c : Code) (ls : Array Slot) (Q : State → Prop) (H : Heap) (locs : List Loc), gm_F p s m args meth c y.cls b n (some .long) D tys A lt → gm_M D A s Wd u H locs → lv_has ls n (lv_args 0 av) →
      (∀ (H : Heap) (locs : List Loc) (pc : Nat) (ls : Array Slot), gm_M D A s Wd u' H locs → decode b pc = .ok (.lreturn, 1) → W p l e rm s m args below meth c H locs 0 0 Q (F0 m pc ls [.long r])) →
      W p l e rm s m args below meth c H locs 0 0 Q (F0 m 0 ls [])) : gm_L l D tys Wd A lt y b n (some .long) rm av u r u' := by
  refine Met.ofW (cc := b) (maxL := n) (ret := some .long) hy rfl ?_
  intro p e s m args below meth c s₁ B hml hv
  obtain ⟨rfl, hP, hK, hD, hX⟩ := hv
  have hts := atoms_spec B.pre
  rw [lg_entry_eq]
  refine body p e s m _ below meth c _ _ _ _ ⟨B.exec, B.bytes, hml, findClass_of_methodNamed B.named, fun w h => hts w (List.mem_cons_of_mem _ h), B.returns, B.notSynchronized, hK, hX⟩ ⟨hP, hD, va_S.rf⟩ (lv_entry av hn) ?_
  intro H locs pc ls hM hd
  exact W.lret B.exec B.bytes B.returns (fun t ht hW => ⟨⟨r, u', rfl, ⟨rfl, rfl⟩, by rw [ht]; exact hM.1, hM.2.1⟩, hM.2.2.F ht⟩) hM.2.2.2.2 hd
theorem gm_enterV (hy : plainName y.cls = true) (hn : (lg_sl av).length ≤ n)
    (body : ∀ (p : Program) (e : Env) (s : State) (m : MethodId) (args : Array Value) (below : List Frame) (meth : Method) (c : Code) (ls : Array Slot) (Q : State → Prop) (H : Heap) (locs : List Loc), gm_F p s m args meth c y.cls b n none D tys A lt → gm_M D A s Wd u H locs → lv_has ls n (lv_args 0 av) →
      (∀ (H : Heap) (locs : List Loc) (pc : Nat) (ls : Array Slot), gm_M D A s Wd u' H locs → decode b pc = .ok (.return_, 1) → W p l e rm s m args below meth c H locs 0 0 Q (F0 m pc ls [])) →
      W p l e rm s m args below meth c H locs 0 0 Q (F0 m 0 ls [])) : gm_V l D tys Wd A lt y b n rm av u u' := by
  refine Met.ofW (cc := b) (maxL := n) (ret := none) hy rfl ?_
  intro p e s m args below meth c s₁ B hml hv
  obtain ⟨rfl, hP, hK, hD, hX⟩ := hv
  have hts := atoms_spec B.pre
  rw [lg_entry_eq]
  refine body p e s m _ below meth c _ _ _ _ ⟨B.exec, B.bytes, hml, findClass_of_methodNamed B.named, fun w h => hts w (List.mem_cons_of_mem _ h), B.returns, B.notSynchronized, hK, hX⟩ ⟨hP, hD, va_S.rf⟩ (lv_entry av hn) ?_
  intro H locs pc ls hM hd
  exact W.vret B.exec B.bytes B.returns (fun t ht hW => ⟨⟨u', rfl, rfl, by rw [ht]; exact hM.1, hM.2.1⟩, hM.2.2.F ht⟩) hM.2.2.2.2 hd
end GM1
section GM2
variable {p : Program} {l : Launch} {e : Env} {R : Room} {s : State} {m : MethodId} {args : Array Value} {below : List Frame} {meth : Method} {c : Code} {H : Heap} {locs : List Loc} {Q : State → Prop} {pc nL cells slots : Nat} {ls : Array Slot} {rest st0 : List Value} {cc : ByteArray} {own : String} {ret : Option FieldType}
variable {D : va_G} {tys : List (ClassId × FieldType)} {Wd : gm_St → va_W} {A : Nat → Prop} {lt : Nat} {u u' : gm_St}
theorem gm_pre (hF : gm_F p s m args meth c own cc nL ret D tys A lt) (hM : gm_M D A s Wd u H locs) (av : List Value) : PreS s H (va_Pc av (gm_C D tys Wd A lt u)) av :=
  ⟨fun a U g mk q => ⟨q.1, q.2.1, va_K.moved (u := U) (U := U.calling g mk a) (Vm.Alike.refl U.vm) q.2.2.1, q.2.2.2.1, q.2.2.2.2.calling⟩,
   fun U hU hW => ⟨rfl, by rw [hU]; exact hM.1, va_K.moved hW.alike hF.2.2.2.2.2.2.2.1, hM.2.1, hF.2.2.2.2.2.2.2.2.go hM.2.2 hU hW⟩⟩
theorem gm_tp {x y : Int32} (h : x = y) (k : W p l e R s m args below meth c H locs cells slots Q (F0 m pc ls (.int y :: rest))) : W p l e R s m args below meth c H locs cells slots Q (F0 m pc ls (.int x :: rest)) := by subst h; exact k
theorem gm_ifz (hexec : p.tables.exec = Jvm.exec) (hb : c.code = cc) {b : Bool} {off : Int} {tgt : Nat} (hdg : decode cc pc = .ok (.ifCond .eq off, 3)) (ht : (pc : Int) + off = (tgt : Int)) (kt : b = false → W p l e R s m args below meth c H locs cells slots Q (F0 m tgt ls rest)) (kf : b = true → W p l e R s m args below meth c H locs cells slots Q (F0 m (pc + 3) ls rest)) : W p l e R s m args below meth c H locs cells slots Q (F0 m pc ls (.int (gm_b b) :: rest)) :=
  lv_if_eq hexec hb hdg ht (fun h => kt (gm_b0.mp h)) (fun h => kf (gm_b1.mp h))
theorem gm_ifn (hexec : p.tables.exec = Jvm.exec) (hb : c.code = cc) {b : Bool} {off : Int} {tgt : Nat} (hdg : decode cc pc = .ok (.ifCond .ne off, 3)) (ht : (pc : Int) + off = (tgt : Int)) (kt : b = true → W p l e R s m args below meth c H locs cells slots Q (F0 m tgt ls rest)) (kf : b = false → W p l e R s m args below meth c H locs cells slots Q (F0 m (pc + 3) ls rest)) : W p l e R s m args below meth c H locs cells slots Q (F0 m pc ls (.int (gm_b b) :: rest)) :=
  lv_if_ne hexec hb hdg ht (fun h => kt (gm_b1.mp h)) (fun h => kf (gm_b0.mp h))
theorem gm_icz (hexec : p.tables.exec = Jvm.exec) (hb : c.code = cc) {b d : Bool} {off : Int} {tgt : Nat} (hdg : decode cc pc = .ok (.if_icmp .eq off, 3)) (ht : (pc : Int) + off = (tgt : Int)) (kt : b = d → W p l e R s m args below meth c H locs cells slots Q (F0 m tgt ls rest)) (kf : ¬ b = d → W p l e R s m args below meth c H locs cells slots Q (F0 m (pc + 3) ls rest)) : W p l e R s m args below meth c H locs cells slots Q (F0 m pc ls (.int (gm_b d) :: .int (gm_b b) :: rest)) :=
  lv_icmp_eq hexec hb hdg ht (fun h => kt (gm_bb.mp h)) (fun h => kf (fun q => h (gm_bb.mpr q)))
theorem gm_icn (hexec : p.tables.exec = Jvm.exec) (hb : c.code = cc) {b d : Bool} {off : Int} {tgt : Nat} (hdg : decode cc pc = .ok (.if_icmp .ne off, 3)) (ht : (pc : Int) + off = (tgt : Int)) (kt : ¬ b = d → W p l e R s m args below meth c H locs cells slots Q (F0 m tgt ls rest)) (kf : b = d → W p l e R s m args below meth c H locs cells slots Q (F0 m (pc + 3) ls rest)) : W p l e R s m args below meth c H locs cells slots Q (F0 m pc ls (.int (gm_b d) :: .int (gm_b b) :: rest)) :=
  lv_icmp_ne hexec hb hdg ht (fun h => kt (fun q => h (gm_bb.mpr q))) (fun h => kf (gm_bb.mp h))
theorem gm_calli {r : Int32} {a : Array Value} (hM : gm_M D A s Wd u H locs) (hr : va_Run p l e R s m args below meth c H locs cells slots 0 0 (F0 m pc ls st0) rest (va_Qi (fun (r' : Int32) (v : gm_St) => r' = r ∧ v = u') (fun v t => va_P D gm_cl (Wd v) t.heap ∧ va_D A (Wd v)) A a) A)
    (kk : ∀ (H1 : Heap) (locs1 : List Loc), gm_M D A s Wd u' H1 locs1 → W p l e R s m args below meth c H1 locs1 cells slots Q (F0 m (pc + 3) ls (.int r :: rest))) : W p l e R s m args below meth c H locs cells slots Q (F0 m pc ls st0) := by
  refine va_calli hr hM.2.2 (fun q _ h => h) (fun q h => h) (fun r' u1 t H1 locs1 ht hvm hp hB hz hk hS => ?_)
  obtain ⟨rfl, rfl⟩ := hp
  exact kk H1 locs1 ⟨by rw [← ht]; exact hB.1, hB.2, hS⟩
theorem gm_calll {r : Int64} {a : Array Value} (hM : gm_M D A s Wd u H locs) (hr : va_Run p l e R s m args below meth c H locs cells slots 0 0 (F0 m pc ls st0) rest (va_Ql (fun (r' : Int64) (v : gm_St) => r' = r ∧ v = u') (fun v t => va_P D gm_cl (Wd v) t.heap ∧ va_D A (Wd v)) A a) A)
    (kk : ∀ (H1 : Heap) (locs1 : List Loc), gm_M D A s Wd u' H1 locs1 → W p l e R s m args below meth c H1 locs1 cells slots Q (F0 m (pc + 3) ls (.long r :: rest))) : W p l e R s m args below meth c H locs cells slots Q (F0 m pc ls st0) := by
  refine va_calll hr hM.2.2 (fun q _ h => h) (fun q h => h) (fun r' u1 t H1 locs1 ht hvm hp hB hz hk hS => ?_)
  obtain ⟨rfl, rfl⟩ := hp
  exact kk H1 locs1 ⟨by rw [← ht]; exact hB.1, hB.2, hS⟩
theorem gm_callv {a : Array Value} (hM : gm_M D A s Wd u H locs) (hr : va_Run p l e R s m args below meth c H locs cells slots 0 0 (F0 m pc ls st0) rest (va_Qv (fun (v : gm_St) => v = u') (fun v t => va_P D gm_cl (Wd v) t.heap ∧ va_D A (Wd v)) A a) A)
    (kk : ∀ (H1 : Heap) (locs1 : List Loc), gm_M D A s Wd u' H1 locs1 → W p l e R s m args below meth c H1 locs1 cells slots Q (F0 m (pc + 3) ls rest)) : W p l e R s m args below meth c H locs cells slots Q (F0 m pc ls st0) := by
  refine va_callv hr hM.2.2 (fun q _ h => h) (fun q h => h) (fun u1 t H1 locs1 ht hvm hp hB hz hk hS => ?_)
  subst hp
  exact kk H1 locs1 ⟨by rw [← ht]; exact hB.1, hB.2, hS⟩
abbrev gm_rv (s : State) (H : Heap) (C : String) (b : Addr) : Prop := ∃ cellB : Cell, H[b]? = some cellB ∧ cellB.vm.isStatics = false ∧ s.vm.findClass C = some cellB.cls
variable {y : MethodName} {b1 : ByteArray} {n1 k index : Nat} {rm : Room} {As : List Value} {b0 : Addr} {ret1 : Option FieldType} {C : String}
-- calls
theorem gm_Vi {r : Int32} (hF : gm_F p s m args meth c own cc nL ret D tys A lt) (hM : gm_M D A s Wd u H locs) (hC : gm_I l D tys Wd A lt y b1 n1 ret1 rm (.ref b0 :: As) u r u') (cw : CallW R s args own C index y b1 n1 ret1 (Cond.code y b1 n1 ret1 :: gm_A) rm 0 0 k) (hv : gm_rv s H C b0) (hn : As.length = k) (hl : ls.size = nL) (hst : st0 = As.reverse ++ .ref b0 :: rest) (hW : (rest.map fun v => v.category).sum ≤ 8) (hf : cells ≤ R.cells ∧ slots ≤ R.slots) (hdg : decode cc pc = .ok (.invokevirtual index, 3))
    (kk : ∀ (H1 : Heap) (locs1 : List Loc), gm_M D A s Wd u' H1 locs1 → W p l e R s m args below meth c H1 locs1 cells slots Q (F0 m (pc + 3) ls (.int r :: rest))) : W p l e R s m args below meth c H locs cells slots Q (F0 m pc ls st0) :=
  gm_calli hM (va_runV (As := As) (rest := rest) ⟨hF.1, hF.2.1, hF.2.2.1, hF.2.2.2.1, hF.2.2.2.2.1⟩ hC cw ⟨(gm_pre hF hM _).1, hv, (gm_pre hF hM _).2⟩ rfl hn hl hst (lv_room hW) hdg hf) kk
theorem gm_Vl {r : Int64} (hF : gm_F p s m args meth c own cc nL ret D tys A lt) (hM : gm_M D A s Wd u H locs) (hC : gm_L l D tys Wd A lt y b1 n1 ret1 rm (.ref b0 :: As) u r u') (cw : CallW R s args own C index y b1 n1 ret1 (Cond.code y b1 n1 ret1 :: gm_A) rm 0 0 k) (hv : gm_rv s H C b0) (hn : As.length = k) (hl : ls.size = nL) (hst : st0 = As.reverse ++ .ref b0 :: rest) (hW : (rest.map fun v => v.category).sum ≤ 8) (hf : cells ≤ R.cells ∧ slots ≤ R.slots) (hdg : decode cc pc = .ok (.invokevirtual index, 3))
    (kk : ∀ (H1 : Heap) (locs1 : List Loc), gm_M D A s Wd u' H1 locs1 → W p l e R s m args below meth c H1 locs1 cells slots Q (F0 m (pc + 3) ls (.long r :: rest))) : W p l e R s m args below meth c H locs cells slots Q (F0 m pc ls st0) :=
  gm_calll hM (va_runV (As := As) (rest := rest) ⟨hF.1, hF.2.1, hF.2.2.1, hF.2.2.2.1, hF.2.2.2.2.1⟩ hC cw ⟨(gm_pre hF hM _).1, hv, (gm_pre hF hM _).2⟩ rfl hn hl hst (lv_room hW) hdg hf) kk
theorem gm_Vv (hF : gm_F p s m args meth c own cc nL ret D tys A lt) (hM : gm_M D A s Wd u H locs) (hC : gm_V l D tys Wd A lt y b1 n1 rm (.ref b0 :: As) u u') (cw : CallW R s args own C index y b1 n1 none (Cond.code y b1 n1 none :: gm_A) rm 0 0 k) (hv : gm_rv s H C b0) (hn : As.length = k) (hl : ls.size = nL) (hst : st0 = As.reverse ++ .ref b0 :: rest) (hW : (rest.map fun v => v.category).sum ≤ 8) (hf : cells ≤ R.cells ∧ slots ≤ R.slots) (hdg : decode cc pc = .ok (.invokevirtual index, 3))
    (kk : ∀ (H1 : Heap) (locs1 : List Loc), gm_M D A s Wd u' H1 locs1 → W p l e R s m args below meth c H1 locs1 cells slots Q (F0 m (pc + 3) ls rest)) : W p l e R s m args below meth c H locs cells slots Q (F0 m pc ls st0) :=
  gm_callv hM (va_runV (As := As) (rest := rest) ⟨hF.1, hF.2.1, hF.2.2.1, hF.2.2.2.1, hF.2.2.2.2.1⟩ hC cw ⟨(gm_pre hF hM _).1, hv, (gm_pre hF hM _).2⟩ rfl hn hl hst (lv_room hW) hdg hf) kk
theorem gm_Si {r : Int32} (hF : gm_F p s m args meth c own cc nL ret D tys A lt) (hM : gm_M D A s Wd u H locs) (hC : gm_I l D tys Wd A lt y b1 n1 ret1 rm As u r u') (cw : CallB R s args own index y b1 n1 ret1 (Cond.code y b1 n1 ret1 :: gm_A) rm 0 0 k ∧ (Cond.static y).before args s = true) (hn : As.length = k) (hl : ls.size = nL) (hst : st0 = As.reverse ++ rest) (hW : (rest.map fun v => v.category).sum ≤ 8) (hf : cells ≤ R.cells ∧ slots ≤ R.slots) (hdg : decode cc pc = .ok (.invokestatic index, 3))
    (kk : ∀ (H1 : Heap) (locs1 : List Loc), gm_M D A s Wd u' H1 locs1 → W p l e R s m args below meth c H1 locs1 cells slots Q (F0 m (pc + 3) ls (.int r :: rest))) : W p l e R s m args below meth c H locs cells slots Q (F0 m pc ls st0) :=
  gm_calli hM (va_runS (As := As) (rest := rest) ⟨hF.1, hF.2.1, hF.2.2.1, hF.2.2.2.1, hF.2.2.2.2.1⟩ hC cw (gm_pre hF hM _) rfl hn hl hst (lv_room hW) hdg hf) kk
theorem gm_Ni {r : Int32} {host : String} (hF : gm_F p s m args meth c own cc nL ret D tys A lt) (hM : gm_M D A s Wd u H locs) (hC : gm_I l D tys Wd A lt y b1 n1 ret1 rm (.ref b0 :: As) u r u') (cw : va_CN R s args own index y host b1 n1 ret1 (Cond.code y b1 n1 ret1 :: gm_A) rm 0 0 k ∧ (Cond.instanceMethod y).before args s = true ∧ (Cond.selects C y y).before args s = true) (hv : gm_rv s H C b0) (hn : As.length = k) (hl : ls.size = nL) (hst : st0 = As.reverse ++ .ref b0 :: rest) (hW : (rest.map fun v => v.category).sum ≤ 8) (hf : cells ≤ R.cells ∧ slots ≤ R.slots) (hdg : decode cc pc = .ok (.invokevirtual index, 3))
    (kk : ∀ (H1 : Heap) (locs1 : List Loc), gm_M D A s Wd u' H1 locs1 → W p l e R s m args below meth c H1 locs1 cells slots Q (F0 m (pc + 3) ls (.int r :: rest))) : W p l e R s m args below meth c H locs cells slots Q (F0 m pc ls st0) :=
  gm_calli hM (va_runVN (As := As) (rest := rest) ⟨hF.1, hF.2.1, hF.2.2.1, hF.2.2.2.1, hF.2.2.2.2.1⟩ hC cw ⟨(gm_pre hF hM _).1, hv, (gm_pre hF hM _).2⟩ rfl hn hl hst (lv_room hW) hdg hf) kk
theorem gm_Nv {host : String} (hF : gm_F p s m args meth c own cc nL ret D tys A lt) (hM : gm_M D A s Wd u H locs) (hC : gm_V l D tys Wd A lt y b1 n1 rm (.ref b0 :: As) u u') (cw : va_CN R s args own index y host b1 n1 none (Cond.code y b1 n1 none :: gm_A) rm 0 0 k ∧ (Cond.instanceMethod y).before args s = true ∧ (Cond.selects C y y).before args s = true) (hv : gm_rv s H C b0) (hn : As.length = k) (hl : ls.size = nL) (hst : st0 = As.reverse ++ .ref b0 :: rest) (hW : (rest.map fun v => v.category).sum ≤ 8) (hf : cells ≤ R.cells ∧ slots ≤ R.slots) (hdg : decode cc pc = .ok (.invokevirtual index, 3))
    (kk : ∀ (H1 : Heap) (locs1 : List Loc), gm_M D A s Wd u' H1 locs1 → W p l e R s m args below meth c H1 locs1 cells slots Q (F0 m (pc + 3) ls rest)) : W p l e R s m args below meth c H locs cells slots Q (F0 m pc ls st0) :=
  gm_callv hM (va_runVN (As := As) (rest := rest) ⟨hF.1, hF.2.1, hF.2.2.1, hF.2.2.2.1, hF.2.2.2.2.1⟩ hC cw ⟨(gm_pre hF hM _).1, hv, (gm_pre hF hM _).2⟩ rfl hn hl hst (lv_room hW) hdg hf) kk
end GM2
end
section
-- the cells of a GearModules with its two modules and twelve sensors; the cells of the reference
def gm_refs (a : Nat → Nat) (o n : Nat) : Nat → Option Nat := fun j => if j < n then some (a (o + j)) else none
def gm_W (dk : Nat → ClassId) (a : Nat → Nat) (u : gm_St) : va_W := [(a 0, .inr (0, [.ref (a 1), .ref (a 2), .int (nI (u.2.2.1 0)), .int (nI (u.2.2.1 1)), .int (u.2.1 6 2), .int (gm_b (u.1 5 0))])),
  (a 1, .inl (dk 0, 2, .inr (.inr (.inr (.inr (gm_refs a 3 2)))))),
  (a 2, .inl (dk 1, 16, .inr (.inl u.2.2.2))),
  (a 3, .inr (1, [.ref (a 5), .ref (a 7), .int (gm_b (u.1 2 0)), .int (gm_b (u.1 3 0)), .int (gm_b (u.1 4 0)), .int (u.2.1 3 0), .int (u.2.1 4 0), .int (u.2.1 5 0)])),
  (a 4, .inr (1, [.ref (a 6), .ref (a 8), .int (gm_b (u.1 2 1)), .int (gm_b (u.1 3 1)), .int (gm_b (u.1 4 1)), .int (u.2.1 3 1), .int (u.2.1 4 1), .int (u.2.1 5 1)])),
  (a 5, .inl (dk 2, 6, .inr (.inr (.inr (.inr (gm_refs a 9 6)))))),
  (a 6, .inl (dk 2, 6, .inr (.inr (.inr (.inr (gm_refs a 15 6)))))),
  (a 7, .inl (dk 3, 16, .inl (u.2.1 1))),
  (a 8, .inl (dk 3, 16, .inl (u.2.1 2))),
  (a 9, .inr (2, [.int (gm_b (u.1 0 0)), .int (gm_b (u.1 1 0)), .int (u.2.1 0 0)])),
  (a 10, .inr (2, [.int (gm_b (u.1 0 1)), .int (gm_b (u.1 1 1)), .int (u.2.1 0 1)])),
  (a 11, .inr (2, [.int (gm_b (u.1 0 2)), .int (gm_b (u.1 1 2)), .int (u.2.1 0 2)])),
  (a 12, .inr (2, [.int (gm_b (u.1 0 3)), .int (gm_b (u.1 1 3)), .int (u.2.1 0 3)])),
  (a 13, .inr (2, [.int (gm_b (u.1 0 4)), .int (gm_b (u.1 1 4)), .int (u.2.1 0 4)])),
  (a 14, .inr (2, [.int (gm_b (u.1 0 5)), .int (gm_b (u.1 1 5)), .int (u.2.1 0 5)])),
  (a 15, .inr (2, [.int (gm_b (u.1 0 6)), .int (gm_b (u.1 1 6)), .int (u.2.1 0 6)])),
  (a 16, .inr (2, [.int (gm_b (u.1 0 7)), .int (gm_b (u.1 1 7)), .int (u.2.1 0 7)])),
  (a 17, .inr (2, [.int (gm_b (u.1 0 8)), .int (gm_b (u.1 1 8)), .int (u.2.1 0 8)])),
  (a 18, .inr (2, [.int (gm_b (u.1 0 9)), .int (gm_b (u.1 1 9)), .int (u.2.1 0 9)])),
  (a 19, .inr (2, [.int (gm_b (u.1 0 10)), .int (gm_b (u.1 1 10)), .int (u.2.1 0 10)])),
  (a 20, .inr (2, [.int (gm_b (u.1 0 11)), .int (gm_b (u.1 1 11)), .int (u.2.1 0 11)]))]
def gr_W (dk : Nat → ClassId) (a : Nat → Nat) (u : gm_St) : va_W := [(a 0, .inr (3, [.int (gm_b (u.1 6 0)), .int (u.2.1 3 0), .int (u.2.1 3 1), .ref (a 1), .ref (a 2), .ref (a 3), .ref (a 4), .ref (a 5), .ref (a 6), .ref (a 7), .ref (a 8), .ref (a 9), .int (nI (u.2.2.1 0)), .ref (a 10)])),
  (a 1, .inl (dk 4, 2, .inl (fun i => gm_b (u.1 0 i)))),
  (a 2, .inl (dk 4, 36, .inl (fun i => gm_b (u.1 1 i)))),
  (a 3, .inl (dk 4, 12, .inl (fun i => gm_b (u.1 2 i)))),
  (a 4, .inl (dk 4, 12, .inl (fun i => gm_b (u.1 3 i)))),
  (a 5, .inl (dk 4, 32, .inl (fun i => gm_b (u.1 4 i)))),
  (a 6, .inl (dk 3, 32, .inl (u.2.1 0))),
  (a 7, .inl (dk 4, 2, .inl (fun i => gm_b (u.1 5 i)))),
  (a 8, .inl (dk 3, 2, .inl (u.2.1 1))),
  (a 9, .inl (dk 3, 22, .inl (u.2.1 2))),
  (a 10, .inl (dk 1, 16, .inr (.inl u.2.2.2)))]
def gm_ty (dk : Nat → ClassId) : List (ClassId × FieldType) := [(dk 0, .object "GearModules$OneModule"), (dk 1, .long), (dk 2, .object "GearModules$Sensor"), (dk 3, .int), (dk 4, .boolean)]
section GMW
variable {dk : Nat → ClassId} {a : Nat → Nat} {u : gm_St} {k0 k : Nat}
theorem gm_WM (h : k0 < 2) : (gm_W dk a u)[3 + k0]? = some (a (3 + k0), .inr (1, [.ref (a (5 + k0)), .ref (a (7 + k0)), .int (gm_b (u.1 2 k0)), .int (gm_b (u.1 3 k0)), .int (gm_b (u.1 4 k0)), .int (u.2.1 3 k0), .int (u.2.1 4 k0), .int (u.2.1 5 k0)])) := match k0, h with
  | 0, _ => rfl
  | 1, _ => rfl
  | _ + 2, h => absurd h (by omega)
theorem gm_WS (h : k0 < 12) : (gm_W dk a u)[9 + k0]? = some (a (9 + k0), .inr (2, [.int (gm_b (u.1 0 k0)), .int (gm_b (u.1 1 k0)), .int (u.2.1 0 k0)])) := match k0, h with
  | 0, _ => rfl
  | 1, _ => rfl
  | 2, _ => rfl
  | 3, _ => rfl
  | 4, _ => rfl
  | 5, _ => rfl
  | 6, _ => rfl
  | 7, _ => rfl
  | 8, _ => rfl
  | 9, _ => rfl
  | 10, _ => rfl
  | 11, _ => rfl
  | _ + 12, h => absurd h (by omega)
theorem gm_WA (h : k0 < 2) : (gm_W dk a u)[5 + k0]? = some (a (5 + k0), .inl (dk 2, 6, .inr (.inr (.inr (.inr (gm_refs a (9 + 6 * k0) 6)))))) := match k0, h with
  | 0, _ => rfl
  | 1, _ => rfl
  | _ + 2, h => absurd h (by omega)
theorem gm_WC (h : k0 < 2) : (gm_W dk a u)[7 + k0]? = some (a (7 + k0), .inl (dk 3, 16, .inl (u.2.1 (1 + k0)))) := match k0, h with
  | 0, _ => rfl
  | 1, _ => rfl
  | _ + 2, h => absurd h (by omega)
theorem gs_G_kept {x : Nat} : (gm_W dk a u).set (0) (a (0), .inr (0, ([.ref (a 1), .ref (a 2), .int (nI (u.2.2.1 0)), .int (nI (u.2.2.1 1)), .int (u.2.1 6 2), .int (gm_b (u.1 5 0))] : List Value).set 2 (.int (nI x)))) = gm_W dk a (gm_sN u 0 x) := rfl
theorem gs_G_newest {x : Nat} : (gm_W dk a u).set (0) (a (0), .inr (0, ([.ref (a 1), .ref (a 2), .int (nI (u.2.2.1 0)), .int (nI (u.2.2.1 1)), .int (u.2.1 6 2), .int (gm_b (u.1 5 0))] : List Value).set 3 (.int (nI x)))) = gm_W dk a (gm_sN u 1 x) := rfl
theorem gs_G_ticks {x : Int32} : (gm_W dk a u).set (0) (a (0), .inr (0, ([.ref (a 1), .ref (a 2), .int (nI (u.2.2.1 0)), .int (nI (u.2.2.1 1)), .int (u.2.1 6 2), .int (gm_b (u.1 5 0))] : List Value).set 4 (.int x))) = gm_W dk a (gm_sG u 6 2 x) := rfl
theorem gs_G_handleDown {x : Bool} : (gm_W dk a u).set (0) (a (0), .inr (0, ([.ref (a 1), .ref (a 2), .int (nI (u.2.2.1 0)), .int (nI (u.2.2.1 1)), .int (u.2.1 6 2), .int (gm_b (u.1 5 0))] : List Value).set 5 (.int (gm_b x)))) = gm_W dk a (gm_sB u 5 0 x) := rfl
theorem gs_M_working {x : Bool} (h : k0 < 2) : (gm_W dk a u).set (3 + k0) (a (3 + k0), .inr (1, ([.ref (a (5 + k0)), .ref (a (7 + k0)), .int (gm_b (u.1 2 k0)), .int (gm_b (u.1 3 k0)), .int (gm_b (u.1 4 k0)), .int (u.2.1 3 k0), .int (u.2.1 4 k0), .int (u.2.1 5 k0)] : List Value).set 2 (.int (gm_b x)))) = gm_W dk a (gm_sB u 2 k0 x) := match k0, h with
  | 0, _ => rfl
  | 1, _ => rfl
  | _ + 2, h => absurd h (by omega)
theorem gs_M_waiting {x : Bool} (h : k0 < 2) : (gm_W dk a u).set (3 + k0) (a (3 + k0), .inr (1, ([.ref (a (5 + k0)), .ref (a (7 + k0)), .int (gm_b (u.1 2 k0)), .int (gm_b (u.1 3 k0)), .int (gm_b (u.1 4 k0)), .int (u.2.1 3 k0), .int (u.2.1 4 k0), .int (u.2.1 5 k0)] : List Value).set 3 (.int (gm_b x)))) = gm_W dk a (gm_sB u 3 k0 x) := match k0, h with
  | 0, _ => rfl
  | 1, _ => rfl
  | _ + 2, h => absurd h (by omega)
theorem gs_M_generalWasOn {x : Bool} (h : k0 < 2) : (gm_W dk a u).set (3 + k0) (a (3 + k0), .inr (1, ([.ref (a (5 + k0)), .ref (a (7 + k0)), .int (gm_b (u.1 2 k0)), .int (gm_b (u.1 3 k0)), .int (gm_b (u.1 4 k0)), .int (u.2.1 3 k0), .int (u.2.1 4 k0), .int (u.2.1 5 k0)] : List Value).set 4 (.int (gm_b x)))) = gm_W dk a (gm_sB u 4 k0 x) := match k0, h with
  | 0, _ => rfl
  | 1, _ => rfl
  | _ + 2, h => absurd h (by omega)
theorem gs_M_valvesOn {x : Int32} (h : k0 < 2) : (gm_W dk a u).set (3 + k0) (a (3 + k0), .inr (1, ([.ref (a (5 + k0)), .ref (a (7 + k0)), .int (gm_b (u.1 2 k0)), .int (gm_b (u.1 3 k0)), .int (gm_b (u.1 4 k0)), .int (u.2.1 3 k0), .int (u.2.1 4 k0), .int (u.2.1 5 k0)] : List Value).set 5 (.int x))) = gm_W dk a (gm_sG u 3 k0 x) := match k0, h with
  | 0, _ => rfl
  | 1, _ => rfl
  | _ + 2, h => absurd h (by omega)
theorem gs_M_generalStays {x : Int32} (h : k0 < 2) : (gm_W dk a u).set (3 + k0) (a (3 + k0), .inr (1, ([.ref (a (5 + k0)), .ref (a (7 + k0)), .int (gm_b (u.1 2 k0)), .int (gm_b (u.1 3 k0)), .int (gm_b (u.1 4 k0)), .int (u.2.1 3 k0), .int (u.2.1 4 k0), .int (u.2.1 5 k0)] : List Value).set 6 (.int x))) = gm_W dk a (gm_sG u 4 k0 x) := match k0, h with
  | 0, _ => rfl
  | 1, _ => rfl
  | _ + 2, h => absurd h (by omega)
theorem gs_M_found {x : Int32} (h : k0 < 2) : (gm_W dk a u).set (3 + k0) (a (3 + k0), .inr (1, ([.ref (a (5 + k0)), .ref (a (7 + k0)), .int (gm_b (u.1 2 k0)), .int (gm_b (u.1 3 k0)), .int (gm_b (u.1 4 k0)), .int (u.2.1 3 k0), .int (u.2.1 4 k0), .int (u.2.1 5 k0)] : List Value).set 7 (.int x))) = gm_W dk a (gm_sG u 5 k0 x) := match k0, h with
  | 0, _ => rfl
  | 1, _ => rfl
  | _ + 2, h => absurd h (by omega)
theorem gs_S_on {x : Bool} (h : k0 < 12) : (gm_W dk a u).set (9 + k0) (a (9 + k0), .inr (2, ([.int (gm_b (u.1 0 k0)), .int (gm_b (u.1 1 k0)), .int (u.2.1 0 k0)] : List Value).set 0 (.int (gm_b x)))) = gm_W dk a (gm_sB u 0 k0 x) := match k0, h with
  | 0, _ => rfl
  | 1, _ => rfl
  | 2, _ => rfl
  | 3, _ => rfl
  | 4, _ => rfl
  | 5, _ => rfl
  | 6, _ => rfl
  | 7, _ => rfl
  | 8, _ => rfl
  | 9, _ => rfl
  | 10, _ => rfl
  | 11, _ => rfl
  | _ + 12, h => absurd h (by omega)
theorem gs_S_broken {x : Bool} (h : k0 < 12) : (gm_W dk a u).set (9 + k0) (a (9 + k0), .inr (2, ([.int (gm_b (u.1 0 k0)), .int (gm_b (u.1 1 k0)), .int (u.2.1 0 k0)] : List Value).set 1 (.int (gm_b x)))) = gm_W dk a (gm_sB u 1 k0 x) := match k0, h with
  | 0, _ => rfl
  | 1, _ => rfl
  | 2, _ => rfl
  | 3, _ => rfl
  | 4, _ => rfl
  | 5, _ => rfl
  | 6, _ => rfl
  | 7, _ => rfl
  | 8, _ => rfl
  | 9, _ => rfl
  | 10, _ => rfl
  | 11, _ => rfl
  | _ + 12, h => absurd h (by omega)
theorem gs_S_valid {x : Int32} (h : k0 < 12) : (gm_W dk a u).set (9 + k0) (a (9 + k0), .inr (2, ([.int (gm_b (u.1 0 k0)), .int (gm_b (u.1 1 k0)), .int (u.2.1 0 k0)] : List Value).set 2 (.int x))) = gm_W dk a (gm_sG u 0 k0 x) := match k0, h with
  | 0, _ => rfl
  | 1, _ => rfl
  | 2, _ => rfl
  | 3, _ => rfl
  | 4, _ => rfl
  | 5, _ => rfl
  | 6, _ => rfl
  | 7, _ => rfl
  | 8, _ => rfl
  | 9, _ => rfl
  | 10, _ => rfl
  | 11, _ => rfl
  | _ + 12, h => absurd h (by omega)
theorem gs_R_down {x : Bool} : (gr_W dk a u).set (0) (a (0), .inr (3, ([.int (gm_b (u.1 6 0)), .int (u.2.1 3 0), .int (u.2.1 3 1), .ref (a 1), .ref (a 2), .ref (a 3), .ref (a 4), .ref (a 5), .ref (a 6), .ref (a 7), .ref (a 8), .ref (a 9), .int (nI (u.2.2.1 0)), .ref (a 10)] : List Value).set 0 (.int (gm_b x)))) = gr_W dk a (gm_sB u 6 0 x) := rfl
theorem gs_R_time {x : Int32} : (gr_W dk a u).set (0) (a (0), .inr (3, ([.int (gm_b (u.1 6 0)), .int (u.2.1 3 0), .int (u.2.1 3 1), .ref (a 1), .ref (a 2), .ref (a 3), .ref (a 4), .ref (a 5), .ref (a 6), .ref (a 7), .ref (a 8), .ref (a 9), .int (nI (u.2.2.1 0)), .ref (a 10)] : List Value).set 1 (.int x))) = gr_W dk a (gm_sG u 3 0 x) := rfl
theorem gs_R_channels {x : Int32} : (gr_W dk a u).set (0) (a (0), .inr (3, ([.int (gm_b (u.1 6 0)), .int (u.2.1 3 0), .int (u.2.1 3 1), .ref (a 1), .ref (a 2), .ref (a 3), .ref (a 4), .ref (a 5), .ref (a 6), .ref (a 7), .ref (a 8), .ref (a 9), .int (nI (u.2.2.1 0)), .ref (a 10)] : List Value).set 2 (.int x))) = gr_W dk a (gm_sG u 3 1 x) := rfl
theorem gs_R_written {x : Nat} : (gr_W dk a u).set (0) (a (0), .inr (3, ([.int (gm_b (u.1 6 0)), .int (u.2.1 3 0), .int (u.2.1 3 1), .ref (a 1), .ref (a 2), .ref (a 3), .ref (a 4), .ref (a 5), .ref (a 6), .ref (a 7), .ref (a 8), .ref (a 9), .int (nI (u.2.2.1 0)), .ref (a 10)] : List Value).set 12 (.int (nI x)))) = gr_W dk a (gm_sN u 0 x) := rfl
theorem gs_cnt {x : Int32} (h : k0 < 2) : (gm_W dk a u).set (7 + k0) (a (7 + k0), .inl (dk 3, 16, .inl (upd (u.2.1 (1 + k0)) k x))) = gm_W dk a (gm_sG u (1 + k0) k x) := match k0, h with
  | 0, _ => rfl
  | 1, _ => rfl
  | _ + 2, h => absurd h (by omega)
theorem gs_recs {x : Int64} : (gm_W dk a u).set 2 (a 2, .inl (dk 1, 16, .inr (.inl (vp_updL u.2.2.2 k x)))) = gm_W dk a (gm_sL u k x) := rfl
theorem gs_rrec {x : Int64} : (gr_W dk a u).set 10 (a 10, .inl (dk 1, 16, .inr (.inl (vp_updL u.2.2.2 k x)))) = gr_W dk a (gm_sL u k x) := rfl
theorem gs_eB {j : Nat} {x : Bool} : upd (fun i => gm_b (u.1 j i)) k (gm_b x) = (fun i => gm_b ((gm_sB u j k x).1 j i)) := by
  funext i
  simp only [upd, gm_sB, if_true]
  split <;> rfl
theorem gs_failed {x : Bool} : (gr_W dk a u).set 1 (a 1, .inl (dk 4, 2, .inl (upd (fun i => gm_b (u.1 0 i)) k (gm_b x)))) = gr_W dk a (gm_sB u 0 k x) := by
  rw [gs_eB]; rfl
theorem gs_bad {x : Bool} : (gr_W dk a u).set 2 (a 2, .inl (dk 4, 36, .inl (upd (fun i => gm_b (u.1 1 i)) k (gm_b x)))) = gr_W dk a (gm_sB u 1 k x) := by
  rw [gs_eB]; rfl
theorem gs_value {x : Bool} : (gr_W dk a u).set 3 (a 3, .inl (dk 4, 12, .inl (upd (fun i => gm_b (u.1 2 i)) k (gm_b x)))) = gr_W dk a (gm_sB u 2 k x) := by
  rw [gs_eB]; rfl
theorem gs_broken {x : Bool} : (gr_W dk a u).set 4 (a 4, .inl (dk 4, 12, .inl (upd (fun i => gm_b (u.1 3 i)) k (gm_b x)))) = gr_W dk a (gm_sB u 3 k x) := by
  rw [gs_eB]; rfl
theorem gs_had {x : Bool} : (gr_W dk a u).set 5 (a 5, .inl (dk 4, 32, .inl (upd (fun i => gm_b (u.1 4 i)) k (gm_b x)))) = gr_W dk a (gm_sB u 4 k x) := by
  rw [gs_eB]; rfl
theorem gs_waits {x : Bool} : (gr_W dk a u).set 7 (a 7, .inl (dk 4, 2, .inl (upd (fun i => gm_b (u.1 5 i)) k (gm_b x)))) = gr_W dk a (gm_sB u 5 k x) := by
  rw [gs_eB]; rfl
theorem gs_held {x : Int32} : (gr_W dk a u).set 6 (a 6, .inl (dk 3, 32, .inl (upd (u.2.1 0) k x))) = gr_W dk a (gm_sG u 0 k x) := rfl
theorem gs_waited {x : Int32} : (gr_W dk a u).set 8 (a 8, .inl (dk 3, 2, .inl (upd (u.2.1 1) k x))) = gr_W dk a (gm_sG u 1 k x) := rfl
theorem gs_past {x : Int32} : (gr_W dk a u).set 9 (a 9, .inl (dk 3, 22, .inl (upd (u.2.1 2) k x))) = gr_W dk a (gm_sG u 2 k x) := rfl
end GMW
end
section
section GMA
variable {p : Program} {l : Launch} {e : Env} {R : Room} {s : State} {m : MethodId} {args : Array Value} {below : List Frame} {meth : Method} {c : Code} {H : Heap} {locs : List Loc} {Q : State → Prop} {pc nL cells slots : Nat} {ls : Array Slot} {rest : List Value} {cc : ByteArray} {own : String} {ret : Option FieldType}
variable {D : va_G} {dk : Nat → ClassId} {a : Nat → Nat} {A : Nat → Prop} {lt : Nat} {u : gm_St} {k0 k : Nat}
theorem ga_cnt (hF : gm_F p s m args meth c own cc nL ret D (gm_ty dk) A lt) (hM : gm_M D A s (gm_W dk a) u H locs) (h0 : k0 < 2) {x : Int32} (hi : x = nI k) (hk : k < 16) (hdg : decode cc pc = .ok (.iaload, 1)) (kk : W p l e R s m args below meth c H locs cells slots Q (F0 m (pc + 1) ls (.int (u.2.1 (1 + k0) k) :: rest))) : W p l e R s m args below meth c H locs cells slots Q (F0 m pc ls (.int x :: .ref (a (7 + k0)) :: rest)) := by
  subst hi
  refine va_iald hF.1 hF.2.1 hF.2.2.2.2.2.2.2.1 hM.1 (7 + k0) 3 (gm_WC h0) rfl (vp_in_nI hk (by decide)) hdg ?_
  rw [nI_clamp (by omega)]
  exact kk
theorem gq_cnt (hF : gm_F p s m args meth c own cc nL ret D (gm_ty dk) A lt) (hM : gm_M D A s (gm_W dk a) u H locs) (h0 : k0 < 2) {x : Int32} (hi : x = nI k) (hk : k < 16) {z : Int32} (hdg : decode cc pc = .ok (.iastore, 1)) (kk : ∀ (H1 : Heap) (locs1 : List Loc), gm_M D A s (gm_W dk a) (gm_sG u (1 + k0) k z) H1 locs1 → W p l e R s m args below meth c H1 locs1 cells slots Q (F0 m (pc + 1) ls rest)) : W p l e R s m args below meth c H locs cells slots Q (F0 m pc ls (.int z :: .int x :: .ref (a (7 + k0)) :: rest)) := by
  subst hi
  refine va_iast hF.1 hF.2.1 hF.2.2.2.2.2.2.2.1 hM.1 hM.2.1 hM.2.2 (7 + k0) 3 (gm_WC h0) rfl (vp_in_nI hk (by decide)) hdg (fun H1 locs1 hP hD hS => ?_)
  rw [nI_clamp (by omega), gs_cnt h0] at hP hD
  exact kk H1 locs1 ⟨hP, hD, hS⟩
theorem ga_recs (hF : gm_F p s m args meth c own cc nL ret D (gm_ty dk) A lt) (hM : gm_M D A s (gm_W dk a) u H locs) {x : Int32} (hi : x = nI k) (hk : k < 16) (hdg : decode cc pc = .ok (.laload, 1)) (kk : W p l e R s m args below meth c H locs cells slots Q (F0 m (pc + 1) ls (.long (u.2.2.2 k) :: rest))) : W p l e R s m args below meth c H locs cells slots Q (F0 m pc ls (.int x :: .ref (a 2) :: rest)) := by
  subst hi
  refine va_lald hF.1 hF.2.1 hF.2.2.2.2.2.2.2.1 hM.1 (2) 1 rfl rfl (vp_in_nI hk (by decide)) hdg ?_
  rw [nI_clamp (by omega)]
  exact kk
theorem gq_recs (hF : gm_F p s m args meth c own cc nL ret D (gm_ty dk) A lt) (hM : gm_M D A s (gm_W dk a) u H locs) {x : Int32} (hi : x = nI k) (hk : k < 16) {z : Int64} (hdg : decode cc pc = .ok (.lastore, 1)) (kk : ∀ (H1 : Heap) (locs1 : List Loc), gm_M D A s (gm_W dk a) (gm_sL u k z) H1 locs1 → W p l e R s m args below meth c H1 locs1 cells slots Q (F0 m (pc + 1) ls rest)) : W p l e R s m args below meth c H locs cells slots Q (F0 m pc ls (.long z :: .int x :: .ref (a 2) :: rest)) := by
  subst hi
  refine va_last hF.1 hF.2.1 hF.2.2.2.2.2.2.2.1 hM.1 hM.2.1 hM.2.2 (2) 1 rfl rfl (vp_in_nI hk (by decide)) hdg (fun H1 locs1 hP hD hS => ?_)
  rw [nI_clamp (by omega), gs_recs] at hP hD
  exact kk H1 locs1 ⟨hP, hD, hS⟩
theorem ga_failed (hF : gm_F p s m args meth c own cc nL ret D (gm_ty dk) A lt) (hM : gm_M D A s (gr_W dk a) u H locs) {x : Int32} (hi : x = nI k) (hk : k < 2) (hdg : decode cc pc = .ok (.baload, 1)) (kk : W p l e R s m args below meth c H locs cells slots Q (F0 m (pc + 1) ls (.int (gm_b (u.1 0 k)) :: rest))) : W p l e R s m args below meth c H locs cells slots Q (F0 m pc ls (.int x :: .ref (a 1) :: rest)) := by
  subst hi
  refine va_zald hF.1 hF.2.1 hF.2.2.2.2.2.2.2.1 hM.1 (1) 4 rfl rfl (vp_in_nI hk (by decide)) hdg ?_
  rw [nI_clamp (by omega)]
  exact kk
theorem gq_failed (hF : gm_F p s m args meth c own cc nL ret D (gm_ty dk) A lt) (hM : gm_M D A s (gr_W dk a) u H locs) {x : Int32} (hi : x = nI k) (hk : k < 2) {z : Int32} {v : Bool} (hz : z = gm_b v) (hdg : decode cc pc = .ok (.bastore, 1)) (kk : ∀ (H1 : Heap) (locs1 : List Loc), gm_M D A s (gr_W dk a) (gm_sB u 0 k v) H1 locs1 → W p l e R s m args below meth c H1 locs1 cells slots Q (F0 m (pc + 1) ls rest)) : W p l e R s m args below meth c H locs cells slots Q (F0 m pc ls (.int z :: .int x :: .ref (a 1) :: rest)) := by
  subst hi
  subst hz
  refine va_zast hF.1 hF.2.1 hF.2.2.2.2.2.2.2.1 hM.1 hM.2.1 hM.2.2 (1) 4 rfl rfl (vp_in_nI hk (by decide)) hdg (fun H1 locs1 hP hD hS => ?_)
  rw [gm_vb, nI_clamp (by omega), gs_failed] at hP hD
  exact kk H1 locs1 ⟨hP, hD, hS⟩
theorem ga_bad (hF : gm_F p s m args meth c own cc nL ret D (gm_ty dk) A lt) (hM : gm_M D A s (gr_W dk a) u H locs) {x : Int32} (hi : x = nI k) (hk : k < 36) (hdg : decode cc pc = .ok (.baload, 1)) (kk : W p l e R s m args below meth c H locs cells slots Q (F0 m (pc + 1) ls (.int (gm_b (u.1 1 k)) :: rest))) : W p l e R s m args below meth c H locs cells slots Q (F0 m pc ls (.int x :: .ref (a 2) :: rest)) := by
  subst hi
  refine va_zald hF.1 hF.2.1 hF.2.2.2.2.2.2.2.1 hM.1 (2) 4 rfl rfl (vp_in_nI hk (by decide)) hdg ?_
  rw [nI_clamp (by omega)]
  exact kk
theorem gq_bad (hF : gm_F p s m args meth c own cc nL ret D (gm_ty dk) A lt) (hM : gm_M D A s (gr_W dk a) u H locs) {x : Int32} (hi : x = nI k) (hk : k < 36) {z : Int32} {v : Bool} (hz : z = gm_b v) (hdg : decode cc pc = .ok (.bastore, 1)) (kk : ∀ (H1 : Heap) (locs1 : List Loc), gm_M D A s (gr_W dk a) (gm_sB u 1 k v) H1 locs1 → W p l e R s m args below meth c H1 locs1 cells slots Q (F0 m (pc + 1) ls rest)) : W p l e R s m args below meth c H locs cells slots Q (F0 m pc ls (.int z :: .int x :: .ref (a 2) :: rest)) := by
  subst hi
  subst hz
  refine va_zast hF.1 hF.2.1 hF.2.2.2.2.2.2.2.1 hM.1 hM.2.1 hM.2.2 (2) 4 rfl rfl (vp_in_nI hk (by decide)) hdg (fun H1 locs1 hP hD hS => ?_)
  rw [gm_vb, nI_clamp (by omega), gs_bad] at hP hD
  exact kk H1 locs1 ⟨hP, hD, hS⟩
theorem ga_value (hF : gm_F p s m args meth c own cc nL ret D (gm_ty dk) A lt) (hM : gm_M D A s (gr_W dk a) u H locs) {x : Int32} (hi : x = nI k) (hk : k < 12) (hdg : decode cc pc = .ok (.baload, 1)) (kk : W p l e R s m args below meth c H locs cells slots Q (F0 m (pc + 1) ls (.int (gm_b (u.1 2 k)) :: rest))) : W p l e R s m args below meth c H locs cells slots Q (F0 m pc ls (.int x :: .ref (a 3) :: rest)) := by
  subst hi
  refine va_zald hF.1 hF.2.1 hF.2.2.2.2.2.2.2.1 hM.1 (3) 4 rfl rfl (vp_in_nI hk (by decide)) hdg ?_
  rw [nI_clamp (by omega)]
  exact kk
theorem gq_value (hF : gm_F p s m args meth c own cc nL ret D (gm_ty dk) A lt) (hM : gm_M D A s (gr_W dk a) u H locs) {x : Int32} (hi : x = nI k) (hk : k < 12) {z : Int32} {v : Bool} (hz : z = gm_b v) (hdg : decode cc pc = .ok (.bastore, 1)) (kk : ∀ (H1 : Heap) (locs1 : List Loc), gm_M D A s (gr_W dk a) (gm_sB u 2 k v) H1 locs1 → W p l e R s m args below meth c H1 locs1 cells slots Q (F0 m (pc + 1) ls rest)) : W p l e R s m args below meth c H locs cells slots Q (F0 m pc ls (.int z :: .int x :: .ref (a 3) :: rest)) := by
  subst hi
  subst hz
  refine va_zast hF.1 hF.2.1 hF.2.2.2.2.2.2.2.1 hM.1 hM.2.1 hM.2.2 (3) 4 rfl rfl (vp_in_nI hk (by decide)) hdg (fun H1 locs1 hP hD hS => ?_)
  rw [gm_vb, nI_clamp (by omega), gs_value] at hP hD
  exact kk H1 locs1 ⟨hP, hD, hS⟩
theorem ga_broken (hF : gm_F p s m args meth c own cc nL ret D (gm_ty dk) A lt) (hM : gm_M D A s (gr_W dk a) u H locs) {x : Int32} (hi : x = nI k) (hk : k < 12) (hdg : decode cc pc = .ok (.baload, 1)) (kk : W p l e R s m args below meth c H locs cells slots Q (F0 m (pc + 1) ls (.int (gm_b (u.1 3 k)) :: rest))) : W p l e R s m args below meth c H locs cells slots Q (F0 m pc ls (.int x :: .ref (a 4) :: rest)) := by
  subst hi
  refine va_zald hF.1 hF.2.1 hF.2.2.2.2.2.2.2.1 hM.1 (4) 4 rfl rfl (vp_in_nI hk (by decide)) hdg ?_
  rw [nI_clamp (by omega)]
  exact kk
theorem gq_broken (hF : gm_F p s m args meth c own cc nL ret D (gm_ty dk) A lt) (hM : gm_M D A s (gr_W dk a) u H locs) {x : Int32} (hi : x = nI k) (hk : k < 12) {z : Int32} {v : Bool} (hz : z = gm_b v) (hdg : decode cc pc = .ok (.bastore, 1)) (kk : ∀ (H1 : Heap) (locs1 : List Loc), gm_M D A s (gr_W dk a) (gm_sB u 3 k v) H1 locs1 → W p l e R s m args below meth c H1 locs1 cells slots Q (F0 m (pc + 1) ls rest)) : W p l e R s m args below meth c H locs cells slots Q (F0 m pc ls (.int z :: .int x :: .ref (a 4) :: rest)) := by
  subst hi
  subst hz
  refine va_zast hF.1 hF.2.1 hF.2.2.2.2.2.2.2.1 hM.1 hM.2.1 hM.2.2 (4) 4 rfl rfl (vp_in_nI hk (by decide)) hdg (fun H1 locs1 hP hD hS => ?_)
  rw [gm_vb, nI_clamp (by omega), gs_broken] at hP hD
  exact kk H1 locs1 ⟨hP, hD, hS⟩
theorem ga_had (hF : gm_F p s m args meth c own cc nL ret D (gm_ty dk) A lt) (hM : gm_M D A s (gr_W dk a) u H locs) {x : Int32} (hi : x = nI k) (hk : k < 32) (hdg : decode cc pc = .ok (.baload, 1)) (kk : W p l e R s m args below meth c H locs cells slots Q (F0 m (pc + 1) ls (.int (gm_b (u.1 4 k)) :: rest))) : W p l e R s m args below meth c H locs cells slots Q (F0 m pc ls (.int x :: .ref (a 5) :: rest)) := by
  subst hi
  refine va_zald hF.1 hF.2.1 hF.2.2.2.2.2.2.2.1 hM.1 (5) 4 rfl rfl (vp_in_nI hk (by decide)) hdg ?_
  rw [nI_clamp (by omega)]
  exact kk
theorem gq_had (hF : gm_F p s m args meth c own cc nL ret D (gm_ty dk) A lt) (hM : gm_M D A s (gr_W dk a) u H locs) {x : Int32} (hi : x = nI k) (hk : k < 32) {z : Int32} {v : Bool} (hz : z = gm_b v) (hdg : decode cc pc = .ok (.bastore, 1)) (kk : ∀ (H1 : Heap) (locs1 : List Loc), gm_M D A s (gr_W dk a) (gm_sB u 4 k v) H1 locs1 → W p l e R s m args below meth c H1 locs1 cells slots Q (F0 m (pc + 1) ls rest)) : W p l e R s m args below meth c H locs cells slots Q (F0 m pc ls (.int z :: .int x :: .ref (a 5) :: rest)) := by
  subst hi
  subst hz
  refine va_zast hF.1 hF.2.1 hF.2.2.2.2.2.2.2.1 hM.1 hM.2.1 hM.2.2 (5) 4 rfl rfl (vp_in_nI hk (by decide)) hdg (fun H1 locs1 hP hD hS => ?_)
  rw [gm_vb, nI_clamp (by omega), gs_had] at hP hD
  exact kk H1 locs1 ⟨hP, hD, hS⟩
theorem ga_held (hF : gm_F p s m args meth c own cc nL ret D (gm_ty dk) A lt) (hM : gm_M D A s (gr_W dk a) u H locs) {x : Int32} (hi : x = nI k) (hk : k < 32) (hdg : decode cc pc = .ok (.iaload, 1)) (kk : W p l e R s m args below meth c H locs cells slots Q (F0 m (pc + 1) ls (.int (u.2.1 0 k) :: rest))) : W p l e R s m args below meth c H locs cells slots Q (F0 m pc ls (.int x :: .ref (a 6) :: rest)) := by
  subst hi
  refine va_iald hF.1 hF.2.1 hF.2.2.2.2.2.2.2.1 hM.1 (6) 3 rfl rfl (vp_in_nI hk (by decide)) hdg ?_
  rw [nI_clamp (by omega)]
  exact kk
theorem gq_held (hF : gm_F p s m args meth c own cc nL ret D (gm_ty dk) A lt) (hM : gm_M D A s (gr_W dk a) u H locs) {x : Int32} (hi : x = nI k) (hk : k < 32) {z : Int32} (hdg : decode cc pc = .ok (.iastore, 1)) (kk : ∀ (H1 : Heap) (locs1 : List Loc), gm_M D A s (gr_W dk a) (gm_sG u 0 k z) H1 locs1 → W p l e R s m args below meth c H1 locs1 cells slots Q (F0 m (pc + 1) ls rest)) : W p l e R s m args below meth c H locs cells slots Q (F0 m pc ls (.int z :: .int x :: .ref (a 6) :: rest)) := by
  subst hi
  refine va_iast hF.1 hF.2.1 hF.2.2.2.2.2.2.2.1 hM.1 hM.2.1 hM.2.2 (6) 3 rfl rfl (vp_in_nI hk (by decide)) hdg (fun H1 locs1 hP hD hS => ?_)
  rw [nI_clamp (by omega), gs_held] at hP hD
  exact kk H1 locs1 ⟨hP, hD, hS⟩
theorem ga_waits (hF : gm_F p s m args meth c own cc nL ret D (gm_ty dk) A lt) (hM : gm_M D A s (gr_W dk a) u H locs) {x : Int32} (hi : x = nI k) (hk : k < 2) (hdg : decode cc pc = .ok (.baload, 1)) (kk : W p l e R s m args below meth c H locs cells slots Q (F0 m (pc + 1) ls (.int (gm_b (u.1 5 k)) :: rest))) : W p l e R s m args below meth c H locs cells slots Q (F0 m pc ls (.int x :: .ref (a 7) :: rest)) := by
  subst hi
  refine va_zald hF.1 hF.2.1 hF.2.2.2.2.2.2.2.1 hM.1 (7) 4 rfl rfl (vp_in_nI hk (by decide)) hdg ?_
  rw [nI_clamp (by omega)]
  exact kk
theorem gq_waits (hF : gm_F p s m args meth c own cc nL ret D (gm_ty dk) A lt) (hM : gm_M D A s (gr_W dk a) u H locs) {x : Int32} (hi : x = nI k) (hk : k < 2) {z : Int32} {v : Bool} (hz : z = gm_b v) (hdg : decode cc pc = .ok (.bastore, 1)) (kk : ∀ (H1 : Heap) (locs1 : List Loc), gm_M D A s (gr_W dk a) (gm_sB u 5 k v) H1 locs1 → W p l e R s m args below meth c H1 locs1 cells slots Q (F0 m (pc + 1) ls rest)) : W p l e R s m args below meth c H locs cells slots Q (F0 m pc ls (.int z :: .int x :: .ref (a 7) :: rest)) := by
  subst hi
  subst hz
  refine va_zast hF.1 hF.2.1 hF.2.2.2.2.2.2.2.1 hM.1 hM.2.1 hM.2.2 (7) 4 rfl rfl (vp_in_nI hk (by decide)) hdg (fun H1 locs1 hP hD hS => ?_)
  rw [gm_vb, nI_clamp (by omega), gs_waits] at hP hD
  exact kk H1 locs1 ⟨hP, hD, hS⟩
theorem ga_waited (hF : gm_F p s m args meth c own cc nL ret D (gm_ty dk) A lt) (hM : gm_M D A s (gr_W dk a) u H locs) {x : Int32} (hi : x = nI k) (hk : k < 2) (hdg : decode cc pc = .ok (.iaload, 1)) (kk : W p l e R s m args below meth c H locs cells slots Q (F0 m (pc + 1) ls (.int (u.2.1 1 k) :: rest))) : W p l e R s m args below meth c H locs cells slots Q (F0 m pc ls (.int x :: .ref (a 8) :: rest)) := by
  subst hi
  refine va_iald hF.1 hF.2.1 hF.2.2.2.2.2.2.2.1 hM.1 (8) 3 rfl rfl (vp_in_nI hk (by decide)) hdg ?_
  rw [nI_clamp (by omega)]
  exact kk
theorem gq_waited (hF : gm_F p s m args meth c own cc nL ret D (gm_ty dk) A lt) (hM : gm_M D A s (gr_W dk a) u H locs) {x : Int32} (hi : x = nI k) (hk : k < 2) {z : Int32} (hdg : decode cc pc = .ok (.iastore, 1)) (kk : ∀ (H1 : Heap) (locs1 : List Loc), gm_M D A s (gr_W dk a) (gm_sG u 1 k z) H1 locs1 → W p l e R s m args below meth c H1 locs1 cells slots Q (F0 m (pc + 1) ls rest)) : W p l e R s m args below meth c H locs cells slots Q (F0 m pc ls (.int z :: .int x :: .ref (a 8) :: rest)) := by
  subst hi
  refine va_iast hF.1 hF.2.1 hF.2.2.2.2.2.2.2.1 hM.1 hM.2.1 hM.2.2 (8) 3 rfl rfl (vp_in_nI hk (by decide)) hdg (fun H1 locs1 hP hD hS => ?_)
  rw [nI_clamp (by omega), gs_waited] at hP hD
  exact kk H1 locs1 ⟨hP, hD, hS⟩
theorem ga_past (hF : gm_F p s m args meth c own cc nL ret D (gm_ty dk) A lt) (hM : gm_M D A s (gr_W dk a) u H locs) {x : Int32} (hi : x = nI k) (hk : k < 22) (hdg : decode cc pc = .ok (.iaload, 1)) (kk : W p l e R s m args below meth c H locs cells slots Q (F0 m (pc + 1) ls (.int (u.2.1 2 k) :: rest))) : W p l e R s m args below meth c H locs cells slots Q (F0 m pc ls (.int x :: .ref (a 9) :: rest)) := by
  subst hi
  refine va_iald hF.1 hF.2.1 hF.2.2.2.2.2.2.2.1 hM.1 (9) 3 rfl rfl (vp_in_nI hk (by decide)) hdg ?_
  rw [nI_clamp (by omega)]
  exact kk
theorem gq_past (hF : gm_F p s m args meth c own cc nL ret D (gm_ty dk) A lt) (hM : gm_M D A s (gr_W dk a) u H locs) {x : Int32} (hi : x = nI k) (hk : k < 22) {z : Int32} (hdg : decode cc pc = .ok (.iastore, 1)) (kk : ∀ (H1 : Heap) (locs1 : List Loc), gm_M D A s (gr_W dk a) (gm_sG u 2 k z) H1 locs1 → W p l e R s m args below meth c H1 locs1 cells slots Q (F0 m (pc + 1) ls rest)) : W p l e R s m args below meth c H locs cells slots Q (F0 m pc ls (.int z :: .int x :: .ref (a 9) :: rest)) := by
  subst hi
  refine va_iast hF.1 hF.2.1 hF.2.2.2.2.2.2.2.1 hM.1 hM.2.1 hM.2.2 (9) 3 rfl rfl (vp_in_nI hk (by decide)) hdg (fun H1 locs1 hP hD hS => ?_)
  rw [nI_clamp (by omega), gs_past] at hP hD
  exact kk H1 locs1 ⟨hP, hD, hS⟩
theorem ga_rrec (hF : gm_F p s m args meth c own cc nL ret D (gm_ty dk) A lt) (hM : gm_M D A s (gr_W dk a) u H locs) {x : Int32} (hi : x = nI k) (hk : k < 16) (hdg : decode cc pc = .ok (.laload, 1)) (kk : W p l e R s m args below meth c H locs cells slots Q (F0 m (pc + 1) ls (.long (u.2.2.2 k) :: rest))) : W p l e R s m args below meth c H locs cells slots Q (F0 m pc ls (.int x :: .ref (a 10) :: rest)) := by
  subst hi
  refine va_lald hF.1 hF.2.1 hF.2.2.2.2.2.2.2.1 hM.1 (10) 1 rfl rfl (vp_in_nI hk (by decide)) hdg ?_
  rw [nI_clamp (by omega)]
  exact kk
theorem gq_rrec (hF : gm_F p s m args meth c own cc nL ret D (gm_ty dk) A lt) (hM : gm_M D A s (gr_W dk a) u H locs) {x : Int32} (hi : x = nI k) (hk : k < 16) {z : Int64} (hdg : decode cc pc = .ok (.lastore, 1)) (kk : ∀ (H1 : Heap) (locs1 : List Loc), gm_M D A s (gr_W dk a) (gm_sL u k z) H1 locs1 → W p l e R s m args below meth c H1 locs1 cells slots Q (F0 m (pc + 1) ls rest)) : W p l e R s m args below meth c H locs cells slots Q (F0 m pc ls (.long z :: .int x :: .ref (a 10) :: rest)) := by
  subst hi
  refine va_last hF.1 hF.2.1 hF.2.2.2.2.2.2.2.1 hM.1 hM.2.1 hM.2.2 (10) 1 rfl rfl (vp_in_nI hk (by decide)) hdg (fun H1 locs1 hP hD hS => ?_)
  rw [nI_clamp (by omega), gs_rrec] at hP hD
  exact kk H1 locs1 ⟨hP, hD, hS⟩
theorem ga_mods (hF : gm_F p s m args meth c own cc nL ret D (gm_ty dk) A lt) (hM : gm_M D A s (gm_W dk a) u H locs) {x : Int32} (hi : x = nI k) (hk : k < 2) (hdg : decode cc pc = .ok (.aaload, 1)) (kk : W p l e R s m args below meth c H locs cells slots Q (F0 m (pc + 1) ls (.ref (a (3 + k)) :: rest))) : W p l e R s m args below meth c H locs cells slots Q (F0 m pc ls (.int x :: .ref (a 1) :: rest)) := by
  subst hi
  refine va_aldq hF.1 hF.2.1 hF.2.2.2.2.2.2.2.1 hM.1 1 0 rfl rfl (vp_in_nI hk (by decide)) hdg ?_
  rw [nI_clamp (by omega), show va_rf (gm_refs a 3 2 k) = .ref (a (3 + k)) by simp [gm_refs, hk, va_rf]]
  exact kk
theorem ga_sens (hF : gm_F p s m args meth c own cc nL ret D (gm_ty dk) A lt) (hM : gm_M D A s (gm_W dk a) u H locs) (h0 : k0 < 2) {x : Int32} (hi : x = nI k) (hk : k < 6) (hdg : decode cc pc = .ok (.aaload, 1)) (kk : W p l e R s m args below meth c H locs cells slots Q (F0 m (pc + 1) ls (.ref (a (9 + (6 * k0 + k))) :: rest))) : W p l e R s m args below meth c H locs cells slots Q (F0 m pc ls (.int x :: .ref (a (5 + k0)) :: rest)) := by
  subst hi
  refine va_aldq hF.1 hF.2.1 hF.2.2.2.2.2.2.2.1 hM.1 (5 + k0) 2 (gm_WA h0) rfl (vp_in_nI hk (by decide)) hdg ?_
  rw [nI_clamp (by omega), show va_rf (gm_refs a (9 + 6 * k0) 6 k) = .ref (a (9 + (6 * k0 + k))) by simp [gm_refs, hk, va_rf, Nat.add_assoc]]
  exact kk
theorem ga_lim {Wd : gm_St → va_W} (hF : gm_F p s m args meth c own cc nL ret D (gm_ty dk) A lt) (hM : gm_M D A s Wd u H locs) {x : Int32} (hi : x = nI k) (hk : k < 16) (hdg : decode cc pc = .ok (.iaload, 1)) (kk : W p l e R s m args below meth c H locs cells slots Q (F0 m (pc + 1) ls (.int (gm_lim k) :: rest))) : W p l e R s m args below meth c H locs cells slots Q (F0 m pc ls (.int x :: .ref lt :: rest)) := by
  subst hi
  exact va_ti hF.1 hF.2.1 hF.2.2.2.2.2.2.2.2.2.2.2 hM.2.2 (vp_in_nI hk (by decide)) (by rw [nI_clamp (by omega)]) hdg kk
theorem gm_rem {x : Int32} {n d : Nat} (hx : x = nI n) (hn : n < 2 ^ 31) (h0 : 0 < d) (hd : d < 2 ^ 31) : x - x / nI d * nI d = nI (n % d) := by
  subst hx
  exact pk_rem hn h0 hd
theorem gm_nf {b : Bool} (h : b = false) : ¬ b = true := by rw [h]; decide
theorem gv_M {C : String} (hF : gm_F p s m args meth c own cc nL ret D (gm_ty dk) A lt) (hM : gm_M D A s (gm_W dk a) u H locs) (h0 : k0 < 2) (hC : C = "GearModules$OneModule") : gm_rv s H C (a (3 + k0)) := by
  subst hC
  exact va_recv (q := (R_M, F_M, 8)) hF.2.2.2.2.2.2.2.1 hM.1 (ci := 1) rfl (gm_WM h0)
theorem gv_S {C : String} (hF : gm_F p s m args meth c own cc nL ret D (gm_ty dk) A lt) (hM : gm_M D A s (gm_W dk a) u H locs) (h0 : k0 < 12) (hC : C = "GearModules$Sensor") : gm_rv s H C (a (9 + k0)) := by
  subst hC
  exact va_recv (q := (R_S, F_S, 3)) hF.2.2.2.2.2.2.2.1 hM.1 (ci := 2) rfl (gm_WS h0)
theorem gv_G {C : String} (hF : gm_F p s m args meth c own cc nL ret D (gm_ty dk) A lt) (hM : gm_M D A s (gm_W dk a) u H locs) (hC : C = "GearModules") : gm_rv s H C (a 0) := by
  subst hC
  exact va_recv (q := (R_G, F_G, 6)) hF.2.2.2.2.2.2.2.1 hM.1 (q0 := 0) (ci := 0) rfl rfl
theorem gv_R {C : String} (hF : gm_F p s m args meth c own cc nL ret D (gm_ty dk) A lt) (hM : gm_M D A s (gr_W dk a) u H locs) (hC : C = "GearModulesModel") : gm_rv s H C (a 0) := by
  subst hC
  exact va_recv (q := (R_R, F_R, 14)) hF.2.2.2.2.2.2.2.1 hM.1 (q0 := 0) (ci := 3) rfl rfl
end GMA
end
section
section GMF
variable {p : Program} {l : Launch} {e : Env} {R : Room} {s : State} {m : MethodId} {args : Array Value} {below : List Frame} {meth : Method} {c : Code} {H : Heap} {locs : List Loc} {Q : State → Prop} {pc nL cells slots : Nat} {ls : Array Slot} {rest : List Value} {cc : ByteArray} {own : String} {ret : Option FieldType}
variable {D : va_G} {dk : Nat → ClassId} {a : Nat → Nat} {A : Nat → Prop} {lt : Nat} {u : gm_St} {k0 k : Nat}
theorem gf_G_20 (hF : gm_F p s m args meth c "GearModules" cc nL ret D (gm_ty dk) A lt) (hM : gm_M D A s (gm_W dk a) u H locs) (hdg : decode cc pc = .ok (.getfield 20, 3)) (kk : W p l e R s m args below meth c H locs cells slots Q (F0 m (pc + 3) ls (.int (gm_b (u.1 5 0)) :: rest))) : W p l e R s m args below meth c H locs cells slots Q (F0 m pc ls (.ref (a (0)) :: rest)) :=
  va_get (C := R_G) (T := F_G) (N := 6) (ci := 0) (ref := "GearModules") hF.1 hF.2.1 hF.2.2.2.2.1 in_G hF.2.2.2.1 hF.2.2.2.2.2.2.2.1 hM.1 (0) rfl rfl 5 (by decide) (hF.2.2.2.2.1 _ (gm_in 105 (by decide +kernel) rfl)) (fun _ h => h) rfl hdg kk
theorem gp_G_20 (hF : gm_F p s m args meth c "GearModules" cc nL ret D (gm_ty dk) A lt) (hM : gm_M D A s (gm_W dk a) u H locs) {x : Bool} {z : Int32} (hz : z = gm_b x) (hdg : decode cc pc = .ok (.putfield 20, 3)) (kk : ∀ (H1 : Heap) (locs1 : List Loc), gm_M D A s (gm_W dk a) (gm_sB u 5 0 x) H1 locs1 → W p l e R s m args below meth c H1 locs1 cells slots Q (F0 m (pc + 3) ls rest)) : W p l e R s m args below meth c H locs cells slots Q (F0 m pc ls (.int z :: .ref (a (0)) :: rest)) := by
  subst hz
  refine va_put (ty := .boolean) (C := R_G) (T := F_G) (N := 6) (ci := 0) (ref := "GearModules") hF.1 hF.2.1 hF.2.2.2.2.1 in_G t_G t_G_ok n_G hF.2.2.2.1 hF.2.2.2.2.2.2.2.1 hM.1 hM.2.1 hM.2.2 (0) rfl rfl 5 (by decide) (hF.2.2.2.2.1 _ (gm_in 105 (by decide +kernel) rfl)) (fun _ h => h) rfl (by decide +kernel) (gm_nb x) (gm_fb x) (Nat.le_of_ble_eq_true rfl) hdg (fun H1 locs1 hP hD hS => ?_)
  rw [gs_G_handleDown] at hP hD
  exact kk H1 locs1 ⟨hP, hD, hS⟩
theorem gf_G_11 (hF : gm_F p s m args meth c "GearModules" cc nL ret D (gm_ty dk) A lt) (hM : gm_M D A s (gm_W dk a) u H locs) (hdg : decode cc pc = .ok (.getfield 11, 3)) (kk : W p l e R s m args below meth c H locs cells slots Q (F0 m (pc + 3) ls (.ref (a 1) :: rest))) : W p l e R s m args below meth c H locs cells slots Q (F0 m pc ls (.ref (a (0)) :: rest)) :=
  va_get (C := R_G) (T := F_G) (N := 6) (ci := 0) (ref := "GearModules") hF.1 hF.2.1 hF.2.2.2.2.1 in_G hF.2.2.2.1 hF.2.2.2.2.2.2.2.1 hM.1 (0) rfl rfl 0 (by decide) (hF.2.2.2.2.1 _ (gm_in 100 (by decide +kernel) rfl)) (fun _ h => h) rfl hdg kk
theorem gf_G_27 (hF : gm_F p s m args meth c "GearModules" cc nL ret D (gm_ty dk) A lt) (hM : gm_M D A s (gm_W dk a) u H locs) (hdg : decode cc pc = .ok (.getfield 27, 3)) (kk : W p l e R s m args below meth c H locs cells slots Q (F0 m (pc + 3) ls (.int (u.2.1 6 2) :: rest))) : W p l e R s m args below meth c H locs cells slots Q (F0 m pc ls (.ref (a (0)) :: rest)) :=
  va_get (C := R_G) (T := F_G) (N := 6) (ci := 0) (ref := "GearModules") hF.1 hF.2.1 hF.2.2.2.2.1 in_G hF.2.2.2.1 hF.2.2.2.2.2.2.2.1 hM.1 (0) rfl rfl 4 (by decide) (hF.2.2.2.2.1 _ (gm_in 104 (by decide +kernel) rfl)) (fun _ h => h) rfl hdg kk
theorem gp_G_27 (hF : gm_F p s m args meth c "GearModules" cc nL ret D (gm_ty dk) A lt) (hM : gm_M D A s (gm_W dk a) u H locs) {z : Int32} (hdg : decode cc pc = .ok (.putfield 27, 3)) (kk : ∀ (H1 : Heap) (locs1 : List Loc), gm_M D A s (gm_W dk a) (gm_sG u 6 2 z) H1 locs1 → W p l e R s m args below meth c H1 locs1 cells slots Q (F0 m (pc + 3) ls rest)) : W p l e R s m args below meth c H locs cells slots Q (F0 m pc ls (.int z :: .ref (a (0)) :: rest)) := by
  refine va_put (ty := .int) (C := R_G) (T := F_G) (N := 6) (ci := 0) (ref := "GearModules") hF.1 hF.2.1 hF.2.2.2.2.1 in_G t_G t_G_ok n_G hF.2.2.2.1 hF.2.2.2.2.2.2.2.1 hM.1 hM.2.1 hM.2.2 (0) rfl rfl 4 (by decide) (hF.2.2.2.2.1 _ (gm_in 104 (by decide +kernel) rfl)) (fun _ h => h) rfl (by decide +kernel) rfl rfl (Nat.le_of_ble_eq_true rfl) hdg (fun H1 locs1 hP hD hS => ?_)
  rw [gs_G_ticks] at hP hD
  exact kk H1 locs1 ⟨hP, hD, hS⟩
theorem gf_G_50 (hF : gm_F p s m args meth c "GearModules" cc nL ret D (gm_ty dk) A lt) (hM : gm_M D A s (gm_W dk a) u H locs) (h0 : k0 < 2) (hdg : decode cc pc = .ok (.getfield 50, 3)) (kk : W p l e R s m args below meth c H locs cells slots Q (F0 m (pc + 3) ls (.int (gm_b (u.1 2 k0)) :: rest))) : W p l e R s m args below meth c H locs cells slots Q (F0 m pc ls (.ref (a (3 + k0)) :: rest)) :=
  va_getN (C := R_M) (T := F_M) (N := 8) (ci := 1) (ref := "GearModules$OneModule") hF.1 hF.2.1 hF.2.2.2.2.1 in_M hF.2.2.2.1 hF.2.2.2.2.2.2.2.1 hM.1 (3 + k0) (gm_WM h0) rfl 2 (by decide) (va_Nw.use rfl (hF.2.2.2.2.2.2.2.2.1 _ (List.mem_of_getElem? (i := 4) rfl))) (fun _ h => h) rfl hdg kk
theorem gf_G_57 (hF : gm_F p s m args meth c "GearModules" cc nL ret D (gm_ty dk) A lt) (hM : gm_M D A s (gm_W dk a) u H locs) (h0 : k0 < 2) (hdg : decode cc pc = .ok (.getfield 57, 3)) (kk : W p l e R s m args below meth c H locs cells slots Q (F0 m (pc + 3) ls (.int (u.2.1 3 k0) :: rest))) : W p l e R s m args below meth c H locs cells slots Q (F0 m pc ls (.ref (a (3 + k0)) :: rest)) :=
  va_getN (C := R_M) (T := F_M) (N := 8) (ci := 1) (ref := "GearModules$OneModule") hF.1 hF.2.1 hF.2.2.2.2.1 in_M hF.2.2.2.1 hF.2.2.2.2.2.2.2.1 hM.1 (3 + k0) (gm_WM h0) rfl 5 (by decide) (va_Nw.use rfl (hF.2.2.2.2.2.2.2.2.1 _ (List.mem_of_getElem? (i := 5) rfl))) (fun _ h => h) rfl hdg kk
theorem gf_G_60 (hF : gm_F p s m args meth c "GearModules" cc nL ret D (gm_ty dk) A lt) (hM : gm_M D A s (gm_W dk a) u H locs) (h0 : k0 < 2) (hdg : decode cc pc = .ok (.getfield 60, 3)) (kk : W p l e R s m args below meth c H locs cells slots Q (F0 m (pc + 3) ls (.ref (a (5 + k0)) :: rest))) : W p l e R s m args below meth c H locs cells slots Q (F0 m pc ls (.ref (a (3 + k0)) :: rest)) :=
  va_getN (C := R_M) (T := F_M) (N := 8) (ci := 1) (ref := "GearModules$OneModule") hF.1 hF.2.1 hF.2.2.2.2.1 in_M hF.2.2.2.1 hF.2.2.2.2.2.2.2.1 hM.1 (3 + k0) (gm_WM h0) rfl 0 (by decide) (va_Nw.use rfl (hF.2.2.2.2.2.2.2.2.1 _ (List.mem_of_getElem? (i := 2) rfl))) (fun _ h => h) rfl hdg kk
theorem gf_G_69 (hF : gm_F p s m args meth c "GearModules" cc nL ret D (gm_ty dk) A lt) (hM : gm_M D A s (gm_W dk a) u H locs) (h0 : k0 < 2) (hdg : decode cc pc = .ok (.getfield 69, 3)) (kk : W p l e R s m args below meth c H locs cells slots Q (F0 m (pc + 3) ls (.int (u.2.1 5 k0) :: rest))) : W p l e R s m args below meth c H locs cells slots Q (F0 m pc ls (.ref (a (3 + k0)) :: rest)) :=
  va_getN (C := R_M) (T := F_M) (N := 8) (ci := 1) (ref := "GearModules$OneModule") hF.1 hF.2.1 hF.2.2.2.2.1 in_M hF.2.2.2.1 hF.2.2.2.2.2.2.2.1 hM.1 (3 + k0) (gm_WM h0) rfl 7 (by decide) (va_Nw.use rfl (hF.2.2.2.2.2.2.2.2.1 _ (List.mem_of_getElem? (i := 6) rfl))) (fun _ h => h) rfl hdg kk
theorem gf_G_72 (hF : gm_F p s m args meth c "GearModules" cc nL ret D (gm_ty dk) A lt) (hM : gm_M D A s (gm_W dk a) u H locs) (h0 : k0 < 2) (hdg : decode cc pc = .ok (.getfield 72, 3)) (kk : W p l e R s m args below meth c H locs cells slots Q (F0 m (pc + 3) ls (.ref (a (7 + k0)) :: rest))) : W p l e R s m args below meth c H locs cells slots Q (F0 m pc ls (.ref (a (3 + k0)) :: rest)) :=
  va_getN (C := R_M) (T := F_M) (N := 8) (ci := 1) (ref := "GearModules$OneModule") hF.1 hF.2.1 hF.2.2.2.2.1 in_M hF.2.2.2.1 hF.2.2.2.2.2.2.2.1 hM.1 (3 + k0) (gm_WM h0) rfl 1 (by decide) (va_Nw.use rfl (hF.2.2.2.2.2.2.2.2.1 _ (List.mem_of_getElem? (i := 3) rfl))) (fun _ h => h) rfl hdg kk
theorem gf_G_79 (hF : gm_F p s m args meth c "GearModules" cc nL ret D (gm_ty dk) A lt) (hM : gm_M D A s (gm_W dk a) u H locs) (hdg : decode cc pc = .ok (.getfield 79, 3)) (kk : W p l e R s m args below meth c H locs cells slots Q (F0 m (pc + 3) ls (.int (nI (u.2.2.1 0)) :: rest))) : W p l e R s m args below meth c H locs cells slots Q (F0 m pc ls (.ref (a (0)) :: rest)) :=
  va_get (C := R_G) (T := F_G) (N := 6) (ci := 0) (ref := "GearModules") hF.1 hF.2.1 hF.2.2.2.2.1 in_G hF.2.2.2.1 hF.2.2.2.2.2.2.2.1 hM.1 (0) rfl rfl 2 (by decide) (hF.2.2.2.2.1 _ (gm_in 102 (by decide +kernel) rfl)) (fun _ h => h) rfl hdg kk
theorem gf_G_15 (hF : gm_F p s m args meth c "GearModules" cc nL ret D (gm_ty dk) A lt) (hM : gm_M D A s (gm_W dk a) u H locs) (hdg : decode cc pc = .ok (.getfield 15, 3)) (kk : W p l e R s m args below meth c H locs cells slots Q (F0 m (pc + 3) ls (.ref (a 2) :: rest))) : W p l e R s m args below meth c H locs cells slots Q (F0 m pc ls (.ref (a (0)) :: rest)) :=
  va_get (C := R_G) (T := F_G) (N := 6) (ci := 0) (ref := "GearModules") hF.1 hF.2.1 hF.2.2.2.2.1 in_G hF.2.2.2.1 hF.2.2.2.2.2.2.2.1 hM.1 (0) rfl rfl 1 (by decide) (hF.2.2.2.2.1 _ (gm_in 101 (by decide +kernel) rfl)) (fun _ h => h) rfl hdg kk
theorem gf_G_84 (hF : gm_F p s m args meth c "GearModules" cc nL ret D (gm_ty dk) A lt) (hM : gm_M D A s (gm_W dk a) u H locs) (hdg : decode cc pc = .ok (.getfield 84, 3)) (kk : W p l e R s m args below meth c H locs cells slots Q (F0 m (pc + 3) ls (.int (nI (u.2.2.1 1)) :: rest))) : W p l e R s m args below meth c H locs cells slots Q (F0 m pc ls (.ref (a (0)) :: rest)) :=
  va_get (C := R_G) (T := F_G) (N := 6) (ci := 0) (ref := "GearModules") hF.1 hF.2.1 hF.2.2.2.2.1 in_G hF.2.2.2.1 hF.2.2.2.2.2.2.2.1 hM.1 (0) rfl rfl 3 (by decide) (hF.2.2.2.2.1 _ (gm_in 103 (by decide +kernel) rfl)) (fun _ h => h) rfl hdg kk
theorem gp_G_84 (hF : gm_F p s m args meth c "GearModules" cc nL ret D (gm_ty dk) A lt) (hM : gm_M D A s (gm_W dk a) u H locs) {x : Nat} {z : Int32} (hz : z = nI x) (hdg : decode cc pc = .ok (.putfield 84, 3)) (kk : ∀ (H1 : Heap) (locs1 : List Loc), gm_M D A s (gm_W dk a) (gm_sN u 1 x) H1 locs1 → W p l e R s m args below meth c H1 locs1 cells slots Q (F0 m (pc + 3) ls rest)) : W p l e R s m args below meth c H locs cells slots Q (F0 m pc ls (.int z :: .ref (a (0)) :: rest)) := by
  subst hz
  refine va_put (ty := .int) (C := R_G) (T := F_G) (N := 6) (ci := 0) (ref := "GearModules") hF.1 hF.2.1 hF.2.2.2.2.1 in_G t_G t_G_ok n_G hF.2.2.2.1 hF.2.2.2.2.2.2.2.1 hM.1 hM.2.1 hM.2.2 (0) rfl rfl 3 (by decide) (hF.2.2.2.2.1 _ (gm_in 103 (by decide +kernel) rfl)) (fun _ h => h) rfl (by decide +kernel) rfl rfl (Nat.le_of_ble_eq_true rfl) hdg (fun H1 locs1 hP hD hS => ?_)
  rw [gs_G_newest] at hP hD
  exact kk H1 locs1 ⟨hP, hD, hS⟩
theorem gp_G_79 (hF : gm_F p s m args meth c "GearModules" cc nL ret D (gm_ty dk) A lt) (hM : gm_M D A s (gm_W dk a) u H locs) {x : Nat} {z : Int32} (hz : z = nI x) (hdg : decode cc pc = .ok (.putfield 79, 3)) (kk : ∀ (H1 : Heap) (locs1 : List Loc), gm_M D A s (gm_W dk a) (gm_sN u 0 x) H1 locs1 → W p l e R s m args below meth c H1 locs1 cells slots Q (F0 m (pc + 3) ls rest)) : W p l e R s m args below meth c H locs cells slots Q (F0 m pc ls (.int z :: .ref (a (0)) :: rest)) := by
  subst hz
  refine va_put (ty := .int) (C := R_G) (T := F_G) (N := 6) (ci := 0) (ref := "GearModules") hF.1 hF.2.1 hF.2.2.2.2.1 in_G t_G t_G_ok n_G hF.2.2.2.1 hF.2.2.2.2.2.2.2.1 hM.1 hM.2.1 hM.2.2 (0) rfl rfl 2 (by decide) (hF.2.2.2.2.1 _ (gm_in 102 (by decide +kernel) rfl)) (fun _ h => h) rfl (by decide +kernel) rfl rfl (Nat.le_of_ble_eq_true rfl) hdg (fun H1 locs1 hP hD hS => ?_)
  rw [gs_G_kept] at hP hD
  exact kk H1 locs1 ⟨hP, hD, hS⟩
theorem gf_R_42 (hF : gm_F p s m args meth c "GearModulesModel" cc nL ret D (gm_ty dk) A lt) (hM : gm_M D A s (gr_W dk a) u H locs) (hdg : decode cc pc = .ok (.getfield 42, 3)) (kk : W p l e R s m args below meth c H locs cells slots Q (F0 m (pc + 3) ls (.int (gm_b (u.1 6 0)) :: rest))) : W p l e R s m args below meth c H locs cells slots Q (F0 m pc ls (.ref (a (0)) :: rest)) :=
  va_get (C := R_R) (T := F_R) (N := 14) (ci := 3) (ref := "GearModulesModel") hF.1 hF.2.1 hF.2.2.2.2.1 in_R hF.2.2.2.1 hF.2.2.2.2.2.2.2.1 hM.1 (0) rfl rfl 0 (by decide) (hF.2.2.2.2.1 _ (gm_in 310 (by decide +kernel) rfl)) (fun _ h => h) rfl hdg kk
theorem gp_R_42 (hF : gm_F p s m args meth c "GearModulesModel" cc nL ret D (gm_ty dk) A lt) (hM : gm_M D A s (gr_W dk a) u H locs) {x : Bool} {z : Int32} (hz : z = gm_b x) (hdg : decode cc pc = .ok (.putfield 42, 3)) (kk : ∀ (H1 : Heap) (locs1 : List Loc), gm_M D A s (gr_W dk a) (gm_sB u 6 0 x) H1 locs1 → W p l e R s m args below meth c H1 locs1 cells slots Q (F0 m (pc + 3) ls rest)) : W p l e R s m args below meth c H locs cells slots Q (F0 m pc ls (.int z :: .ref (a (0)) :: rest)) := by
  subst hz
  refine va_put (ty := .boolean) (C := R_R) (T := F_R) (N := 14) (ci := 3) (ref := "GearModulesModel") hF.1 hF.2.1 hF.2.2.2.2.1 in_R t_R t_R_ok n_R hF.2.2.2.1 hF.2.2.2.2.2.2.2.1 hM.1 hM.2.1 hM.2.2 (0) rfl rfl 0 (by decide) (hF.2.2.2.2.1 _ (gm_in 310 (by decide +kernel) rfl)) (fun _ h => h) rfl (by decide +kernel) (gm_nb x) (gm_fb x) (Nat.le_of_ble_eq_true rfl) hdg (fun H1 locs1 hP hD hS => ?_)
  rw [gs_R_down] at hP hD
  exact kk H1 locs1 ⟨hP, hD, hS⟩
theorem gf_R_7 (hF : gm_F p s m args meth c "GearModulesModel" cc nL ret D (gm_ty dk) A lt) (hM : gm_M D A s (gr_W dk a) u H locs) (hdg : decode cc pc = .ok (.getfield 7, 3)) (kk : W p l e R s m args below meth c H locs cells slots Q (F0 m (pc + 3) ls (.ref (a 1) :: rest))) : W p l e R s m args below meth c H locs cells slots Q (F0 m pc ls (.ref (a (0)) :: rest)) :=
  va_get (C := R_R) (T := F_R) (N := 14) (ci := 3) (ref := "GearModulesModel") hF.1 hF.2.1 hF.2.2.2.2.1 in_R hF.2.2.2.1 hF.2.2.2.2.2.2.2.1 hM.1 (0) rfl rfl 3 (by decide) (hF.2.2.2.2.1 _ (gm_in 313 (by decide +kernel) rfl)) (fun _ h => h) rfl hdg kk
theorem gf_R_29 (hF : gm_F p s m args meth c "GearModulesModel" cc nL ret D (gm_ty dk) A lt) (hM : gm_M D A s (gr_W dk a) u H locs) (hdg : decode cc pc = .ok (.getfield 29, 3)) (kk : W p l e R s m args below meth c H locs cells slots Q (F0 m (pc + 3) ls (.ref (a 7) :: rest))) : W p l e R s m args below meth c H locs cells slots Q (F0 m pc ls (.ref (a (0)) :: rest)) :=
  va_get (C := R_R) (T := F_R) (N := 14) (ci := 3) (ref := "GearModulesModel") hF.1 hF.2.1 hF.2.2.2.2.1 in_R hF.2.2.2.1 hF.2.2.2.2.2.2.2.1 hM.1 (0) rfl rfl 9 (by decide) (hF.2.2.2.2.1 _ (gm_in 319 (by decide +kernel) rfl)) (fun _ h => h) rfl hdg kk
theorem gf_R_32 (hF : gm_F p s m args meth c "GearModulesModel" cc nL ret D (gm_ty dk) A lt) (hM : gm_M D A s (gr_W dk a) u H locs) (hdg : decode cc pc = .ok (.getfield 32, 3)) (kk : W p l e R s m args below meth c H locs cells slots Q (F0 m (pc + 3) ls (.ref (a 8) :: rest))) : W p l e R s m args below meth c H locs cells slots Q (F0 m pc ls (.ref (a (0)) :: rest)) :=
  va_get (C := R_R) (T := F_R) (N := 14) (ci := 3) (ref := "GearModulesModel") hF.1 hF.2.1 hF.2.2.2.2.1 in_R hF.2.2.2.1 hF.2.2.2.2.2.2.2.1 hM.1 (0) rfl rfl 10 (by decide) (hF.2.2.2.2.1 _ (gm_in 320 (by decide +kernel) rfl)) (fun _ h => h) rfl hdg kk
theorem gf_R_46 (hF : gm_F p s m args meth c "GearModulesModel" cc nL ret D (gm_ty dk) A lt) (hM : gm_M D A s (gr_W dk a) u H locs) (hdg : decode cc pc = .ok (.getfield 46, 3)) (kk : W p l e R s m args below meth c H locs cells slots Q (F0 m (pc + 3) ls (.int (u.2.1 3 1) :: rest))) : W p l e R s m args below meth c H locs cells slots Q (F0 m pc ls (.ref (a (0)) :: rest)) :=
  va_get (C := R_R) (T := F_R) (N := 14) (ci := 3) (ref := "GearModulesModel") hF.1 hF.2.1 hF.2.2.2.2.1 in_R hF.2.2.2.1 hF.2.2.2.2.2.2.2.1 hM.1 (0) rfl rfl 2 (by decide) (hF.2.2.2.2.1 _ (gm_in 312 (by decide +kernel) rfl)) (fun _ h => h) rfl hdg kk
theorem gf_R_13 (hF : gm_F p s m args meth c "GearModulesModel" cc nL ret D (gm_ty dk) A lt) (hM : gm_M D A s (gr_W dk a) u H locs) (hdg : decode cc pc = .ok (.getfield 13, 3)) (kk : W p l e R s m args below meth c H locs cells slots Q (F0 m (pc + 3) ls (.ref (a 2) :: rest))) : W p l e R s m args below meth c H locs cells slots Q (F0 m pc ls (.ref (a (0)) :: rest)) :=
  va_get (C := R_R) (T := F_R) (N := 14) (ci := 3) (ref := "GearModulesModel") hF.1 hF.2.1 hF.2.2.2.2.1 in_R hF.2.2.2.1 hF.2.2.2.2.2.2.2.1 hM.1 (0) rfl rfl 4 (by decide) (hF.2.2.2.2.1 _ (gm_in 314 (by decide +kernel) rfl)) (fun _ h => h) rfl hdg kk
theorem gf_R_19 (hF : gm_F p s m args meth c "GearModulesModel" cc nL ret D (gm_ty dk) A lt) (hM : gm_M D A s (gr_W dk a) u H locs) (hdg : decode cc pc = .ok (.getfield 19, 3)) (kk : W p l e R s m args below meth c H locs cells slots Q (F0 m (pc + 3) ls (.ref (a 4) :: rest))) : W p l e R s m args below meth c H locs cells slots Q (F0 m pc ls (.ref (a (0)) :: rest)) :=
  va_get (C := R_R) (T := F_R) (N := 14) (ci := 3) (ref := "GearModulesModel") hF.1 hF.2.1 hF.2.2.2.2.1 in_R hF.2.2.2.1 hF.2.2.2.2.2.2.2.1 hM.1 (0) rfl rfl 6 (by decide) (hF.2.2.2.2.1 _ (gm_in 316 (by decide +kernel) rfl)) (fun _ h => h) rfl hdg kk
theorem gf_R_16 (hF : gm_F p s m args meth c "GearModulesModel" cc nL ret D (gm_ty dk) A lt) (hM : gm_M D A s (gr_W dk a) u H locs) (hdg : decode cc pc = .ok (.getfield 16, 3)) (kk : W p l e R s m args below meth c H locs cells slots Q (F0 m (pc + 3) ls (.ref (a 3) :: rest))) : W p l e R s m args below meth c H locs cells slots Q (F0 m pc ls (.ref (a (0)) :: rest)) :=
  va_get (C := R_R) (T := F_R) (N := 14) (ci := 3) (ref := "GearModulesModel") hF.1 hF.2.1 hF.2.2.2.2.1 in_R hF.2.2.2.1 hF.2.2.2.2.2.2.2.1 hM.1 (0) rfl rfl 5 (by decide) (hF.2.2.2.2.1 _ (gm_in 315 (by decide +kernel) rfl)) (fun _ h => h) rfl hdg kk
theorem gf_R_35 (hF : gm_F p s m args meth c "GearModulesModel" cc nL ret D (gm_ty dk) A lt) (hM : gm_M D A s (gr_W dk a) u H locs) (hdg : decode cc pc = .ok (.getfield 35, 3)) (kk : W p l e R s m args below meth c H locs cells slots Q (F0 m (pc + 3) ls (.ref (a 9) :: rest))) : W p l e R s m args below meth c H locs cells slots Q (F0 m pc ls (.ref (a (0)) :: rest)) :=
  va_get (C := R_R) (T := F_R) (N := 14) (ci := 3) (ref := "GearModulesModel") hF.1 hF.2.1 hF.2.2.2.2.1 in_R hF.2.2.2.1 hF.2.2.2.2.2.2.2.1 hM.1 (0) rfl rfl 11 (by decide) (hF.2.2.2.2.1 _ (gm_in 321 (by decide +kernel) rfl)) (fun _ h => h) rfl hdg kk
theorem gf_R_22 (hF : gm_F p s m args meth c "GearModulesModel" cc nL ret D (gm_ty dk) A lt) (hM : gm_M D A s (gr_W dk a) u H locs) (hdg : decode cc pc = .ok (.getfield 22, 3)) (kk : W p l e R s m args below meth c H locs cells slots Q (F0 m (pc + 3) ls (.ref (a 5) :: rest))) : W p l e R s m args below meth c H locs cells slots Q (F0 m pc ls (.ref (a (0)) :: rest)) :=
  va_get (C := R_R) (T := F_R) (N := 14) (ci := 3) (ref := "GearModulesModel") hF.1 hF.2.1 hF.2.2.2.2.1 in_R hF.2.2.2.1 hF.2.2.2.2.2.2.2.1 hM.1 (0) rfl rfl 7 (by decide) (hF.2.2.2.2.1 _ (gm_in 317 (by decide +kernel) rfl)) (fun _ h => h) rfl hdg kk
theorem gf_R_38 (hF : gm_F p s m args meth c "GearModulesModel" cc nL ret D (gm_ty dk) A lt) (hM : gm_M D A s (gr_W dk a) u H locs) (hdg : decode cc pc = .ok (.getfield 38, 3)) (kk : W p l e R s m args below meth c H locs cells slots Q (F0 m (pc + 3) ls (.ref (a 10) :: rest))) : W p l e R s m args below meth c H locs cells slots Q (F0 m pc ls (.ref (a (0)) :: rest)) :=
  va_get (C := R_R) (T := F_R) (N := 14) (ci := 3) (ref := "GearModulesModel") hF.1 hF.2.1 hF.2.2.2.2.1 in_R hF.2.2.2.1 hF.2.2.2.2.2.2.2.1 hM.1 (0) rfl rfl 13 (by decide) (hF.2.2.2.2.1 _ (gm_in 323 (by decide +kernel) rfl)) (fun _ h => h) rfl hdg kk
theorem gf_R_77 (hF : gm_F p s m args meth c "GearModulesModel" cc nL ret D (gm_ty dk) A lt) (hM : gm_M D A s (gr_W dk a) u H locs) (hdg : decode cc pc = .ok (.getfield 77, 3)) (kk : W p l e R s m args below meth c H locs cells slots Q (F0 m (pc + 3) ls (.int (nI (u.2.2.1 0)) :: rest))) : W p l e R s m args below meth c H locs cells slots Q (F0 m pc ls (.ref (a (0)) :: rest)) :=
  va_get (C := R_R) (T := F_R) (N := 14) (ci := 3) (ref := "GearModulesModel") hF.1 hF.2.1 hF.2.2.2.2.1 in_R hF.2.2.2.1 hF.2.2.2.2.2.2.2.1 hM.1 (0) rfl rfl 12 (by decide) (hF.2.2.2.2.1 _ (gm_in 322 (by decide +kernel) rfl)) (fun _ h => h) rfl hdg kk
theorem gf_R_80 (hF : gm_F p s m args meth c "GearModulesModel" cc nL ret D (gm_ty dk) A lt) (hM : gm_M D A s (gr_W dk a) u H locs) (hdg : decode cc pc = .ok (.getfield 80, 3)) (kk : W p l e R s m args below meth c H locs cells slots Q (F0 m (pc + 3) ls (.int (u.2.1 3 0) :: rest))) : W p l e R s m args below meth c H locs cells slots Q (F0 m pc ls (.ref (a (0)) :: rest)) :=
  va_get (C := R_R) (T := F_R) (N := 14) (ci := 3) (ref := "GearModulesModel") hF.1 hF.2.1 hF.2.2.2.2.1 in_R hF.2.2.2.1 hF.2.2.2.2.2.2.2.1 hM.1 (0) rfl rfl 1 (by decide) (hF.2.2.2.2.1 _ (gm_in 311 (by decide +kernel) rfl)) (fun _ h => h) rfl hdg kk
theorem gp_R_77 (hF : gm_F p s m args meth c "GearModulesModel" cc nL ret D (gm_ty dk) A lt) (hM : gm_M D A s (gr_W dk a) u H locs) {x : Nat} {z : Int32} (hz : z = nI x) (hdg : decode cc pc = .ok (.putfield 77, 3)) (kk : ∀ (H1 : Heap) (locs1 : List Loc), gm_M D A s (gr_W dk a) (gm_sN u 0 x) H1 locs1 → W p l e R s m args below meth c H1 locs1 cells slots Q (F0 m (pc + 3) ls rest)) : W p l e R s m args below meth c H locs cells slots Q (F0 m pc ls (.int z :: .ref (a (0)) :: rest)) := by
  subst hz
  refine va_put (ty := .int) (C := R_R) (T := F_R) (N := 14) (ci := 3) (ref := "GearModulesModel") hF.1 hF.2.1 hF.2.2.2.2.1 in_R t_R t_R_ok n_R hF.2.2.2.1 hF.2.2.2.2.2.2.2.1 hM.1 hM.2.1 hM.2.2 (0) rfl rfl 12 (by decide) (hF.2.2.2.2.1 _ (gm_in 322 (by decide +kernel) rfl)) (fun _ h => h) rfl (by decide +kernel) rfl rfl (Nat.le_of_ble_eq_true rfl) hdg (fun H1 locs1 hP hD hS => ?_)
  rw [gs_R_written] at hP hD
  exact kk H1 locs1 ⟨hP, hD, hS⟩
theorem gf_R_25 (hF : gm_F p s m args meth c "GearModulesModel" cc nL ret D (gm_ty dk) A lt) (hM : gm_M D A s (gr_W dk a) u H locs) (hdg : decode cc pc = .ok (.getfield 25, 3)) (kk : W p l e R s m args below meth c H locs cells slots Q (F0 m (pc + 3) ls (.ref (a 6) :: rest))) : W p l e R s m args below meth c H locs cells slots Q (F0 m pc ls (.ref (a (0)) :: rest)) :=
  va_get (C := R_R) (T := F_R) (N := 14) (ci := 3) (ref := "GearModulesModel") hF.1 hF.2.1 hF.2.2.2.2.1 in_R hF.2.2.2.1 hF.2.2.2.2.2.2.2.1 hM.1 (0) rfl rfl 8 (by decide) (hF.2.2.2.2.1 _ (gm_in 318 (by decide +kernel) rfl)) (fun _ h => h) rfl hdg kk
theorem gp_R_46 (hF : gm_F p s m args meth c "GearModulesModel" cc nL ret D (gm_ty dk) A lt) (hM : gm_M D A s (gr_W dk a) u H locs) {z : Int32} (hdg : decode cc pc = .ok (.putfield 46, 3)) (kk : ∀ (H1 : Heap) (locs1 : List Loc), gm_M D A s (gr_W dk a) (gm_sG u 3 1 z) H1 locs1 → W p l e R s m args below meth c H1 locs1 cells slots Q (F0 m (pc + 3) ls rest)) : W p l e R s m args below meth c H locs cells slots Q (F0 m pc ls (.int z :: .ref (a (0)) :: rest)) := by
  refine va_put (ty := .int) (C := R_R) (T := F_R) (N := 14) (ci := 3) (ref := "GearModulesModel") hF.1 hF.2.1 hF.2.2.2.2.1 in_R t_R t_R_ok n_R hF.2.2.2.1 hF.2.2.2.2.2.2.2.1 hM.1 hM.2.1 hM.2.2 (0) rfl rfl 2 (by decide) (hF.2.2.2.2.1 _ (gm_in 312 (by decide +kernel) rfl)) (fun _ h => h) rfl (by decide +kernel) rfl rfl (Nat.le_of_ble_eq_true rfl) hdg (fun H1 locs1 hP hD hS => ?_)
  rw [gs_R_channels] at hP hD
  exact kk H1 locs1 ⟨hP, hD, hS⟩
theorem gp_R_80 (hF : gm_F p s m args meth c "GearModulesModel" cc nL ret D (gm_ty dk) A lt) (hM : gm_M D A s (gr_W dk a) u H locs) {z : Int32} (hdg : decode cc pc = .ok (.putfield 80, 3)) (kk : ∀ (H1 : Heap) (locs1 : List Loc), gm_M D A s (gr_W dk a) (gm_sG u 3 0 z) H1 locs1 → W p l e R s m args below meth c H1 locs1 cells slots Q (F0 m (pc + 3) ls rest)) : W p l e R s m args below meth c H locs cells slots Q (F0 m pc ls (.int z :: .ref (a (0)) :: rest)) := by
  refine va_put (ty := .int) (C := R_R) (T := F_R) (N := 14) (ci := 3) (ref := "GearModulesModel") hF.1 hF.2.1 hF.2.2.2.2.1 in_R t_R t_R_ok n_R hF.2.2.2.1 hF.2.2.2.2.2.2.2.1 hM.1 hM.2.1 hM.2.2 (0) rfl rfl 1 (by decide) (hF.2.2.2.2.1 _ (gm_in 311 (by decide +kernel) rfl)) (fun _ h => h) rfl (by decide +kernel) rfl rfl (Nat.le_of_ble_eq_true rfl) hdg (fun H1 locs1 hP hD hS => ?_)
  rw [gs_R_time] at hP hD
  exact kk H1 locs1 ⟨hP, hD, hS⟩
theorem gf_M_11 (hF : gm_F p s m args meth c "GearModules$OneModule" cc nL ret D (gm_ty dk) A lt) (hM : gm_M D A s (gm_W dk a) u H locs) (h0 : k0 < 2) (hdg : decode cc pc = .ok (.getfield 11, 3)) (kk : W p l e R s m args below meth c H locs cells slots Q (F0 m (pc + 3) ls (.ref (a (5 + k0)) :: rest))) : W p l e R s m args below meth c H locs cells slots Q (F0 m pc ls (.ref (a (3 + k0)) :: rest)) :=
  va_get (C := R_M) (T := F_M) (N := 8) (ci := 1) (ref := "GearModules$OneModule") hF.1 hF.2.1 hF.2.2.2.2.1 in_M hF.2.2.2.1 hF.2.2.2.2.2.2.2.1 hM.1 (3 + k0) (gm_WM h0) rfl 0 (by decide) (hF.2.2.2.2.1 _ (gm_in 70 (by decide +kernel) rfl)) (fun _ h => h) rfl hdg kk
theorem gf_M_17 (hF : gm_F p s m args meth c "GearModules$OneModule" cc nL ret D (gm_ty dk) A lt) (hM : gm_M D A s (gm_W dk a) u H locs) (h0 : k0 < 2) (hdg : decode cc pc = .ok (.getfield 17, 3)) (kk : W p l e R s m args below meth c H locs cells slots Q (F0 m (pc + 3) ls (.ref (a (7 + k0)) :: rest))) : W p l e R s m args below meth c H locs cells slots Q (F0 m pc ls (.ref (a (3 + k0)) :: rest)) :=
  va_get (C := R_M) (T := F_M) (N := 8) (ci := 1) (ref := "GearModules$OneModule") hF.1 hF.2.1 hF.2.2.2.2.1 in_M hF.2.2.2.1 hF.2.2.2.2.2.2.2.1 hM.1 (3 + k0) (gm_WM h0) rfl 1 (by decide) (hF.2.2.2.2.1 _ (gm_in 72 (by decide +kernel) rfl)) (fun _ h => h) rfl hdg kk
theorem gp_M_21 (hF : gm_F p s m args meth c "GearModules$OneModule" cc nL ret D (gm_ty dk) A lt) (hM : gm_M D A s (gm_W dk a) u H locs) (h0 : k0 < 2) {x : Bool} {z : Int32} (hz : z = gm_b x) (hdg : decode cc pc = .ok (.putfield 21, 3)) (kk : ∀ (H1 : Heap) (locs1 : List Loc), gm_M D A s (gm_W dk a) (gm_sB u 2 k0 x) H1 locs1 → W p l e R s m args below meth c H1 locs1 cells slots Q (F0 m (pc + 3) ls rest)) : W p l e R s m args below meth c H locs cells slots Q (F0 m pc ls (.int z :: .ref (a (3 + k0)) :: rest)) := by
  subst hz
  refine va_put (ty := .boolean) (C := R_M) (T := F_M) (N := 8) (ci := 1) (ref := "GearModules$OneModule") hF.1 hF.2.1 hF.2.2.2.2.1 in_M t_M t_M_ok n_M hF.2.2.2.1 hF.2.2.2.2.2.2.2.1 hM.1 hM.2.1 hM.2.2 (3 + k0) (gm_WM h0) rfl 2 (by decide) (hF.2.2.2.2.1 _ (gm_in 74 (by decide +kernel) rfl)) (fun _ h => h) rfl (by decide +kernel) (gm_nb x) (gm_fb x) (Nat.le_of_ble_eq_true rfl) hdg (fun H1 locs1 hP hD hS => ?_)
  rw [gs_M_working h0] at hP hD
  exact kk H1 locs1 ⟨hP, hD, hS⟩
theorem gp_M_29 (hF : gm_F p s m args meth c "GearModules$OneModule" cc nL ret D (gm_ty dk) A lt) (hM : gm_M D A s (gm_W dk a) u H locs) (h0 : k0 < 2) {x : Bool} {z : Int32} (hz : z = gm_b x) (hdg : decode cc pc = .ok (.putfield 29, 3)) (kk : ∀ (H1 : Heap) (locs1 : List Loc), gm_M D A s (gm_W dk a) (gm_sB u 3 k0 x) H1 locs1 → W p l e R s m args below meth c H1 locs1 cells slots Q (F0 m (pc + 3) ls rest)) : W p l e R s m args below meth c H locs cells slots Q (F0 m pc ls (.int z :: .ref (a (3 + k0)) :: rest)) := by
  subst hz
  refine va_put (ty := .boolean) (C := R_M) (T := F_M) (N := 8) (ci := 1) (ref := "GearModules$OneModule") hF.1 hF.2.1 hF.2.2.2.2.1 in_M t_M t_M_ok n_M hF.2.2.2.1 hF.2.2.2.2.2.2.2.1 hM.1 hM.2.1 hM.2.2 (3 + k0) (gm_WM h0) rfl 3 (by decide) (hF.2.2.2.2.1 _ (gm_in 76 (by decide +kernel) rfl)) (fun _ h => h) rfl (by decide +kernel) (gm_nb x) (gm_fb x) (Nat.le_of_ble_eq_true rfl) hdg (fun H1 locs1 hP hD hS => ?_)
  rw [gs_M_waiting h0] at hP hD
  exact kk H1 locs1 ⟨hP, hD, hS⟩
theorem gp_M_32 (hF : gm_F p s m args meth c "GearModules$OneModule" cc nL ret D (gm_ty dk) A lt) (hM : gm_M D A s (gm_W dk a) u H locs) (h0 : k0 < 2) {x : Bool} {z : Int32} (hz : z = gm_b x) (hdg : decode cc pc = .ok (.putfield 32, 3)) (kk : ∀ (H1 : Heap) (locs1 : List Loc), gm_M D A s (gm_W dk a) (gm_sB u 4 k0 x) H1 locs1 → W p l e R s m args below meth c H1 locs1 cells slots Q (F0 m (pc + 3) ls rest)) : W p l e R s m args below meth c H locs cells slots Q (F0 m pc ls (.int z :: .ref (a (3 + k0)) :: rest)) := by
  subst hz
  refine va_put (ty := .boolean) (C := R_M) (T := F_M) (N := 8) (ci := 1) (ref := "GearModules$OneModule") hF.1 hF.2.1 hF.2.2.2.2.1 in_M t_M t_M_ok n_M hF.2.2.2.1 hF.2.2.2.2.2.2.2.1 hM.1 hM.2.1 hM.2.2 (3 + k0) (gm_WM h0) rfl 4 (by decide) (hF.2.2.2.2.1 _ (gm_in 77 (by decide +kernel) rfl)) (fun _ h => h) rfl (by decide +kernel) (gm_nb x) (gm_fb x) (Nat.le_of_ble_eq_true rfl) hdg (fun H1 locs1 hP hD hS => ?_)
  rw [gs_M_generalWasOn h0] at hP hD
  exact kk H1 locs1 ⟨hP, hD, hS⟩
theorem gp_M_35 (hF : gm_F p s m args meth c "GearModules$OneModule" cc nL ret D (gm_ty dk) A lt) (hM : gm_M D A s (gm_W dk a) u H locs) (h0 : k0 < 2) {z : Int32} (hdg : decode cc pc = .ok (.putfield 35, 3)) (kk : ∀ (H1 : Heap) (locs1 : List Loc), gm_M D A s (gm_W dk a) (gm_sG u 3 k0 z) H1 locs1 → W p l e R s m args below meth c H1 locs1 cells slots Q (F0 m (pc + 3) ls rest)) : W p l e R s m args below meth c H locs cells slots Q (F0 m pc ls (.int z :: .ref (a (3 + k0)) :: rest)) := by
  refine va_put (ty := .int) (C := R_M) (T := F_M) (N := 8) (ci := 1) (ref := "GearModules$OneModule") hF.1 hF.2.1 hF.2.2.2.2.1 in_M t_M t_M_ok n_M hF.2.2.2.1 hF.2.2.2.2.2.2.2.1 hM.1 hM.2.1 hM.2.2 (3 + k0) (gm_WM h0) rfl 5 (by decide) (hF.2.2.2.2.1 _ (gm_in 78 (by decide +kernel) rfl)) (fun _ h => h) rfl (by decide +kernel) rfl rfl (Nat.le_of_ble_eq_true rfl) hdg (fun H1 locs1 hP hD hS => ?_)
  rw [gs_M_valvesOn h0] at hP hD
  exact kk H1 locs1 ⟨hP, hD, hS⟩
theorem gp_M_39 (hF : gm_F p s m args meth c "GearModules$OneModule" cc nL ret D (gm_ty dk) A lt) (hM : gm_M D A s (gm_W dk a) u H locs) (h0 : k0 < 2) {z : Int32} (hdg : decode cc pc = .ok (.putfield 39, 3)) (kk : ∀ (H1 : Heap) (locs1 : List Loc), gm_M D A s (gm_W dk a) (gm_sG u 4 k0 z) H1 locs1 → W p l e R s m args below meth c H1 locs1 cells slots Q (F0 m (pc + 3) ls rest)) : W p l e R s m args below meth c H locs cells slots Q (F0 m pc ls (.int z :: .ref (a (3 + k0)) :: rest)) := by
  refine va_put (ty := .int) (C := R_M) (T := F_M) (N := 8) (ci := 1) (ref := "GearModules$OneModule") hF.1 hF.2.1 hF.2.2.2.2.1 in_M t_M t_M_ok n_M hF.2.2.2.1 hF.2.2.2.2.2.2.2.1 hM.1 hM.2.1 hM.2.2 (3 + k0) (gm_WM h0) rfl 6 (by decide) (hF.2.2.2.2.1 _ (gm_in 80 (by decide +kernel) rfl)) (fun _ h => h) rfl (by decide +kernel) rfl rfl (Nat.le_of_ble_eq_true rfl) hdg (fun H1 locs1 hP hD hS => ?_)
  rw [gs_M_generalStays h0] at hP hD
  exact kk H1 locs1 ⟨hP, hD, hS⟩
theorem gp_M_42 (hF : gm_F p s m args meth c "GearModules$OneModule" cc nL ret D (gm_ty dk) A lt) (hM : gm_M D A s (gm_W dk a) u H locs) (h0 : k0 < 2) {z : Int32} (hdg : decode cc pc = .ok (.putfield 42, 3)) (kk : ∀ (H1 : Heap) (locs1 : List Loc), gm_M D A s (gm_W dk a) (gm_sG u 5 k0 z) H1 locs1 → W p l e R s m args below meth c H1 locs1 cells slots Q (F0 m (pc + 3) ls rest)) : W p l e R s m args below meth c H locs cells slots Q (F0 m pc ls (.int z :: .ref (a (3 + k0)) :: rest)) := by
  refine va_put (ty := .int) (C := R_M) (T := F_M) (N := 8) (ci := 1) (ref := "GearModules$OneModule") hF.1 hF.2.1 hF.2.2.2.2.1 in_M t_M t_M_ok n_M hF.2.2.2.1 hF.2.2.2.2.2.2.2.1 hM.1 hM.2.1 hM.2.2 (3 + k0) (gm_WM h0) rfl 7 (by decide) (hF.2.2.2.2.1 _ (gm_in 81 (by decide +kernel) rfl)) (fun _ h => h) rfl (by decide +kernel) rfl rfl (Nat.le_of_ble_eq_true rfl) hdg (fun H1 locs1 hP hD hS => ?_)
  rw [gs_M_found h0] at hP hD
  exact kk H1 locs1 ⟨hP, hD, hS⟩
theorem gf_M_21 (hF : gm_F p s m args meth c "GearModules$OneModule" cc nL ret D (gm_ty dk) A lt) (hM : gm_M D A s (gm_W dk a) u H locs) (h0 : k0 < 2) (hdg : decode cc pc = .ok (.getfield 21, 3)) (kk : W p l e R s m args below meth c H locs cells slots Q (F0 m (pc + 3) ls (.int (gm_b (u.1 2 k0)) :: rest))) : W p l e R s m args below meth c H locs cells slots Q (F0 m pc ls (.ref (a (3 + k0)) :: rest)) :=
  va_get (C := R_M) (T := F_M) (N := 8) (ci := 1) (ref := "GearModules$OneModule") hF.1 hF.2.1 hF.2.2.2.2.1 in_M hF.2.2.2.1 hF.2.2.2.2.2.2.2.1 hM.1 (3 + k0) (gm_WM h0) rfl 2 (by decide) (hF.2.2.2.2.1 _ (gm_in 74 (by decide +kernel) rfl)) (fun _ h => h) rfl hdg kk
theorem gf_M_42 (hF : gm_F p s m args meth c "GearModules$OneModule" cc nL ret D (gm_ty dk) A lt) (hM : gm_M D A s (gm_W dk a) u H locs) (h0 : k0 < 2) (hdg : decode cc pc = .ok (.getfield 42, 3)) (kk : W p l e R s m args below meth c H locs cells slots Q (F0 m (pc + 3) ls (.int (u.2.1 5 k0) :: rest))) : W p l e R s m args below meth c H locs cells slots Q (F0 m pc ls (.ref (a (3 + k0)) :: rest)) :=
  va_get (C := R_M) (T := F_M) (N := 8) (ci := 1) (ref := "GearModules$OneModule") hF.1 hF.2.1 hF.2.2.2.2.1 in_M hF.2.2.2.1 hF.2.2.2.2.2.2.2.1 hM.1 (3 + k0) (gm_WM h0) rfl 7 (by decide) (hF.2.2.2.2.1 _ (gm_in 81 (by decide +kernel) rfl)) (fun _ h => h) rfl hdg kk
theorem gf_M_35 (hF : gm_F p s m args meth c "GearModules$OneModule" cc nL ret D (gm_ty dk) A lt) (hM : gm_M D A s (gm_W dk a) u H locs) (h0 : k0 < 2) (hdg : decode cc pc = .ok (.getfield 35, 3)) (kk : W p l e R s m args below meth c H locs cells slots Q (F0 m (pc + 3) ls (.int (u.2.1 3 k0) :: rest))) : W p l e R s m args below meth c H locs cells slots Q (F0 m pc ls (.ref (a (3 + k0)) :: rest)) :=
  va_get (C := R_M) (T := F_M) (N := 8) (ci := 1) (ref := "GearModules$OneModule") hF.1 hF.2.1 hF.2.2.2.2.1 in_M hF.2.2.2.1 hF.2.2.2.2.2.2.2.1 hM.1 (3 + k0) (gm_WM h0) rfl 5 (by decide) (hF.2.2.2.2.1 _ (gm_in 78 (by decide +kernel) rfl)) (fun _ h => h) rfl hdg kk
theorem gf_M_39 (hF : gm_F p s m args meth c "GearModules$OneModule" cc nL ret D (gm_ty dk) A lt) (hM : gm_M D A s (gm_W dk a) u H locs) (h0 : k0 < 2) (hdg : decode cc pc = .ok (.getfield 39, 3)) (kk : W p l e R s m args below meth c H locs cells slots Q (F0 m (pc + 3) ls (.int (u.2.1 4 k0) :: rest))) : W p l e R s m args below meth c H locs cells slots Q (F0 m pc ls (.ref (a (3 + k0)) :: rest)) :=
  va_get (C := R_M) (T := F_M) (N := 8) (ci := 1) (ref := "GearModules$OneModule") hF.1 hF.2.1 hF.2.2.2.2.1 in_M hF.2.2.2.1 hF.2.2.2.2.2.2.2.1 hM.1 (3 + k0) (gm_WM h0) rfl 6 (by decide) (hF.2.2.2.2.1 _ (gm_in 80 (by decide +kernel) rfl)) (fun _ h => h) rfl hdg kk
theorem gf_M_32 (hF : gm_F p s m args meth c "GearModules$OneModule" cc nL ret D (gm_ty dk) A lt) (hM : gm_M D A s (gm_W dk a) u H locs) (h0 : k0 < 2) (hdg : decode cc pc = .ok (.getfield 32, 3)) (kk : W p l e R s m args below meth c H locs cells slots Q (F0 m (pc + 3) ls (.int (gm_b (u.1 4 k0)) :: rest))) : W p l e R s m args below meth c H locs cells slots Q (F0 m pc ls (.ref (a (3 + k0)) :: rest)) :=
  va_get (C := R_M) (T := F_M) (N := 8) (ci := 1) (ref := "GearModules$OneModule") hF.1 hF.2.1 hF.2.2.2.2.1 in_M hF.2.2.2.1 hF.2.2.2.2.2.2.2.1 hM.1 (3 + k0) (gm_WM h0) rfl 4 (by decide) (hF.2.2.2.2.1 _ (gm_in 77 (by decide +kernel) rfl)) (fun _ h => h) rfl hdg kk
theorem gf_M_93 {Wd : gm_St → va_W} (hF : gm_F p s m args meth c "GearModules$OneModule" cc nL ret D (gm_ty dk) A lt) (hM : gm_M D A s Wd u H locs) (hdg : decode cc pc = .ok (.getstatic 93, 3)) (kk : W p l e R s m args below meth c H locs cells slots Q (F0 m (pc + 3) ls (.ref lt :: rest))) : W p l e R s m args below meth c H locs cells slots Q (F0 m pc ls rest) :=
  va_getsN (C := "GearModules") (n := "LIMITS") (d := "[I") (ref := "GearModules") hF.1 hF.2.1 hF.2.2.2.2.2.2.2.2.2.2.1 hM.2.2 hF.2.2.2.1 (va_Nw.use rfl (hF.2.2.2.2.2.2.2.2.1 _ (List.mem_of_getElem? (i := 7) rfl))) (fun _ h => h) hdg kk
theorem gf_M_29 (hF : gm_F p s m args meth c "GearModules$OneModule" cc nL ret D (gm_ty dk) A lt) (hM : gm_M D A s (gm_W dk a) u H locs) (h0 : k0 < 2) (hdg : decode cc pc = .ok (.getfield 29, 3)) (kk : W p l e R s m args below meth c H locs cells slots Q (F0 m (pc + 3) ls (.int (gm_b (u.1 3 k0)) :: rest))) : W p l e R s m args below meth c H locs cells slots Q (F0 m pc ls (.ref (a (3 + k0)) :: rest)) :=
  va_get (C := R_M) (T := F_M) (N := 8) (ci := 1) (ref := "GearModules$OneModule") hF.1 hF.2.1 hF.2.2.2.2.1 in_M hF.2.2.2.1 hF.2.2.2.2.2.2.2.1 hM.1 (3 + k0) (gm_WM h0) rfl 3 (by decide) (hF.2.2.2.2.1 _ (gm_in 76 (by decide +kernel) rfl)) (fun _ h => h) rfl hdg kk
theorem gf_M_102 (hF : gm_F p s m args meth c "GearModules$OneModule" cc nL ret D (gm_ty dk) A lt) (hM : gm_M D A s (gm_W dk a) u H locs) (h0 : k0 < 12) (hdg : decode cc pc = .ok (.getfield 102, 3)) (kk : W p l e R s m args below meth c H locs cells slots Q (F0 m (pc + 3) ls (.int (gm_b (u.1 0 k0)) :: rest))) : W p l e R s m args below meth c H locs cells slots Q (F0 m pc ls (.ref (a (9 + k0)) :: rest)) :=
  va_getN (C := R_S) (T := F_S) (N := 3) (ci := 2) (ref := "GearModules$Sensor") hF.1 hF.2.1 hF.2.2.2.2.1 in_S hF.2.2.2.1 hF.2.2.2.2.2.2.2.1 hM.1 (9 + k0) (gm_WS h0) rfl 0 (by decide) (va_Nw.use rfl (hF.2.2.2.2.2.2.2.2.1 _ (List.mem_of_getElem? (i := 0) rfl))) (fun _ h => h) rfl hdg kk
theorem gf_M_105 (hF : gm_F p s m args meth c "GearModules$OneModule" cc nL ret D (gm_ty dk) A lt) (hM : gm_M D A s (gm_W dk a) u H locs) (h0 : k0 < 12) (hdg : decode cc pc = .ok (.getfield 105, 3)) (kk : W p l e R s m args below meth c H locs cells slots Q (F0 m (pc + 3) ls (.int (gm_b (u.1 1 k0)) :: rest))) : W p l e R s m args below meth c H locs cells slots Q (F0 m pc ls (.ref (a (9 + k0)) :: rest)) :=
  va_getN (C := R_S) (T := F_S) (N := 3) (ci := 2) (ref := "GearModules$Sensor") hF.1 hF.2.1 hF.2.2.2.2.1 in_S hF.2.2.2.1 hF.2.2.2.2.2.2.2.1 hM.1 (9 + k0) (gm_WS h0) rfl 1 (by decide) (va_Nw.use rfl (hF.2.2.2.2.2.2.2.2.1 _ (List.mem_of_getElem? (i := 1) rfl))) (fun _ h => h) rfl hdg kk
theorem gp_S_15 (hF : gm_F p s m args meth c "GearModules$Sensor" cc nL ret D (gm_ty dk) A lt) (hM : gm_M D A s (gm_W dk a) u H locs) (h0 : k0 < 12) {x : Bool} {z : Int32} (hz : z = gm_b x) (hdg : decode cc pc = .ok (.putfield 15, 3)) (kk : ∀ (H1 : Heap) (locs1 : List Loc), gm_M D A s (gm_W dk a) (gm_sB u 0 k0 x) H1 locs1 → W p l e R s m args below meth c H1 locs1 cells slots Q (F0 m (pc + 3) ls rest)) : W p l e R s m args below meth c H locs cells slots Q (F0 m pc ls (.int z :: .ref (a (9 + k0)) :: rest)) := by
  subst hz
  refine va_put (ty := .boolean) (C := R_S) (T := F_S) (N := 3) (ci := 2) (ref := "GearModules$Sensor") hF.1 hF.2.1 hF.2.2.2.2.1 in_S t_S t_S_ok n_S hF.2.2.2.1 hF.2.2.2.2.2.2.2.1 hM.1 hM.2.1 hM.2.2 (9 + k0) (gm_WS h0) rfl 0 (by decide) (hF.2.2.2.2.1 _ (gm_in 56 (by decide +kernel) rfl)) (fun _ h => h) rfl (by decide +kernel) (gm_nb x) (gm_fb x) (Nat.le_of_ble_eq_true rfl) hdg (fun H1 locs1 hP hD hS => ?_)
  rw [gs_S_on h0] at hP hD
  exact kk H1 locs1 ⟨hP, hD, hS⟩
theorem gp_S_19 (hF : gm_F p s m args meth c "GearModules$Sensor" cc nL ret D (gm_ty dk) A lt) (hM : gm_M D A s (gm_W dk a) u H locs) (h0 : k0 < 12) {x : Bool} {z : Int32} (hz : z = gm_b x) (hdg : decode cc pc = .ok (.putfield 19, 3)) (kk : ∀ (H1 : Heap) (locs1 : List Loc), gm_M D A s (gm_W dk a) (gm_sB u 1 k0 x) H1 locs1 → W p l e R s m args below meth c H1 locs1 cells slots Q (F0 m (pc + 3) ls rest)) : W p l e R s m args below meth c H locs cells slots Q (F0 m pc ls (.int z :: .ref (a (9 + k0)) :: rest)) := by
  subst hz
  refine va_put (ty := .boolean) (C := R_S) (T := F_S) (N := 3) (ci := 2) (ref := "GearModules$Sensor") hF.1 hF.2.1 hF.2.2.2.2.1 in_S t_S t_S_ok n_S hF.2.2.2.1 hF.2.2.2.2.2.2.2.1 hM.1 hM.2.1 hM.2.2 (9 + k0) (gm_WS h0) rfl 1 (by decide) (hF.2.2.2.2.1 _ (gm_in 58 (by decide +kernel) rfl)) (fun _ h => h) rfl (by decide +kernel) (gm_nb x) (gm_fb x) (Nat.le_of_ble_eq_true rfl) hdg (fun H1 locs1 hP hD hS => ?_)
  rw [gs_S_broken h0] at hP hD
  exact kk H1 locs1 ⟨hP, hD, hS⟩
theorem gp_S_9 (hF : gm_F p s m args meth c "GearModules$Sensor" cc nL ret D (gm_ty dk) A lt) (hM : gm_M D A s (gm_W dk a) u H locs) (h0 : k0 < 12) {z : Int32} (hdg : decode cc pc = .ok (.putfield 9, 3)) (kk : ∀ (H1 : Heap) (locs1 : List Loc), gm_M D A s (gm_W dk a) (gm_sG u 0 k0 z) H1 locs1 → W p l e R s m args below meth c H1 locs1 cells slots Q (F0 m (pc + 3) ls rest)) : W p l e R s m args below meth c H locs cells slots Q (F0 m pc ls (.int z :: .ref (a (9 + k0)) :: rest)) := by
  refine va_put (ty := .int) (C := R_S) (T := F_S) (N := 3) (ci := 2) (ref := "GearModules$Sensor") hF.1 hF.2.1 hF.2.2.2.2.1 in_S t_S t_S_ok n_S hF.2.2.2.1 hF.2.2.2.2.2.2.2.1 hM.1 hM.2.1 hM.2.2 (9 + k0) (gm_WS h0) rfl 2 (by decide) (hF.2.2.2.2.1 _ (gm_in 60 (by decide +kernel) rfl)) (fun _ h => h) rfl (by decide +kernel) rfl rfl (Nat.le_of_ble_eq_true rfl) hdg (fun H1 locs1 hP hD hS => ?_)
  rw [gs_S_valid h0] at hP hD
  exact kk H1 locs1 ⟨hP, hD, hS⟩
theorem gf_S_19 (hF : gm_F p s m args meth c "GearModules$Sensor" cc nL ret D (gm_ty dk) A lt) (hM : gm_M D A s (gm_W dk a) u H locs) (h0 : k0 < 12) (hdg : decode cc pc = .ok (.getfield 19, 3)) (kk : W p l e R s m args below meth c H locs cells slots Q (F0 m (pc + 3) ls (.int (gm_b (u.1 1 k0)) :: rest))) : W p l e R s m args below meth c H locs cells slots Q (F0 m pc ls (.ref (a (9 + k0)) :: rest)) :=
  va_get (C := R_S) (T := F_S) (N := 3) (ci := 2) (ref := "GearModules$Sensor") hF.1 hF.2.1 hF.2.2.2.2.1 in_S hF.2.2.2.1 hF.2.2.2.2.2.2.2.1 hM.1 (9 + k0) (gm_WS h0) rfl 1 (by decide) (hF.2.2.2.2.1 _ (gm_in 58 (by decide +kernel) rfl)) (fun _ h => h) rfl hdg kk
theorem gf_S_9 (hF : gm_F p s m args meth c "GearModules$Sensor" cc nL ret D (gm_ty dk) A lt) (hM : gm_M D A s (gm_W dk a) u H locs) (h0 : k0 < 12) (hdg : decode cc pc = .ok (.getfield 9, 3)) (kk : W p l e R s m args below meth c H locs cells slots Q (F0 m (pc + 3) ls (.int (u.2.1 0 k0) :: rest))) : W p l e R s m args below meth c H locs cells slots Q (F0 m pc ls (.ref (a (9 + k0)) :: rest)) :=
  va_get (C := R_S) (T := F_S) (N := 3) (ci := 2) (ref := "GearModules$Sensor") hF.1 hF.2.1 hF.2.2.2.2.1 in_S hF.2.2.2.1 hF.2.2.2.2.2.2.2.1 hM.1 (9 + k0) (gm_WS h0) rfl 2 (by decide) (hF.2.2.2.2.1 _ (gm_in 60 (by decide +kernel) rfl)) (fun _ h => h) rfl hdg kk
theorem gf_S_15 (hF : gm_F p s m args meth c "GearModules$Sensor" cc nL ret D (gm_ty dk) A lt) (hM : gm_M D A s (gm_W dk a) u H locs) (h0 : k0 < 12) (hdg : decode cc pc = .ok (.getfield 15, 3)) (kk : W p l e R s m args below meth c H locs cells slots Q (F0 m (pc + 3) ls (.int (gm_b (u.1 0 k0)) :: rest))) : W p l e R s m args below meth c H locs cells slots Q (F0 m pc ls (.ref (a (9 + k0)) :: rest)) :=
  va_get (C := R_S) (T := F_S) (N := 3) (ci := 2) (ref := "GearModules$Sensor") hF.1 hF.2.1 hF.2.2.2.2.1 in_S hF.2.2.2.1 hF.2.2.2.2.2.2.2.1 hM.1 (9 + k0) (gm_WS h0) rfl 0 (by decide) (hF.2.2.2.2.1 _ (gm_in 56 (by decide +kernel) rfl)) (fun _ h => h) rfl hdg kk
end GMF
end
section
abbrev rm_G_handle : Room := { frames := 1, cells := 0, slots := 0, locals := 20 }
abbrev rm_G_tick : Room := { frames := 5, cells := 0, slots := 0, locals := 109 }
abbrev rm_G_fail : Room := { frames := 2, cells := 0, slots := 0, locals := 40 }
abbrev rm_G_replace : Room := { frames := 2, cells := 0, slots := 0, locals := 41 }
abbrev rm_G_works : Room := { frames := 1, cells := 0, slots := 0, locals := 20 }
abbrev rm_G_time : Room := { frames := 0, cells := 0, slots := 0, locals := 0 }
abbrev rm_G_valves : Room := { frames := 1, cells := 0, slots := 0, locals := 22 }
abbrev rm_G_sensor : Room := { frames := 1, cells := 0, slots := 0, locals := 20 }
abbrev rm_G_anomalies : Room := { frames := 1, cells := 0, slots := 0, locals := 20 }
abbrev rm_G_running : Room := { frames := 1, cells := 0, slots := 0, locals := 20 }
abbrev rm_G_lights : Room := { frames := 2, cells := 0, slots := 0, locals := 41 }
abbrev rm_G_entry : Room := { frames := 0, cells := 0, slots := 0, locals := 0 }
abbrev rm_G_word : Room := { frames := 2, cells := 0, slots := 0, locals := 40 }
abbrev rm_G_label : Room := { frames := 2, cells := 0, slots := 0, locals := 40 }
abbrev rm_G_isModule : Room := { frames := 0, cells := 0, slots := 0, locals := 0 }
abbrev rm_G_hasOddParity : Room := { frames := 1, cells := 0, slots := 0, locals := 20 }
abbrev rm_G_valvesOfEither : Room := { frames := 0, cells := 0, slots := 0, locals := 0 }
abbrev rm_G_write : Room := { frames := 1, cells := 0, slots := 0, locals := 21 }
abbrev rm_R_isModule : Room := { frames := 0, cells := 0, slots := 0, locals := 0 }
abbrev rm_R_handle : Room := { frames := 0, cells := 0, slots := 0, locals := 0 }
abbrev rm_R_channel : Room := { frames := 0, cells := 0, slots := 0, locals := 0 }
abbrev rm_R_say : Room := { frames := 1, cells := 0, slots := 0, locals := 22 }
abbrev rm_R_vote : Room := { frames := 2, cells := 0, slots := 0, locals := 47 }
abbrev rm_R_was : Room := { frames := 0, cells := 0, slots := 0, locals := 0 }
abbrev rm_R_right : Room := { frames := 0, cells := 0, slots := 0, locals := 0 }
abbrev rm_R_wanted : Room := { frames := 1, cells := 0, slots := 0, locals := 23 }
abbrev rm_R_opposite : Room := { frames := 0, cells := 0, slots := 0, locals := 0 }
abbrev rm_R_valvesNow : Room := { frames := 2, cells := 0, slots := 0, locals := 46 }
abbrev rm_R_limit : Room := { frames := 0, cells := 0, slots := 0, locals := 0 }
abbrev rm_R_condition : Room := { frames := 1, cells := 0, slots := 0, locals := 23 }
abbrev rm_R_gets : Room := { frames := 0, cells := 0, slots := 0, locals := 0 }
abbrev rm_R_waiting : Room := { frames := 1, cells := 0, slots := 0, locals := 22 }
abbrev rm_R_watch : Room := { frames := 2, cells := 0, slots := 0, locals := 45 }
abbrev rm_R_step : Room := { frames := 3, cells := 0, slots := 0, locals := 73 }
abbrev rm_R_tick : Room := { frames := 4, cells := 0, slots := 0, locals := 96 }
abbrev rm_R_fail : Room := { frames := 1, cells := 0, slots := 0, locals := 20 }
abbrev rm_R_replace : Room := { frames := 1, cells := 0, slots := 0, locals := 20 }
abbrev rm_R_works : Room := { frames := 1, cells := 0, slots := 0, locals := 20 }
abbrev rm_R_time : Room := { frames := 0, cells := 0, slots := 0, locals := 0 }
abbrev rm_R_valvesOf : Room := { frames := 0, cells := 0, slots := 0, locals := 0 }
abbrev rm_R_valves : Room := { frames := 1, cells := 0, slots := 0, locals := 21 }
abbrev rm_R_sensor : Room := { frames := 1, cells := 0, slots := 0, locals := 20 }
abbrev rm_R_anomalies : Room := { frames := 1, cells := 0, slots := 0, locals := 20 }
abbrev rm_R_running : Room := { frames := 1, cells := 0, slots := 0, locals := 20 }
abbrev rm_R_lights : Room := { frames := 2, cells := 0, slots := 0, locals := 43 }
abbrev rm_R_entry : Room := { frames := 0, cells := 0, slots := 0, locals := 0 }
abbrev rm_R_ones : Room := { frames := 0, cells := 0, slots := 0, locals := 0 }
abbrev rm_R_word : Room := { frames := 2, cells := 0, slots := 0, locals := 43 }
abbrev rm_R_label : Room := { frames := 1, cells := 0, slots := 0, locals := 22 }
abbrev rm_M_renew : Room := { frames := 1, cells := 0, slots := 0, locals := 20 }
abbrev rm_M_stop : Room := { frames := 1, cells := 0, slots := 0, locals := 20 }
abbrev rm_M_beginWait : Room := { frames := 0, cells := 0, slots := 0, locals := 0 }
abbrev rm_M_endWait : Room := { frames := 0, cells := 0, slots := 0, locals := 0 }
abbrev rm_M_step : Room := { frames := 4, cells := 0, slots := 0, locals := 85 }
abbrev rm_M_voteAll : Room := { frames := 3, cells := 0, slots := 0, locals := 62 }
abbrev rm_M_wantedValves : Room := { frames := 2, cells := 0, slots := 0, locals := 41 }
abbrev rm_M_switchValves : Room := { frames := 1, cells := 0, slots := 0, locals := 21 }
abbrev rm_M_opposites : Room := { frames := 0, cells := 0, slots := 0, locals := 0 }
abbrev rm_M_watchConditions : Room := { frames := 2, cells := 0, slots := 0, locals := 42 }
abbrev rm_M_conditionHolds : Room := { frames := 1, cells := 0, slots := 0, locals := 21 }
abbrev rm_M_watchSwitch : Room := { frames := 1, cells := 0, slots := 0, locals := 21 }
abbrev rm_M_gearsAreExtended : Room := { frames := 1, cells := 0, slots := 0, locals := 21 }
abbrev rm_M_gearsAreRetracted : Room := { frames := 1, cells := 0, slots := 0, locals := 21 }
abbrev rm_M_isOn : Room := { frames := 0, cells := 0, slots := 0, locals := 0 }
abbrev rm_M_isSwitchedOn : Room := { frames := 0, cells := 0, slots := 0, locals := 0 }
abbrev rm_M_sensorsOn : Room := { frames := 0, cells := 0, slots := 0, locals := 0 }
abbrev rm_M_sensorsBroken : Room := { frames := 0, cells := 0, slots := 0, locals := 0 }
abbrev rm_M_status : Room := { frames := 0, cells := 0, slots := 0, locals := 0 }
abbrev rm_S_reset : Room := { frames := 0, cells := 0, slots := 0, locals := 0 }
abbrev rm_S_vote : Room := { frames := 2, cells := 0, slots := 0, locals := 41 }
abbrev rm_S_voteOfThree : Room := { frames := 1, cells := 0, slots := 0, locals := 20 }
abbrev rm_S_voteOfTwo : Room := { frames := 0, cells := 0, slots := 0, locals := 0 }
abbrev rm_S_summary : Room := { frames := 0, cells := 0, slots := 0, locals := 0 }
abbrev rm_I_bitCount : Room := { frames := 0, cells := 0, slots := 0, locals := 0 }
section GMK
variable {R : Room} {s : State} {args : Array Value}
theorem gk_G_24 (hts : ∀ w ∈ gm_A, w.before args s = true) (hR : rm_M_beginWait.frames + 1 ≤ R.frames ∧ 8 + (1 + 11) + rm_M_beginWait.locals ≤ R.locals) : CallW R s args "GearModules" "GearModules$OneModule" 24 y_M_beginWait b_M_beginWait 1 none (Cond.code y_M_beginWait b_M_beginWait 1 none :: gm_A) rm_M_beginWait 0 0 0 :=
  cwV 0 hts (gm_good (gm_wsV (gm_in 123 (by decide +kernel) rfl) (gm_in 124 (by decide +kernel) rfl) (gm_in 125 (by decide +kernel) rfl) (gm_in 29 (by decide +kernel) rfl) (gm_in 126 (by decide +kernel) rfl))) rfl rfl rfl (by decide +kernel) hR
theorem gk_G_31 (hts : ∀ w ∈ gm_A, w.before args s = true) (hR : rm_M_step.frames + 1 ≤ R.frames ∧ 8 + (5 + 11) + rm_M_step.locals ≤ R.locals) : CallW R s args "GearModules" "GearModules$OneModule" 31 y_M_step b_M_step 5 (some .int) (Cond.code y_M_step b_M_step 5 (some .int) :: gm_A) rm_M_step 0 0 2 :=
  cwV 2 hts (gm_good (gm_wsV (gm_in 131 (by decide +kernel) rfl) (gm_in 132 (by decide +kernel) rfl) (gm_in 133 (by decide +kernel) rfl) (gm_in 29 (by decide +kernel) rfl) (gm_in 134 (by decide +kernel) rfl))) rfl rfl rfl (by decide +kernel) hR
theorem gk_G_35 (hts : ∀ w ∈ gm_A, w.before args s = true) (hR : rm_G_write.frames + 1 ≤ R.frames ∧ 8 + (4 + 11) + rm_G_write.locals ≤ R.locals) : CallW R s args "GearModules" "GearModules" 35 y_G_write b_G_write 4 none (Cond.code y_G_write b_G_write 4 none :: gm_A) rm_G_write 0 0 2 :=
  cwV 2 hts (gm_good (gm_wsV (gm_in 208 (by decide +kernel) rfl) (gm_in 210 (by decide +kernel) rfl) (gm_in 12 (by decide +kernel) rfl) (gm_in 28 (by decide +kernel) rfl) (gm_in 211 (by decide +kernel) rfl))) rfl rfl rfl (by decide +kernel) hR
theorem gk_G_39 (hts : ∀ w ∈ gm_A, w.before args s = true) (hR : rm_G_isModule.frames + 1 ≤ R.frames ∧ 8 + (1 + 11) + rm_G_isModule.locals ≤ R.locals) : CallB R s args "GearModules" 39 y_G_isModule b_G_isModule 1 (some .boolean) (Cond.code y_G_isModule b_G_isModule 1 (some .boolean) :: gm_A) rm_G_isModule 0 0 1 ∧ (Cond.static y_G_isModule).before args s = true :=
  va_cwS 1 hts (gm_good (gm_wsS (gm_in 218 (by decide +kernel) rfl) (gm_in 219 (by decide +kernel) rfl) (gm_in 28 (by decide +kernel) rfl) (gm_in 220 (by decide +kernel) rfl))) rfl rfl rfl (by decide +kernel) hR
theorem gk_G_43 (hts : ∀ w ∈ gm_A, w.before args s = true) (hR : rm_M_stop.frames + 1 ≤ R.frames ∧ 8 + (1 + 11) + rm_M_stop.locals ≤ R.locals) : CallW R s args "GearModules" "GearModules$OneModule" 43 y_M_stop b_M_stop 1 (some .boolean) (Cond.code y_M_stop b_M_stop 1 (some .boolean) :: gm_A) rm_M_stop 0 0 0 :=
  cwV 0 hts (gm_good (gm_wsV (gm_in 221 (by decide +kernel) rfl) (gm_in 222 (by decide +kernel) rfl) (gm_in 223 (by decide +kernel) rfl) (gm_in 29 (by decide +kernel) rfl) (gm_in 224 (by decide +kernel) rfl))) rfl rfl rfl (by decide +kernel) hR
theorem gk_G_47 (hts : ∀ w ∈ gm_A, w.before args s = true) (hR : rm_M_renew.frames + 1 ≤ R.frames ∧ 8 + (2 + 11) + rm_M_renew.locals ≤ R.locals) : CallW R s args "GearModules" "GearModules$OneModule" 47 y_M_renew b_M_renew 2 none (Cond.code y_M_renew b_M_renew 2 none :: gm_A) rm_M_renew 0 0 0 :=
  cwV 0 hts (gm_good (gm_wsV (gm_in 229 (by decide +kernel) rfl) (gm_in 230 (by decide +kernel) rfl) (gm_in 231 (by decide +kernel) rfl) (gm_in 29 (by decide +kernel) rfl) (gm_in 232 (by decide +kernel) rfl))) rfl rfl rfl (by decide +kernel) hR
theorem gk_G_53 (hts : ∀ w ∈ gm_A, w.before args s = true) (hR : rm_G_valvesOfEither.frames + 1 ≤ R.frames ∧ 8 + (3 + 11) + rm_G_valvesOfEither.locals ≤ R.locals) : CallW R s args "GearModules" "GearModules" 53 y_G_valvesOfEither b_G_valvesOfEither 3 (some .int) (Cond.code y_G_valvesOfEither b_G_valvesOfEither 3 (some .int) :: gm_A) rm_G_valvesOfEither 0 0 0 :=
  cwV 0 hts (gm_good (gm_wsV (gm_in 249 (by decide +kernel) rfl) (gm_in 251 (by decide +kernel) rfl) (gm_in 13 (by decide +kernel) rfl) (gm_in 28 (by decide +kernel) rfl) (gm_in 252 (by decide +kernel) rfl))) rfl rfl rfl (by decide +kernel) hR
theorem gk_G_64 (hts : ∀ w ∈ gm_A, w.before args s = true) (hR : rm_S_summary.frames + 1 ≤ R.frames ∧ 8 + (1 + 11) + rm_S_summary.locals ≤ R.locals) : CallW R s args "GearModules" "GearModules$Sensor" 64 y_S_summary b_S_summary 1 (some .int) (Cond.code y_S_summary b_S_summary 1 (some .int) :: gm_A) rm_S_summary 0 0 0 :=
  cwV 0 hts (gm_good (gm_wsV (gm_in 257 (by decide +kernel) rfl) (gm_in 258 (by decide +kernel) rfl) (gm_in 259 (by decide +kernel) rfl) (gm_in 30 (by decide +kernel) rfl) (gm_in 260 (by decide +kernel) rfl))) rfl rfl rfl (by decide +kernel) hR
theorem gk_G_76 (hts : ∀ w ∈ gm_A, w.before args s = true) (hR : rm_M_gearsAreExtended.frames + 1 ≤ R.frames ∧ 8 + (1 + 11) + rm_M_gearsAreExtended.locals ≤ R.locals) : CallW R s args "GearModules" "GearModules$OneModule" 76 y_M_gearsAreExtended b_M_gearsAreExtended 1 (some .boolean) (Cond.code y_M_gearsAreExtended b_M_gearsAreExtended 1 (some .boolean) :: gm_A) rm_M_gearsAreExtended 0 0 0 :=
  cwV 0 hts (gm_good (gm_wsV (gm_in 273 (by decide +kernel) rfl) (gm_in 162 (by decide +kernel) rfl) (gm_in 163 (by decide +kernel) rfl) (gm_in 29 (by decide +kernel) rfl) (gm_in 164 (by decide +kernel) rfl))) rfl rfl rfl (by decide +kernel) hR
theorem gk_G_87 (hts : ∀ w ∈ gm_A, w.before args s = true) (hR : rm_M_sensorsOn.frames + 1 ≤ R.frames ∧ 8 + (3 + 11) + rm_M_sensorsOn.locals ≤ R.locals) : CallW R s args "GearModules" "GearModules$OneModule" 87 y_M_sensorsOn b_M_sensorsOn 3 (some .int) (Cond.code y_M_sensorsOn b_M_sensorsOn 3 (some .int) :: gm_A) rm_M_sensorsOn 0 0 0 :=
  cwV 0 hts (gm_good (gm_wsV (gm_in 283 (by decide +kernel) rfl) (gm_in 284 (by decide +kernel) rfl) (gm_in 285 (by decide +kernel) rfl) (gm_in 29 (by decide +kernel) rfl) (gm_in 286 (by decide +kernel) rfl))) rfl rfl rfl (by decide +kernel) hR
theorem gk_G_90 (hts : ∀ w ∈ gm_A, w.before args s = true) (hR : rm_M_sensorsBroken.frames + 1 ≤ R.frames ∧ 8 + (3 + 11) + rm_M_sensorsBroken.locals ≤ R.locals) : CallW R s args "GearModules" "GearModules$OneModule" 90 y_M_sensorsBroken b_M_sensorsBroken 3 (some .int) (Cond.code y_M_sensorsBroken b_M_sensorsBroken 3 (some .int) :: gm_A) rm_M_sensorsBroken 0 0 0 :=
  cwV 0 hts (gm_good (gm_wsV (gm_in 287 (by decide +kernel) rfl) (gm_in 288 (by decide +kernel) rfl) (gm_in 289 (by decide +kernel) rfl) (gm_in 29 (by decide +kernel) rfl) (gm_in 290 (by decide +kernel) rfl))) rfl rfl rfl (by decide +kernel) hR
theorem gk_G_93 (hts : ∀ w ∈ gm_A, w.before args s = true) (hR : rm_M_status.frames + 1 ≤ R.frames ∧ 8 + (1 + 11) + rm_M_status.locals ≤ R.locals) : CallW R s args "GearModules" "GearModules$OneModule" 93 y_M_status b_M_status 1 (some .int) (Cond.code y_M_status b_M_status 1 (some .int) :: gm_A) rm_M_status 0 0 0 :=
  cwV 0 hts (gm_good (gm_wsV (gm_in 291 (by decide +kernel) rfl) (gm_in 292 (by decide +kernel) rfl) (gm_in 293 (by decide +kernel) rfl) (gm_in 29 (by decide +kernel) rfl) (gm_in 294 (by decide +kernel) rfl))) rfl rfl rfl (by decide +kernel) hR
theorem gk_G_96 (hts : ∀ w ∈ gm_A, w.before args s = true) (hR : rm_G_hasOddParity.frames + 1 ≤ R.frames ∧ 8 + (1 + 11) + rm_G_hasOddParity.locals ≤ R.locals) : CallB R s args "GearModules" 96 y_G_hasOddParity b_G_hasOddParity 1 (some .boolean) (Cond.code y_G_hasOddParity b_G_hasOddParity 1 (some .boolean) :: gm_A) rm_G_hasOddParity 0 0 1 ∧ (Cond.static y_G_hasOddParity).before args s = true :=
  va_cwS 1 hts (gm_good (gm_wsS (gm_in 295 (by decide +kernel) rfl) (gm_in 296 (by decide +kernel) rfl) (gm_in 28 (by decide +kernel) rfl) (gm_in 297 (by decide +kernel) rfl))) rfl rfl rfl (by decide +kernel) hR
theorem gk_G_100 (hts : ∀ w ∈ gm_A, w.before args s = true) (hR : rm_I_bitCount.frames + 1 ≤ R.frames ∧ 8 + (1 + 11) + rm_I_bitCount.locals ≤ R.locals) : CallB R s args "GearModules" 100 y_I_bitCount b_I_bitCount 1 (some .int) (Cond.code y_I_bitCount b_I_bitCount 1 (some .int) :: gm_A) rm_I_bitCount 0 0 1 ∧ (Cond.static y_I_bitCount).before args s = true :=
  va_cwS 1 hts (gm_good (gm_wsS (gm_in 298 (by decide +kernel) rfl) (gm_in 148 (by decide +kernel) rfl) (gm_in 32 (by decide +kernel) rfl) (gm_in 149 (by decide +kernel) rfl))) rfl rfl rfl (by decide +kernel) hR
theorem gw_ml_G_108 : Cond.methodLink "GearModules" 108 Lib.Math.min.name ∈ gm_A := (gm_in 213 (by decide +kernel) rfl)
theorem gw_mst_min : Cond.static Lib.Math.min.name ∈ gm_A := (gm_in 198 (by decide +kernel) rfl)
theorem gw_mcode_min : Cond.code Lib.Math.min.name Lib.Math.min.code 2 (some .int) ∈ gm_A := (gm_in 199 (by decide +kernel) rfl)
theorem gw_mini : Cond.initialized "java/lang/Math" ∈ gm_A := (gm_in 33 (by decide +kernel) rfl)
theorem gk_R_50 (hts : ∀ w ∈ gm_A, w.before args s = true) (hR : rm_R_channel.frames + 1 ≤ R.frames ∧ 8 + (3 + 11) + rm_R_channel.locals ≤ R.locals) : CallW R s args "GearModulesModel" "GearModulesModel" 50 y_R_channel b_R_channel 3 (some .boolean) (Cond.code y_R_channel b_R_channel 3 (some .boolean) :: gm_A) rm_R_channel 0 0 2 :=
  cwV 2 hts (gm_good (gm_wsV (gm_in 374 (by decide +kernel) rfl) (gm_in 376 (by decide +kernel) rfl) (gm_in 17 (by decide +kernel) rfl) (gm_in 31 (by decide +kernel) rfl) (gm_in 377 (by decide +kernel) rfl))) rfl rfl rfl (by decide +kernel) hR
theorem gk_R_54 (hts : ∀ w ∈ gm_A, w.before args s = true) (hR : rm_R_say.frames + 1 ≤ R.frames ∧ 8 + (6 + 11) + rm_R_say.locals ≤ R.locals) : CallW R s args "GearModulesModel" "GearModulesModel" 54 y_R_say b_R_say 6 (some .int) (Cond.code y_R_say b_R_say 6 (some .int) :: gm_A) rm_R_say 0 0 3 :=
  cwV 3 hts (gm_good (gm_wsV (gm_in 370 (by decide +kernel) rfl) (gm_in 372 (by decide +kernel) rfl) (gm_in 16 (by decide +kernel) rfl) (gm_in 31 (by decide +kernel) rfl) (gm_in 373 (by decide +kernel) rfl))) rfl rfl rfl (by decide +kernel) hR
theorem gk_R_58 (hts : ∀ w ∈ gm_A, w.before args s = true) (hR : rm_R_gets.frames + 1 ≤ R.frames ∧ 8 + (3 + 11) + rm_R_gets.locals ≤ R.locals) : CallW R s args "GearModulesModel" "GearModulesModel" 58 y_R_gets b_R_gets 3 none (Cond.code y_R_gets b_R_gets 3 none :: gm_A) rm_R_gets 0 0 2 :=
  cwV 2 hts (gm_good (gm_wsV (gm_in 378 (by decide +kernel) rfl) (gm_in 380 (by decide +kernel) rfl) (gm_in 18 (by decide +kernel) rfl) (gm_in 31 (by decide +kernel) rfl) (gm_in 381 (by decide +kernel) rfl))) rfl rfl rfl (by decide +kernel) hR
theorem gk_R_62 (hts : ∀ w ∈ gm_A, w.before args s = true) (hR : rm_R_right.frames + 1 ≤ R.frames ∧ 8 + (4 + 11) + rm_R_right.locals ≤ R.locals) : CallW R s args "GearModulesModel" "GearModulesModel" 62 y_R_right b_R_right 4 (some .boolean) (Cond.code y_R_right b_R_right 4 (some .boolean) :: gm_A) rm_R_right 0 0 1 :=
  cwV 1 hts (gm_good (gm_wsV (gm_in 392 (by decide +kernel) rfl) (gm_in 394 (by decide +kernel) rfl) (gm_in 21 (by decide +kernel) rfl) (gm_in 31 (by decide +kernel) rfl) (gm_in 395 (by decide +kernel) rfl))) rfl rfl rfl (by decide +kernel) hR
theorem gk_R_66 (hts : ∀ w ∈ gm_A, w.before args s = true) (hR : rm_R_wanted.frames + 1 ≤ R.frames ∧ 8 + (4 + 11) + rm_R_wanted.locals ≤ R.locals) : CallW R s args "GearModulesModel" "GearModulesModel" 66 y_R_wanted b_R_wanted 4 (some .boolean) (Cond.code y_R_wanted b_R_wanted 4 (some .boolean) :: gm_A) rm_R_wanted 0 0 2 :=
  cwV 2 hts (gm_good (gm_wsV (gm_in 388 (by decide +kernel) rfl) (gm_in 390 (by decide +kernel) rfl) (gm_in 20 (by decide +kernel) rfl) (gm_in 31 (by decide +kernel) rfl) (gm_in 391 (by decide +kernel) rfl))) rfl rfl rfl (by decide +kernel) hR
theorem gk_R_69 (hts : ∀ w ∈ gm_A, w.before args s = true) (hR : rm_R_was.frames + 1 ≤ R.frames ∧ 8 + (4 + 11) + rm_R_was.locals ≤ R.locals) : CallW R s args "GearModulesModel" "GearModulesModel" 69 y_R_was b_R_was 4 (some .boolean) (Cond.code y_R_was b_R_was 4 (some .boolean) :: gm_A) rm_R_was 0 0 3 :=
  cwV 3 hts (gm_good (gm_wsV (gm_in 396 (by decide +kernel) rfl) (gm_in 398 (by decide +kernel) rfl) (gm_in 22 (by decide +kernel) rfl) (gm_in 31 (by decide +kernel) rfl) (gm_in 399 (by decide +kernel) rfl))) rfl rfl rfl (by decide +kernel) hR
theorem gk_R_73 (hts : ∀ w ∈ gm_A, w.before args s = true) (hR : rm_R_opposite.frames + 1 ≤ R.frames ∧ 8 + (1 + 11) + rm_R_opposite.locals ≤ R.locals) : CallB R s args "GearModulesModel" 73 y_R_opposite b_R_opposite 1 (some .int) (Cond.code y_R_opposite b_R_opposite 1 (some .int) :: gm_A) rm_R_opposite 0 0 1 ∧ (Cond.static y_R_opposite).before args s = true :=
  va_cwS 1 hts (gm_good (gm_wsS (gm_in 400 (by decide +kernel) rfl) (gm_in 401 (by decide +kernel) rfl) (gm_in 31 (by decide +kernel) rfl) (gm_in 402 (by decide +kernel) rfl))) rfl rfl rfl (by decide +kernel) hR
theorem gk_R_87 (hts : ∀ w ∈ gm_A, w.before args s = true) (hR : rm_R_waiting.frames + 1 ≤ R.frames ∧ 8 + (3 + 11) + rm_R_waiting.locals ≤ R.locals) : CallW R s args "GearModulesModel" "GearModulesModel" 87 y_R_waiting b_R_waiting 3 none (Cond.code y_R_waiting b_R_waiting 3 none :: gm_A) rm_R_waiting 0 0 2 :=
  cwV 2 hts (gm_good (gm_wsV (gm_in 407 (by decide +kernel) rfl) (gm_in 409 (by decide +kernel) rfl) (gm_in 24 (by decide +kernel) rfl) (gm_in 31 (by decide +kernel) rfl) (gm_in 410 (by decide +kernel) rfl))) rfl rfl rfl (by decide +kernel) hR
theorem gk_R_90 (hts : ∀ w ∈ gm_A, w.before args s = true) (hR : rm_R_condition.frames + 1 ≤ R.frames ∧ 8 + (3 + 11) + rm_R_condition.locals ≤ R.locals) : CallW R s args "GearModulesModel" "GearModulesModel" 90 y_R_condition b_R_condition 3 (some .boolean) (Cond.code y_R_condition b_R_condition 3 (some .boolean) :: gm_A) rm_R_condition 0 0 2 :=
  cwV 2 hts (gm_good (gm_wsV (gm_in 411 (by decide +kernel) rfl) (gm_in 413 (by decide +kernel) rfl) (gm_in 25 (by decide +kernel) rfl) (gm_in 31 (by decide +kernel) rfl) (gm_in 414 (by decide +kernel) rfl))) rfl rfl rfl (by decide +kernel) hR
theorem gk_R_93 (hts : ∀ w ∈ gm_A, w.before args s = true) (hR : rm_R_limit.frames + 1 ≤ R.frames ∧ 8 + (1 + 11) + rm_R_limit.locals ≤ R.locals) : CallB R s args "GearModulesModel" 93 y_R_limit b_R_limit 1 (some .int) (Cond.code y_R_limit b_R_limit 1 (some .int) :: gm_A) rm_R_limit 0 0 1 ∧ (Cond.static y_R_limit).before args s = true :=
  va_cwS 1 hts (gm_good (gm_wsS (gm_in 415 (by decide +kernel) rfl) (gm_in 416 (by decide +kernel) rfl) (gm_in 31 (by decide +kernel) rfl) (gm_in 417 (by decide +kernel) rfl))) rfl rfl rfl (by decide +kernel) hR
theorem gk_R_96 (hts : ∀ w ∈ gm_A, w.before args s = true) (hR : rm_R_vote.frames + 1 ≤ R.frames ∧ 8 + (7 + 11) + rm_R_vote.locals ≤ R.locals) : CallW R s args "GearModulesModel" "GearModulesModel" 96 y_R_vote b_R_vote 7 none (Cond.code y_R_vote b_R_vote 7 none :: gm_A) rm_R_vote 0 0 2 :=
  cwV 2 hts (gm_good (gm_wsV (gm_in 366 (by decide +kernel) rfl) (gm_in 368 (by decide +kernel) rfl) (gm_in 15 (by decide +kernel) rfl) (gm_in 31 (by decide +kernel) rfl) (gm_in 369 (by decide +kernel) rfl))) rfl rfl rfl (by decide +kernel) hR
theorem gk_R_99 (hts : ∀ w ∈ gm_A, w.before args s = true) (hR : rm_R_valvesNow.frames + 1 ≤ R.frames ∧ 8 + (7 + 11) + rm_R_valvesNow.locals ≤ R.locals) : CallW R s args "GearModulesModel" "GearModulesModel" 99 y_R_valvesNow b_R_valvesNow 7 (some .int) (Cond.code y_R_valvesNow b_R_valvesNow 7 (some .int) :: gm_A) rm_R_valvesNow 0 0 1 :=
  cwV 1 hts (gm_good (gm_wsV (gm_in 384 (by decide +kernel) rfl) (gm_in 386 (by decide +kernel) rfl) (gm_in 19 (by decide +kernel) rfl) (gm_in 31 (by decide +kernel) rfl) (gm_in 387 (by decide +kernel) rfl))) rfl rfl rfl (by decide +kernel) hR
theorem gk_R_102 (hts : ∀ w ∈ gm_A, w.before args s = true) (hR : rm_R_watch.frames + 1 ≤ R.frames ∧ 8 + (4 + 11) + rm_R_watch.locals ≤ R.locals) : CallW R s args "GearModulesModel" "GearModulesModel" 102 y_R_watch b_R_watch 4 none (Cond.code y_R_watch b_R_watch 4 none :: gm_A) rm_R_watch 0 0 1 :=
  cwV 1 hts (gm_good (gm_wsV (gm_in 403 (by decide +kernel) rfl) (gm_in 405 (by decide +kernel) rfl) (gm_in 23 (by decide +kernel) rfl) (gm_in 31 (by decide +kernel) rfl) (gm_in 406 (by decide +kernel) rfl))) rfl rfl rfl (by decide +kernel) hR
theorem gk_R_106 (hts : ∀ w ∈ gm_A, w.before args s = true) (hR : rm_R_step.frames + 1 ≤ R.frames ∧ 8 + (4 + 11) + rm_R_step.locals ≤ R.locals) : CallW R s args "GearModulesModel" "GearModulesModel" 106 y_R_step b_R_step 4 none (Cond.code y_R_step b_R_step 4 none :: gm_A) rm_R_step 0 0 1 :=
  cwV 1 hts (gm_good (gm_wsV (gm_in 362 (by decide +kernel) rfl) (gm_in 364 (by decide +kernel) rfl) (gm_in 14 (by decide +kernel) rfl) (gm_in 31 (by decide +kernel) rfl) (gm_in 365 (by decide +kernel) rfl))) rfl rfl rfl (by decide +kernel) hR
theorem gk_R_109 (hts : ∀ w ∈ gm_A, w.before args s = true) (hR : rm_R_isModule.frames + 1 ≤ R.frames ∧ 8 + (1 + 11) + rm_R_isModule.locals ≤ R.locals) : CallB R s args "GearModulesModel" 109 y_R_isModule b_R_isModule 1 (some .boolean) (Cond.code y_R_isModule b_R_isModule 1 (some .boolean) :: gm_A) rm_R_isModule 0 0 1 ∧ (Cond.static y_R_isModule).before args s = true :=
  va_cwS 1 hts (gm_good (gm_wsS (gm_in 422 (by decide +kernel) rfl) (gm_in 423 (by decide +kernel) rfl) (gm_in 31 (by decide +kernel) rfl) (gm_in 424 (by decide +kernel) rfl))) rfl rfl rfl (by decide +kernel) hR
theorem gk_R_112 (hts : ∀ w ∈ gm_A, w.before args s = true) (hR : rm_R_valvesOf.frames + 1 ≤ R.frames ∧ 8 + (2 + 11) + rm_R_valvesOf.locals ≤ R.locals) : CallW R s args "GearModulesModel" "GearModulesModel" 112 y_R_valvesOf b_R_valvesOf 2 (some .int) (Cond.code y_R_valvesOf b_R_valvesOf 2 (some .int) :: gm_A) rm_R_valvesOf 0 0 1 :=
  cwV 1 hts (gm_good (gm_wsV (gm_in 441 (by decide +kernel) rfl) (gm_in 443 (by decide +kernel) rfl) (gm_in 26 (by decide +kernel) rfl) (gm_in 31 (by decide +kernel) rfl) (gm_in 444 (by decide +kernel) rfl))) rfl rfl rfl (by decide +kernel) hR
theorem gk_R_115 (hts : ∀ w ∈ gm_A, w.before args s = true) (hR : rm_R_anomalies.frames + 1 ≤ R.frames ∧ 8 + (4 + 11) + rm_R_anomalies.locals ≤ R.locals) : CallW R s args "GearModulesModel" "GearModulesModel" 115 y_R_anomalies b_R_anomalies 4 (some .int) (Cond.code y_R_anomalies b_R_anomalies 4 (some .int) :: gm_A) rm_R_anomalies 0 0 1 :=
  cwV 1 hts (gm_good (gm_wsV (gm_in 461 (by decide +kernel) rfl) (gm_in 450 (by decide +kernel) rfl) (gm_in 451 (by decide +kernel) rfl) (gm_in 31 (by decide +kernel) rfl) (gm_in 452 (by decide +kernel) rfl))) rfl rfl rfl (by decide +kernel) hR
theorem gk_R_118 (hts : ∀ w ∈ gm_A, w.before args s = true) (hR : rm_R_valves.frames + 1 ≤ R.frames ∧ 8 + (2 + 11) + rm_R_valves.locals ≤ R.locals) : CallW R s args "GearModulesModel" "GearModulesModel" 118 y_R_valves b_R_valves 2 (some .int) (Cond.code y_R_valves b_R_valves 2 (some .int) :: gm_A) rm_R_valves 0 0 1 :=
  cwV 1 hts (gm_good (gm_wsV (gm_in 462 (by decide +kernel) rfl) (gm_in 438 (by decide +kernel) rfl) (gm_in 439 (by decide +kernel) rfl) (gm_in 31 (by decide +kernel) rfl) (gm_in 440 (by decide +kernel) rfl))) rfl rfl rfl (by decide +kernel) hR
theorem gk_R_123 (hts : ∀ w ∈ gm_A, w.before args s = true) (hR : rm_R_ones.frames + 1 ≤ R.frames ∧ 8 + (3 + 11) + rm_R_ones.locals ≤ R.locals) : CallB R s args "GearModulesModel" 123 y_R_ones b_R_ones 3 (some .int) (Cond.code y_R_ones b_R_ones 3 (some .int) :: gm_A) rm_R_ones 0 0 1 ∧ (Cond.static y_R_ones).before args s = true :=
  va_cwS 1 hts (gm_good (gm_wsS (gm_in 472 (by decide +kernel) rfl) (gm_in 473 (by decide +kernel) rfl) (gm_in 31 (by decide +kernel) rfl) (gm_in 474 (by decide +kernel) rfl))) rfl rfl rfl (by decide +kernel) hR
theorem gk_M_26 (hts : ∀ w ∈ gm_A, w.before args s = true) (hR : rm_S_reset.frames + 1 ≤ R.frames ∧ 8 + (1 + 11) + rm_S_reset.locals ≤ R.locals) : CallW R s args "GearModules$OneModule" "GearModules$Sensor" 26 y_S_reset b_S_reset 1 none (Cond.code y_S_reset b_S_reset 1 none :: gm_A) rm_S_reset 0 0 0 :=
  cwV 0 hts (gm_good (gm_wsV (gm_in 233 (by decide +kernel) rfl) (gm_in 234 (by decide +kernel) rfl) (gm_in 235 (by decide +kernel) rfl) (gm_in 30 (by decide +kernel) rfl) (gm_in 236 (by decide +kernel) rfl))) rfl rfl rfl (by decide +kernel) hR
theorem gk_M_45 (hts : ∀ w ∈ gm_A, w.before args s = true) (hR : rm_M_endWait.frames + 1 ≤ R.frames ∧ 8 + (1 + 11) + rm_M_endWait.locals ≤ R.locals) : CallW R s args "GearModules$OneModule" "GearModules$OneModule" 45 y_M_endWait b_M_endWait 1 none (Cond.code y_M_endWait b_M_endWait 1 none :: gm_A) rm_M_endWait 0 0 0 :=
  cwV 0 hts (gm_good (gm_wsV (gm_in 204 (by decide +kernel) rfl) (gm_in 206 (by decide +kernel) rfl) (gm_in 11 (by decide +kernel) rfl) (gm_in 29 (by decide +kernel) rfl) (gm_in 207 (by decide +kernel) rfl))) rfl rfl rfl (by decide +kernel) hR
theorem gk_M_48 (hts : ∀ w ∈ gm_A, w.before args s = true) (hR : rm_M_voteAll.frames + 1 ≤ R.frames ∧ 8 + (4 + 11) + rm_M_voteAll.locals ≤ R.locals) : CallW R s args "GearModules$OneModule" "GearModules$OneModule" 48 y_M_voteAll b_M_voteAll 4 (some .int) (Cond.code y_M_voteAll b_M_voteAll 4 (some .int) :: gm_A) rm_M_voteAll 0 0 1 :=
  cwV 1 hts (gm_good (gm_wsV (gm_in 135 (by decide +kernel) rfl) (gm_in 137 (by decide +kernel) rfl) (gm_in 0 (by decide +kernel) rfl) (gm_in 29 (by decide +kernel) rfl) (gm_in 138 (by decide +kernel) rfl))) rfl rfl rfl (by decide +kernel) hR
theorem gk_M_52 (hts : ∀ w ∈ gm_A, w.before args s = true) (hR : rm_M_wantedValves.frames + 1 ≤ R.frames ∧ 8 + (3 + 11) + rm_M_wantedValves.locals ≤ R.locals) : CallW R s args "GearModules$OneModule" "GearModules$OneModule" 52 y_M_wantedValves b_M_wantedValves 3 (some .int) (Cond.code y_M_wantedValves b_M_wantedValves 3 (some .int) :: gm_A) rm_M_wantedValves 0 0 1 :=
  cwV 1 hts (gm_good (gm_wsV (gm_in 157 (by decide +kernel) rfl) (gm_in 159 (by decide +kernel) rfl) (gm_in 3 (by decide +kernel) rfl) (gm_in 29 (by decide +kernel) rfl) (gm_in 160 (by decide +kernel) rfl))) rfl rfl rfl (by decide +kernel) hR
theorem gk_M_56 (hts : ∀ w ∈ gm_A, w.before args s = true) (hR : rm_M_switchValves.frames + 1 ≤ R.frames ∧ 8 + (4 + 11) + rm_M_switchValves.locals ≤ R.locals) : CallW R s args "GearModules$OneModule" "GearModules$OneModule" 56 y_M_switchValves b_M_switchValves 4 none (Cond.code y_M_switchValves b_M_switchValves 4 none :: gm_A) rm_M_switchValves 0 0 1 :=
  cwV 1 hts (gm_good (gm_wsV (gm_in 173 (by decide +kernel) rfl) (gm_in 175 (by decide +kernel) rfl) (gm_in 6 (by decide +kernel) rfl) (gm_in 29 (by decide +kernel) rfl) (gm_in 176 (by decide +kernel) rfl))) rfl rfl rfl (by decide +kernel) hR
theorem gk_M_60 (hts : ∀ w ∈ gm_A, w.before args s = true) (hR : rm_M_watchConditions.frames + 1 ≤ R.frames ∧ 8 + (3 + 11) + rm_M_watchConditions.locals ≤ R.locals) : CallW R s args "GearModules$OneModule" "GearModules$OneModule" 60 y_M_watchConditions b_M_watchConditions 3 (some .int) (Cond.code y_M_watchConditions b_M_watchConditions 3 (some .int) :: gm_A) rm_M_watchConditions 0 0 0 :=
  cwV 0 hts (gm_good (gm_wsV (gm_in 183 (by decide +kernel) rfl) (gm_in 185 (by decide +kernel) rfl) (gm_in 7 (by decide +kernel) rfl) (gm_in 29 (by decide +kernel) rfl) (gm_in 186 (by decide +kernel) rfl))) rfl rfl rfl (by decide +kernel) hR
theorem gk_M_64 (hts : ∀ w ∈ gm_A, w.before args s = true) (hR : rm_M_watchSwitch.frames + 1 ≤ R.frames ∧ 8 + (1 + 11) + rm_M_watchSwitch.locals ≤ R.locals) : CallW R s args "GearModules$OneModule" "GearModules$OneModule" 64 y_M_watchSwitch b_M_watchSwitch 1 (some .int) (Cond.code y_M_watchSwitch b_M_watchSwitch 1 (some .int) :: gm_A) rm_M_watchSwitch 0 0 0 :=
  cwV 0 hts (gm_good (gm_wsV (gm_in 200 (by decide +kernel) rfl) (gm_in 202 (by decide +kernel) rfl) (gm_in 10 (by decide +kernel) rfl) (gm_in 29 (by decide +kernel) rfl) (gm_in 203 (by decide +kernel) rfl))) rfl rfl rfl (by decide +kernel) hR
theorem gk_M_67 (hts : ∀ w ∈ gm_A, w.before args s = true) (hR : rm_S_vote.frames + 1 ≤ R.frames ∧ 8 + (2 + 11) + rm_S_vote.locals ≤ R.locals) : CallW R s args "GearModules$OneModule" "GearModules$Sensor" 67 y_S_vote b_S_vote 2 (some .boolean) (Cond.code y_S_vote b_S_vote 2 (some .boolean) :: gm_A) rm_S_vote 0 0 1 :=
  cwV 1 hts (gm_good (gm_wsV (gm_in 139 (by decide +kernel) rfl) (gm_in 140 (by decide +kernel) rfl) (gm_in 141 (by decide +kernel) rfl) (gm_in 30 (by decide +kernel) rfl) (gm_in 142 (by decide +kernel) rfl))) rfl rfl rfl (by decide +kernel) hR
theorem gk_M_71 (hts : ∀ w ∈ gm_A, w.before args s = true) (hR : rm_M_gearsAreExtended.frames + 1 ≤ R.frames ∧ 8 + (1 + 11) + rm_M_gearsAreExtended.locals ≤ R.locals) : CallW R s args "GearModules$OneModule" "GearModules$OneModule" 71 y_M_gearsAreExtended b_M_gearsAreExtended 1 (some .boolean) (Cond.code y_M_gearsAreExtended b_M_gearsAreExtended 1 (some .boolean) :: gm_A) rm_M_gearsAreExtended 0 0 0 :=
  cwV 0 hts (gm_good (gm_wsV (gm_in 161 (by decide +kernel) rfl) (gm_in 162 (by decide +kernel) rfl) (gm_in 163 (by decide +kernel) rfl) (gm_in 29 (by decide +kernel) rfl) (gm_in 164 (by decide +kernel) rfl))) rfl rfl rfl (by decide +kernel) hR
theorem gk_M_75 (hts : ∀ w ∈ gm_A, w.before args s = true) (hR : rm_M_gearsAreRetracted.frames + 1 ≤ R.frames ∧ 8 + (1 + 11) + rm_M_gearsAreRetracted.locals ≤ R.locals) : CallW R s args "GearModules$OneModule" "GearModules$OneModule" 75 y_M_gearsAreRetracted b_M_gearsAreRetracted 1 (some .boolean) (Cond.code y_M_gearsAreRetracted b_M_gearsAreRetracted 1 (some .boolean) :: gm_A) rm_M_gearsAreRetracted 0 0 0 :=
  cwV 0 hts (gm_good (gm_wsV (gm_in 169 (by decide +kernel) rfl) (gm_in 171 (by decide +kernel) rfl) (gm_in 5 (by decide +kernel) rfl) (gm_in 29 (by decide +kernel) rfl) (gm_in 172 (by decide +kernel) rfl))) rfl rfl rfl (by decide +kernel) hR
theorem gk_M_78 (hts : ∀ w ∈ gm_A, w.before args s = true) (hR : rm_M_isOn.frames + 1 ≤ R.frames ∧ 8 + (2 + 11) + rm_M_isOn.locals ≤ R.locals) : CallW R s args "GearModules$OneModule" "GearModules$OneModule" 78 y_M_isOn b_M_isOn 2 (some .boolean) (Cond.code y_M_isOn b_M_isOn 2 (some .boolean) :: gm_A) rm_M_isOn 0 0 1 :=
  cwV 1 hts (gm_good (gm_wsV (gm_in 165 (by decide +kernel) rfl) (gm_in 167 (by decide +kernel) rfl) (gm_in 4 (by decide +kernel) rfl) (gm_in 29 (by decide +kernel) rfl) (gm_in 168 (by decide +kernel) rfl))) rfl rfl rfl (by decide +kernel) hR
theorem gk_M_81 (hts : ∀ w ∈ gm_A, w.before args s = true) (hR : rm_M_opposites.frames + 1 ≤ R.frames ∧ 8 + (1 + 11) + rm_M_opposites.locals ≤ R.locals) : CallB R s args "GearModules$OneModule" 81 y_M_opposites b_M_opposites 1 (some .int) (Cond.code y_M_opposites b_M_opposites 1 (some .int) :: gm_A) rm_M_opposites 0 0 1 ∧ (Cond.static y_M_opposites).before args s = true :=
  va_cwS 1 hts (gm_good (gm_wsS (gm_in 177 (by decide +kernel) rfl) (gm_in 178 (by decide +kernel) rfl) (gm_in 29 (by decide +kernel) rfl) (gm_in 179 (by decide +kernel) rfl))) rfl rfl rfl (by decide +kernel) hR
theorem gw_ml_M_84 : Cond.methodLink "GearModules$OneModule" 84 Lib.Math.max.name ∈ gm_A := (gm_in 180 (by decide +kernel) rfl)
theorem gw_mst_max : Cond.static Lib.Math.max.name ∈ gm_A := (gm_in 181 (by decide +kernel) rfl)
theorem gw_mcode_max : Cond.code Lib.Math.max.name Lib.Math.max.code 2 (some .int) ∈ gm_A := (gm_in 182 (by decide +kernel) rfl)
theorem gk_M_90 (hts : ∀ w ∈ gm_A, w.before args s = true) (hR : rm_M_conditionHolds.frames + 1 ≤ R.frames ∧ 8 + (2 + 11) + rm_M_conditionHolds.locals ≤ R.locals) : CallW R s args "GearModules$OneModule" "GearModules$OneModule" 90 y_M_conditionHolds b_M_conditionHolds 2 (some .boolean) (Cond.code y_M_conditionHolds b_M_conditionHolds 2 (some .boolean) :: gm_A) rm_M_conditionHolds 0 0 1 :=
  cwV 1 hts (gm_good (gm_wsV (gm_in 187 (by decide +kernel) rfl) (gm_in 189 (by decide +kernel) rfl) (gm_in 8 (by decide +kernel) rfl) (gm_in 29 (by decide +kernel) rfl) (gm_in 190 (by decide +kernel) rfl))) rfl rfl rfl (by decide +kernel) hR
theorem gw_ml_M_96 : Cond.methodLink "GearModules$OneModule" 96 Lib.Math.min.name ∈ gm_A := (gm_in 197 (by decide +kernel) rfl)
theorem gk_M_99 (hts : ∀ w ∈ gm_A, w.before args s = true) (hR : rm_M_isSwitchedOn.frames + 1 ≤ R.frames ∧ 8 + (2 + 11) + rm_M_isSwitchedOn.locals ≤ R.locals) : CallW R s args "GearModules$OneModule" "GearModules$OneModule" 99 y_M_isSwitchedOn b_M_isSwitchedOn 2 (some .boolean) (Cond.code y_M_isSwitchedOn b_M_isSwitchedOn 2 (some .boolean) :: gm_A) rm_M_isSwitchedOn 0 0 1 :=
  cwV 1 hts (gm_good (gm_wsV (gm_in 191 (by decide +kernel) rfl) (gm_in 193 (by decide +kernel) rfl) (gm_in 9 (by decide +kernel) rfl) (gm_in 29 (by decide +kernel) rfl) (gm_in 194 (by decide +kernel) rfl))) rfl rfl rfl (by decide +kernel) hR
theorem gk_S_22 (hts : ∀ w ∈ gm_A, w.before args s = true) (hR : rm_S_voteOfThree.frames + 1 ≤ R.frames ∧ 8 + (2 + 11) + rm_S_voteOfThree.locals ≤ R.locals) : CallW R s args "GearModules$Sensor" "GearModules$Sensor" 22 y_S_voteOfThree b_S_voteOfThree 2 none (Cond.code y_S_voteOfThree b_S_voteOfThree 2 none :: gm_A) rm_S_voteOfThree 0 0 1 :=
  cwV 1 hts (gm_good (gm_wsV (gm_in 143 (by decide +kernel) rfl) (gm_in 145 (by decide +kernel) rfl) (gm_in 1 (by decide +kernel) rfl) (gm_in 30 (by decide +kernel) rfl) (gm_in 146 (by decide +kernel) rfl))) rfl rfl rfl (by decide +kernel) hR
theorem gk_S_26 (hts : ∀ w ∈ gm_A, w.before args s = true) (hR : rm_S_voteOfTwo.frames + 1 ≤ R.frames ∧ 8 + (2 + 11) + rm_S_voteOfTwo.locals ≤ R.locals) : CallW R s args "GearModules$Sensor" "GearModules$Sensor" 26 y_S_voteOfTwo b_S_voteOfTwo 2 none (Cond.code y_S_voteOfTwo b_S_voteOfTwo 2 none :: gm_A) rm_S_voteOfTwo 0 0 1 :=
  cwV 1 hts (gm_good (gm_wsV (gm_in 153 (by decide +kernel) rfl) (gm_in 155 (by decide +kernel) rfl) (gm_in 2 (by decide +kernel) rfl) (gm_in 30 (by decide +kernel) rfl) (gm_in 156 (by decide +kernel) rfl))) rfl rfl rfl (by decide +kernel) hR
theorem gk_S_29 (hts : ∀ w ∈ gm_A, w.before args s = true) (hR : rm_I_bitCount.frames + 1 ≤ R.frames ∧ 8 + (1 + 11) + rm_I_bitCount.locals ≤ R.locals) : CallB R s args "GearModules$Sensor" 29 y_I_bitCount b_I_bitCount 1 (some .int) (Cond.code y_I_bitCount b_I_bitCount 1 (some .int) :: gm_A) rm_I_bitCount 0 0 1 ∧ (Cond.static y_I_bitCount).before args s = true :=
  va_cwS 1 hts (gm_good (gm_wsS (gm_in 147 (by decide +kernel) rfl) (gm_in 148 (by decide +kernel) rfl) (gm_in 32 (by decide +kernel) rfl) (gm_in 149 (by decide +kernel) rfl))) rfl rfl rfl (by decide +kernel) hR
theorem gk_L_13 (hts : ∀ w ∈ gm_A, w.before args s = true) (hR : rm_G_handle.frames + 1 ≤ R.frames ∧ 8 + (3 + 11) + rm_G_handle.locals ≤ R.locals) : CallW R s args "GearModulesLaw" "GearModules" 13 y_G_handle b_G_handle 3 (some .boolean) (Cond.code y_G_handle b_G_handle 3 (some .boolean) :: gm_A) rm_G_handle 0 0 1 :=
  cwV 1 hts (gm_good (gm_wsV (gm_in 119 (by decide +kernel) rfl) (gm_in 120 (by decide +kernel) rfl) (gm_in 121 (by decide +kernel) rfl) (gm_in 28 (by decide +kernel) rfl) (gm_in 122 (by decide +kernel) rfl))) rfl rfl rfl (by decide +kernel) hR
theorem gk_L_17 (hts : ∀ w ∈ gm_A, w.before args s = true) (hR : rm_R_handle.frames + 1 ≤ R.frames ∧ 8 + (3 + 11) + rm_R_handle.locals ≤ R.locals) : CallW R s args "GearModulesLaw" "GearModulesModel" 17 y_R_handle b_R_handle 3 (some .boolean) (Cond.code y_R_handle b_R_handle 3 (some .boolean) :: gm_A) rm_R_handle 0 0 1 :=
  cwV 1 hts (gm_good (gm_wsV (gm_in 354 (by decide +kernel) rfl) (gm_in 355 (by decide +kernel) rfl) (gm_in 356 (by decide +kernel) rfl) (gm_in 31 (by decide +kernel) rfl) (gm_in 357 (by decide +kernel) rfl))) rfl rfl rfl (by decide +kernel) hR
theorem gk_L_18 (hts : ∀ w ∈ gm_A, w.before args s = true) (hR : rm_G_tick.frames + 1 ≤ R.frames ∧ 8 + (5 + 11) + rm_G_tick.locals ≤ R.locals) : CallW R s args "GearModulesLaw" "GearModules" 18 y_G_tick b_G_tick 5 (some .int) (Cond.code y_G_tick b_G_tick 5 (some .int) :: gm_A) rm_G_tick 0 0 2 :=
  cwV 2 hts (gm_good (gm_wsV (gm_in 127 (by decide +kernel) rfl) (gm_in 128 (by decide +kernel) rfl) (gm_in 129 (by decide +kernel) rfl) (gm_in 28 (by decide +kernel) rfl) (gm_in 130 (by decide +kernel) rfl))) rfl rfl rfl (by decide +kernel) hR
theorem gk_L_22 (hts : ∀ w ∈ gm_A, w.before args s = true) (hR : rm_R_tick.frames + 1 ≤ R.frames ∧ 8 + (5 + 11) + rm_R_tick.locals ≤ R.locals) : CallW R s args "GearModulesLaw" "GearModulesModel" 22 y_R_tick b_R_tick 5 (some .int) (Cond.code y_R_tick b_R_tick 5 (some .int) :: gm_A) rm_R_tick 0 0 2 :=
  cwV 2 hts (gm_good (gm_wsV (gm_in 358 (by decide +kernel) rfl) (gm_in 359 (by decide +kernel) rfl) (gm_in 360 (by decide +kernel) rfl) (gm_in 31 (by decide +kernel) rfl) (gm_in 361 (by decide +kernel) rfl))) rfl rfl rfl (by decide +kernel) hR
theorem gk_L_23 (hts : ∀ w ∈ gm_A, w.before args s = true) (hR : rm_G_fail.frames + 1 ≤ R.frames ∧ 8 + (2 + 11) + rm_G_fail.locals ≤ R.locals) : CallW R s args "GearModulesLaw" "GearModules" 23 y_G_fail b_G_fail 2 (some .boolean) (Cond.code y_G_fail b_G_fail 2 (some .boolean) :: gm_A) rm_G_fail 0 0 1 :=
  cwV 1 hts (gm_good (gm_wsV (gm_in 214 (by decide +kernel) rfl) (gm_in 215 (by decide +kernel) rfl) (gm_in 216 (by decide +kernel) rfl) (gm_in 28 (by decide +kernel) rfl) (gm_in 217 (by decide +kernel) rfl))) rfl rfl rfl (by decide +kernel) hR
theorem gk_L_27 (hts : ∀ w ∈ gm_A, w.before args s = true) (hR : rm_R_fail.frames + 1 ≤ R.frames ∧ 8 + (2 + 11) + rm_R_fail.locals ≤ R.locals) : CallW R s args "GearModulesLaw" "GearModulesModel" 27 y_R_fail b_R_fail 2 (some .boolean) (Cond.code y_R_fail b_R_fail 2 (some .boolean) :: gm_A) rm_R_fail 0 0 1 :=
  cwV 1 hts (gm_good (gm_wsV (gm_in 418 (by decide +kernel) rfl) (gm_in 419 (by decide +kernel) rfl) (gm_in 420 (by decide +kernel) rfl) (gm_in 31 (by decide +kernel) rfl) (gm_in 421 (by decide +kernel) rfl))) rfl rfl rfl (by decide +kernel) hR
theorem gk_L_28 (hts : ∀ w ∈ gm_A, w.before args s = true) (hR : rm_G_replace.frames + 1 ≤ R.frames ∧ 8 + (2 + 11) + rm_G_replace.locals ≤ R.locals) : CallW R s args "GearModulesLaw" "GearModules" 28 y_G_replace b_G_replace 2 (some .boolean) (Cond.code y_G_replace b_G_replace 2 (some .boolean) :: gm_A) rm_G_replace 0 0 1 :=
  cwV 1 hts (gm_good (gm_wsV (gm_in 225 (by decide +kernel) rfl) (gm_in 226 (by decide +kernel) rfl) (gm_in 227 (by decide +kernel) rfl) (gm_in 28 (by decide +kernel) rfl) (gm_in 228 (by decide +kernel) rfl))) rfl rfl rfl (by decide +kernel) hR
theorem gk_L_31 (hts : ∀ w ∈ gm_A, w.before args s = true) (hR : rm_R_replace.frames + 1 ≤ R.frames ∧ 8 + (3 + 11) + rm_R_replace.locals ≤ R.locals) : CallW R s args "GearModulesLaw" "GearModulesModel" 31 y_R_replace b_R_replace 3 (some .boolean) (Cond.code y_R_replace b_R_replace 3 (some .boolean) :: gm_A) rm_R_replace 0 0 1 :=
  cwV 1 hts (gm_good (gm_wsV (gm_in 425 (by decide +kernel) rfl) (gm_in 426 (by decide +kernel) rfl) (gm_in 427 (by decide +kernel) rfl) (gm_in 31 (by decide +kernel) rfl) (gm_in 428 (by decide +kernel) rfl))) rfl rfl rfl (by decide +kernel) hR
theorem gk_L_32 (hts : ∀ w ∈ gm_A, w.before args s = true) (hR : rm_G_works.frames + 1 ≤ R.frames ∧ 8 + (2 + 11) + rm_G_works.locals ≤ R.locals) : CallW R s args "GearModulesLaw" "GearModules" 32 y_G_works b_G_works 2 (some .boolean) (Cond.code y_G_works b_G_works 2 (some .boolean) :: gm_A) rm_G_works 0 0 1 :=
  cwV 1 hts (gm_good (gm_wsV (gm_in 237 (by decide +kernel) rfl) (gm_in 238 (by decide +kernel) rfl) (gm_in 239 (by decide +kernel) rfl) (gm_in 28 (by decide +kernel) rfl) (gm_in 240 (by decide +kernel) rfl))) rfl rfl rfl (by decide +kernel) hR
theorem gk_L_35 (hts : ∀ w ∈ gm_A, w.before args s = true) (hR : rm_R_works.frames + 1 ≤ R.frames ∧ 8 + (2 + 11) + rm_R_works.locals ≤ R.locals) : CallW R s args "GearModulesLaw" "GearModulesModel" 35 y_R_works b_R_works 2 (some .boolean) (Cond.code y_R_works b_R_works 2 (some .boolean) :: gm_A) rm_R_works 0 0 1 :=
  cwV 1 hts (gm_good (gm_wsV (gm_in 429 (by decide +kernel) rfl) (gm_in 430 (by decide +kernel) rfl) (gm_in 431 (by decide +kernel) rfl) (gm_in 31 (by decide +kernel) rfl) (gm_in 432 (by decide +kernel) rfl))) rfl rfl rfl (by decide +kernel) hR
theorem gk_L_36 (hts : ∀ w ∈ gm_A, w.before args s = true) (hR : rm_G_time.frames + 1 ≤ R.frames ∧ 8 + (1 + 11) + rm_G_time.locals ≤ R.locals) : CallW R s args "GearModulesLaw" "GearModules" 36 y_G_time b_G_time 1 (some .int) (Cond.code y_G_time b_G_time 1 (some .int) :: gm_A) rm_G_time 0 0 0 :=
  cwV 0 hts (gm_good (gm_wsV (gm_in 241 (by decide +kernel) rfl) (gm_in 242 (by decide +kernel) rfl) (gm_in 243 (by decide +kernel) rfl) (gm_in 28 (by decide +kernel) rfl) (gm_in 244 (by decide +kernel) rfl))) rfl rfl rfl (by decide +kernel) hR
theorem gk_L_40 (hts : ∀ w ∈ gm_A, w.before args s = true) (hR : rm_R_time.frames + 1 ≤ R.frames ∧ 8 + (1 + 11) + rm_R_time.locals ≤ R.locals) : CallW R s args "GearModulesLaw" "GearModulesModel" 40 y_R_time b_R_time 1 (some .int) (Cond.code y_R_time b_R_time 1 (some .int) :: gm_A) rm_R_time 0 0 0 :=
  cwV 0 hts (gm_good (gm_wsV (gm_in 433 (by decide +kernel) rfl) (gm_in 434 (by decide +kernel) rfl) (gm_in 435 (by decide +kernel) rfl) (gm_in 31 (by decide +kernel) rfl) (gm_in 436 (by decide +kernel) rfl))) rfl rfl rfl (by decide +kernel) hR
theorem gk_L_41 (hts : ∀ w ∈ gm_A, w.before args s = true) (hR : rm_G_valves.frames + 1 ≤ R.frames ∧ 8 + (2 + 11) + rm_G_valves.locals ≤ R.locals) : CallW R s args "GearModulesLaw" "GearModules" 41 y_G_valves b_G_valves 2 (some .int) (Cond.code y_G_valves b_G_valves 2 (some .int) :: gm_A) rm_G_valves 0 0 1 :=
  cwV 1 hts (gm_good (gm_wsV (gm_in 245 (by decide +kernel) rfl) (gm_in 246 (by decide +kernel) rfl) (gm_in 247 (by decide +kernel) rfl) (gm_in 28 (by decide +kernel) rfl) (gm_in 248 (by decide +kernel) rfl))) rfl rfl rfl (by decide +kernel) hR
theorem gk_L_45 (hts : ∀ w ∈ gm_A, w.before args s = true) (hR : rm_R_valves.frames + 1 ≤ R.frames ∧ 8 + (2 + 11) + rm_R_valves.locals ≤ R.locals) : CallW R s args "GearModulesLaw" "GearModulesModel" 45 y_R_valves b_R_valves 2 (some .int) (Cond.code y_R_valves b_R_valves 2 (some .int) :: gm_A) rm_R_valves 0 0 1 :=
  cwV 1 hts (gm_good (gm_wsV (gm_in 437 (by decide +kernel) rfl) (gm_in 438 (by decide +kernel) rfl) (gm_in 439 (by decide +kernel) rfl) (gm_in 31 (by decide +kernel) rfl) (gm_in 440 (by decide +kernel) rfl))) rfl rfl rfl (by decide +kernel) hR
theorem gk_L_46 (hts : ∀ w ∈ gm_A, w.before args s = true) (hR : rm_G_sensor.frames + 1 ≤ R.frames ∧ 8 + (3 + 11) + rm_G_sensor.locals ≤ R.locals) : CallW R s args "GearModulesLaw" "GearModules" 46 y_G_sensor b_G_sensor 3 (some .int) (Cond.code y_G_sensor b_G_sensor 3 (some .int) :: gm_A) rm_G_sensor 0 0 2 :=
  cwV 2 hts (gm_good (gm_wsV (gm_in 253 (by decide +kernel) rfl) (gm_in 254 (by decide +kernel) rfl) (gm_in 255 (by decide +kernel) rfl) (gm_in 28 (by decide +kernel) rfl) (gm_in 256 (by decide +kernel) rfl))) rfl rfl rfl (by decide +kernel) hR
theorem gk_L_49 (hts : ∀ w ∈ gm_A, w.before args s = true) (hR : rm_R_sensor.frames + 1 ≤ R.frames ∧ 8 + (5 + 11) + rm_R_sensor.locals ≤ R.locals) : CallW R s args "GearModulesLaw" "GearModulesModel" 49 y_R_sensor b_R_sensor 5 (some .int) (Cond.code y_R_sensor b_R_sensor 5 (some .int) :: gm_A) rm_R_sensor 0 0 2 :=
  cwV 2 hts (gm_good (gm_wsV (gm_in 445 (by decide +kernel) rfl) (gm_in 446 (by decide +kernel) rfl) (gm_in 447 (by decide +kernel) rfl) (gm_in 31 (by decide +kernel) rfl) (gm_in 448 (by decide +kernel) rfl))) rfl rfl rfl (by decide +kernel) hR
theorem gk_L_50 (hts : ∀ w ∈ gm_A, w.before args s = true) (hR : rm_G_anomalies.frames + 1 ≤ R.frames ∧ 8 + (2 + 11) + rm_G_anomalies.locals ≤ R.locals) : CallW R s args "GearModulesLaw" "GearModules" 50 y_G_anomalies b_G_anomalies 2 (some .int) (Cond.code y_G_anomalies b_G_anomalies 2 (some .int) :: gm_A) rm_G_anomalies 0 0 1 :=
  cwV 1 hts (gm_good (gm_wsV (gm_in 261 (by decide +kernel) rfl) (gm_in 262 (by decide +kernel) rfl) (gm_in 263 (by decide +kernel) rfl) (gm_in 28 (by decide +kernel) rfl) (gm_in 264 (by decide +kernel) rfl))) rfl rfl rfl (by decide +kernel) hR
theorem gk_L_53 (hts : ∀ w ∈ gm_A, w.before args s = true) (hR : rm_R_anomalies.frames + 1 ≤ R.frames ∧ 8 + (4 + 11) + rm_R_anomalies.locals ≤ R.locals) : CallW R s args "GearModulesLaw" "GearModulesModel" 53 y_R_anomalies b_R_anomalies 4 (some .int) (Cond.code y_R_anomalies b_R_anomalies 4 (some .int) :: gm_A) rm_R_anomalies 0 0 1 :=
  cwV 1 hts (gm_good (gm_wsV (gm_in 449 (by decide +kernel) rfl) (gm_in 450 (by decide +kernel) rfl) (gm_in 451 (by decide +kernel) rfl) (gm_in 31 (by decide +kernel) rfl) (gm_in 452 (by decide +kernel) rfl))) rfl rfl rfl (by decide +kernel) hR
theorem gk_L_54 (hts : ∀ w ∈ gm_A, w.before args s = true) (hR : rm_G_running.frames + 1 ≤ R.frames ∧ 8 + (3 + 11) + rm_G_running.locals ≤ R.locals) : CallW R s args "GearModulesLaw" "GearModules" 54 y_G_running b_G_running 3 (some .int) (Cond.code y_G_running b_G_running 3 (some .int) :: gm_A) rm_G_running 0 0 2 :=
  cwV 2 hts (gm_good (gm_wsV (gm_in 265 (by decide +kernel) rfl) (gm_in 266 (by decide +kernel) rfl) (gm_in 267 (by decide +kernel) rfl) (gm_in 28 (by decide +kernel) rfl) (gm_in 268 (by decide +kernel) rfl))) rfl rfl rfl (by decide +kernel) hR
theorem gk_L_57 (hts : ∀ w ∈ gm_A, w.before args s = true) (hR : rm_R_running.frames + 1 ≤ R.frames ∧ 8 + (3 + 11) + rm_R_running.locals ≤ R.locals) : CallW R s args "GearModulesLaw" "GearModulesModel" 57 y_R_running b_R_running 3 (some .int) (Cond.code y_R_running b_R_running 3 (some .int) :: gm_A) rm_R_running 0 0 2 :=
  cwV 2 hts (gm_good (gm_wsV (gm_in 453 (by decide +kernel) rfl) (gm_in 454 (by decide +kernel) rfl) (gm_in 455 (by decide +kernel) rfl) (gm_in 31 (by decide +kernel) rfl) (gm_in 456 (by decide +kernel) rfl))) rfl rfl rfl (by decide +kernel) hR
theorem gk_L_58 (hts : ∀ w ∈ gm_A, w.before args s = true) (hR : rm_G_lights.frames + 1 ≤ R.frames ∧ 8 + (4 + 11) + rm_G_lights.locals ≤ R.locals) : CallW R s args "GearModulesLaw" "GearModules" 58 y_G_lights b_G_lights 4 (some .int) (Cond.code y_G_lights b_G_lights 4 (some .int) :: gm_A) rm_G_lights 0 0 0 :=
  cwV 0 hts (gm_good (gm_wsV (gm_in 269 (by decide +kernel) rfl) (gm_in 270 (by decide +kernel) rfl) (gm_in 271 (by decide +kernel) rfl) (gm_in 28 (by decide +kernel) rfl) (gm_in 272 (by decide +kernel) rfl))) rfl rfl rfl (by decide +kernel) hR
theorem gk_L_61 (hts : ∀ w ∈ gm_A, w.before args s = true) (hR : rm_R_lights.frames + 1 ≤ R.frames ∧ 8 + (4 + 11) + rm_R_lights.locals ≤ R.locals) : CallW R s args "GearModulesLaw" "GearModulesModel" 61 y_R_lights b_R_lights 4 (some .int) (Cond.code y_R_lights b_R_lights 4 (some .int) :: gm_A) rm_R_lights 0 0 0 :=
  cwV 0 hts (gm_good (gm_wsV (gm_in 457 (by decide +kernel) rfl) (gm_in 458 (by decide +kernel) rfl) (gm_in 459 (by decide +kernel) rfl) (gm_in 31 (by decide +kernel) rfl) (gm_in 460 (by decide +kernel) rfl))) rfl rfl rfl (by decide +kernel) hR
theorem gk_L_62 (hts : ∀ w ∈ gm_A, w.before args s = true) (hR : rm_G_entry.frames + 1 ≤ R.frames ∧ 8 + (2 + 11) + rm_G_entry.locals ≤ R.locals) : CallW R s args "GearModulesLaw" "GearModules" 62 y_G_entry b_G_entry 2 (some .long) (Cond.code y_G_entry b_G_entry 2 (some .long) :: gm_A) rm_G_entry 0 0 1 :=
  cwV 1 hts (gm_good (gm_wsV (gm_in 274 (by decide +kernel) rfl) (gm_in 275 (by decide +kernel) rfl) (gm_in 276 (by decide +kernel) rfl) (gm_in 28 (by decide +kernel) rfl) (gm_in 277 (by decide +kernel) rfl))) rfl rfl rfl (by decide +kernel) hR
theorem gk_L_66 (hts : ∀ w ∈ gm_A, w.before args s = true) (hR : rm_R_entry.frames + 1 ≤ R.frames ∧ 8 + (3 + 11) + rm_R_entry.locals ≤ R.locals) : CallW R s args "GearModulesLaw" "GearModulesModel" 66 y_R_entry b_R_entry 3 (some .long) (Cond.code y_R_entry b_R_entry 3 (some .long) :: gm_A) rm_R_entry 0 0 1 :=
  cwV 1 hts (gm_good (gm_wsV (gm_in 463 (by decide +kernel) rfl) (gm_in 464 (by decide +kernel) rfl) (gm_in 465 (by decide +kernel) rfl) (gm_in 31 (by decide +kernel) rfl) (gm_in 466 (by decide +kernel) rfl))) rfl rfl rfl (by decide +kernel) hR
theorem gk_L_67 (hts : ∀ w ∈ gm_A, w.before args s = true) (hR : rm_G_word.frames + 1 ≤ R.frames ∧ 8 + (5 + 11) + rm_G_word.locals ≤ R.locals) : CallW R s args "GearModulesLaw" "GearModules" 67 y_G_word b_G_word 5 (some .int) (Cond.code y_G_word b_G_word 5 (some .int) :: gm_A) rm_G_word 0 0 2 :=
  cwV 2 hts (gm_good (gm_wsV (gm_in 279 (by decide +kernel) rfl) (gm_in 280 (by decide +kernel) rfl) (gm_in 281 (by decide +kernel) rfl) (gm_in 28 (by decide +kernel) rfl) (gm_in 282 (by decide +kernel) rfl))) rfl rfl rfl (by decide +kernel) hR
theorem gk_L_70 (hts : ∀ w ∈ gm_A, w.before args s = true) (hR : rm_R_word.frames + 1 ≤ R.frames ∧ 8 + (5 + 11) + rm_R_word.locals ≤ R.locals) : CallW R s args "GearModulesLaw" "GearModulesModel" 70 y_R_word b_R_word 5 (some .int) (Cond.code y_R_word b_R_word 5 (some .int) :: gm_A) rm_R_word 0 0 2 :=
  cwV 2 hts (gm_good (gm_wsV (gm_in 468 (by decide +kernel) rfl) (gm_in 469 (by decide +kernel) rfl) (gm_in 470 (by decide +kernel) rfl) (gm_in 31 (by decide +kernel) rfl) (gm_in 471 (by decide +kernel) rfl))) rfl rfl rfl (by decide +kernel) hR
theorem gk_L_71 (hts : ∀ w ∈ gm_A, w.before args s = true) (hR : rm_G_label.frames + 1 ≤ R.frames ∧ 8 + (4 + 11) + rm_G_label.locals ≤ R.locals) : CallW R s args "GearModulesLaw" "GearModules" 71 y_G_label b_G_label 4 (some .int) (Cond.code y_G_label b_G_label 4 (some .int) :: gm_A) rm_G_label 0 0 1 :=
  cwV 1 hts (gm_good (gm_wsV (gm_in 300 (by decide +kernel) rfl) (gm_in 301 (by decide +kernel) rfl) (gm_in 302 (by decide +kernel) rfl) (gm_in 28 (by decide +kernel) rfl) (gm_in 303 (by decide +kernel) rfl))) rfl rfl rfl (by decide +kernel) hR
theorem gk_L_74 (hts : ∀ w ∈ gm_A, w.before args s = true) (hR : rm_R_label.frames + 1 ≤ R.frames ∧ 8 + (4 + 11) + rm_R_label.locals ≤ R.locals) : CallW R s args "GearModulesLaw" "GearModulesModel" 74 y_R_label b_R_label 4 (some .int) (Cond.code y_R_label b_R_label 4 (some .int) :: gm_A) rm_R_label 0 0 1 :=
  cwV 1 hts (gm_good (gm_wsV (gm_in 476 (by decide +kernel) rfl) (gm_in 477 (by decide +kernel) rfl) (gm_in 478 (by decide +kernel) rfl) (gm_in 31 (by decide +kernel) rfl) (gm_in 479 (by decide +kernel) rfl))) rfl rfl rfl (by decide +kernel) hR
end GMK
end
section
def pc_i1 (x : Int32) : Int32 := (x - (((x).toUInt32 >>> (((1 : Int32)).toUInt32 &&& Int32.toUInt32 31)).toInt32 &&& (1431655765 : Int32)))
def pc_i2 (x : Int32) : Int32 := ((x &&& (858993459 : Int32)) + (((x).toUInt32 >>> (((2 : Int32)).toUInt32 &&& Int32.toUInt32 31)).toInt32 &&& (858993459 : Int32)))
def pc_i3 (x : Int32) : Int32 := ((x + ((x).toUInt32 >>> (((4 : Int32)).toUInt32 &&& Int32.toUInt32 31)).toInt32) &&& (252645135 : Int32))
def pc_i4 (x : Int32) : Int32 := (x + ((x).toUInt32 >>> (((8 : Int32)).toUInt32 &&& Int32.toUInt32 31)).toInt32)
def pc_i5 (x : Int32) : Int32 := (x + ((x).toUInt32 >>> (((16 : Int32)).toUInt32 &&& Int32.toUInt32 31)).toInt32)
theorem d_I_bitCount_0 : decode b_I_bitCount 0 = .ok (.iload_n 0, 1) := by decide +kernel
theorem d_I_bitCount_1 : decode b_I_bitCount 1 = .ok (.iload_n 0, 1) := by decide +kernel
theorem d_I_bitCount_2 : decode b_I_bitCount 2 = .ok (.iconst 1, 1) := by decide +kernel
theorem d_I_bitCount_3 : decode b_I_bitCount 3 = .ok (.iushr, 1) := by decide +kernel
theorem d_I_bitCount_4 : decode b_I_bitCount 4 = .ok (.ldc_w 265, 3) := by decide +kernel
theorem d_I_bitCount_7 : decode b_I_bitCount 7 = .ok (.iand, 1) := by decide +kernel
theorem d_I_bitCount_8 : decode b_I_bitCount 8 = .ok (.isub, 1) := by decide +kernel
theorem d_I_bitCount_9 : decode b_I_bitCount 9 = .ok (.istore_n 0, 1) := by decide +kernel
theorem d_I_bitCount_10 : decode b_I_bitCount 10 = .ok (.iload_n 0, 1) := by decide +kernel
theorem d_I_bitCount_11 : decode b_I_bitCount 11 = .ok (.ldc_w 266, 3) := by decide +kernel
theorem d_I_bitCount_14 : decode b_I_bitCount 14 = .ok (.iand, 1) := by decide +kernel
theorem d_I_bitCount_15 : decode b_I_bitCount 15 = .ok (.iload_n 0, 1) := by decide +kernel
theorem d_I_bitCount_16 : decode b_I_bitCount 16 = .ok (.iconst 2, 1) := by decide +kernel
theorem d_I_bitCount_17 : decode b_I_bitCount 17 = .ok (.iushr, 1) := by decide +kernel
theorem d_I_bitCount_18 : decode b_I_bitCount 18 = .ok (.ldc_w 266, 3) := by decide +kernel
theorem d_I_bitCount_21 : decode b_I_bitCount 21 = .ok (.iand, 1) := by decide +kernel
theorem d_I_bitCount_22 : decode b_I_bitCount 22 = .ok (.iadd, 1) := by decide +kernel
theorem d_I_bitCount_23 : decode b_I_bitCount 23 = .ok (.istore_n 0, 1) := by decide +kernel
theorem d_I_bitCount_24 : decode b_I_bitCount 24 = .ok (.iload_n 0, 1) := by decide +kernel
theorem d_I_bitCount_25 : decode b_I_bitCount 25 = .ok (.iload_n 0, 1) := by decide +kernel
theorem d_I_bitCount_26 : decode b_I_bitCount 26 = .ok (.iconst 4, 1) := by decide +kernel
theorem d_I_bitCount_27 : decode b_I_bitCount 27 = .ok (.iushr, 1) := by decide +kernel
theorem d_I_bitCount_28 : decode b_I_bitCount 28 = .ok (.iadd, 1) := by decide +kernel
theorem d_I_bitCount_29 : decode b_I_bitCount 29 = .ok (.ldc_w 267, 3) := by decide +kernel
theorem d_I_bitCount_32 : decode b_I_bitCount 32 = .ok (.iand, 1) := by decide +kernel
theorem d_I_bitCount_33 : decode b_I_bitCount 33 = .ok (.istore_n 0, 1) := by decide +kernel
theorem d_I_bitCount_34 : decode b_I_bitCount 34 = .ok (.iload_n 0, 1) := by decide +kernel
theorem d_I_bitCount_35 : decode b_I_bitCount 35 = .ok (.iload_n 0, 1) := by decide +kernel
theorem d_I_bitCount_36 : decode b_I_bitCount 36 = .ok (.bipush 8, 2) := by decide +kernel
theorem d_I_bitCount_38 : decode b_I_bitCount 38 = .ok (.iushr, 1) := by decide +kernel
theorem d_I_bitCount_39 : decode b_I_bitCount 39 = .ok (.iadd, 1) := by decide +kernel
theorem d_I_bitCount_40 : decode b_I_bitCount 40 = .ok (.istore_n 0, 1) := by decide +kernel
theorem d_I_bitCount_41 : decode b_I_bitCount 41 = .ok (.iload_n 0, 1) := by decide +kernel
theorem d_I_bitCount_42 : decode b_I_bitCount 42 = .ok (.iload_n 0, 1) := by decide +kernel
theorem d_I_bitCount_43 : decode b_I_bitCount 43 = .ok (.bipush 16, 2) := by decide +kernel
theorem d_I_bitCount_45 : decode b_I_bitCount 45 = .ok (.iushr, 1) := by decide +kernel
theorem d_I_bitCount_46 : decode b_I_bitCount 46 = .ok (.iadd, 1) := by decide +kernel
theorem d_I_bitCount_47 : decode b_I_bitCount 47 = .ok (.istore_n 0, 1) := by decide +kernel
theorem d_I_bitCount_48 : decode b_I_bitCount 48 = .ok (.iload_n 0, 1) := by decide +kernel
theorem d_I_bitCount_49 : decode b_I_bitCount 49 = .ok (.bipush 63, 2) := by decide +kernel
theorem d_I_bitCount_51 : decode b_I_bitCount 51 = .ok (.iand, 1) := by decide +kernel
theorem d_I_bitCount_52 : decode b_I_bitCount 52 = .ok (.ireturn, 1) := by decide +kernel
def v_I_bitCount (x : Int32) : Int32 := ((pc_i5 (pc_i4 (pc_i3 (pc_i2 (pc_i1 x))))) &&& (63 : Int32))
set_option maxRecDepth 100000 in
set_option maxHeartbeats 4000000 in
theorem c_I_bitCount {l : Launch} {D : va_G} {dk : Nat → ClassId} {Wd : gm_St → va_W} {A : Nat → Prop} {lt : Nat} {u : gm_St} {x : Int32} : gm_I l D (gm_ty dk) Wd A lt y_I_bitCount b_I_bitCount 1 (some .int) rm_I_bitCount [.int x] u (v_I_bitCount x) u := by
  refine gm_enterI (by decide) (Nat.le_of_ble_eq_true rfl) ?_
  intro p e s m args below meth c ls Q H locs hF hM hl hQ
  have hx := hF.1
  have hb := hF.2.1
  have hml := hF.2.2.1
  have hown := hF.2.2.2.1
  have hts := hF.2.2.2.2.1
  have hl : lv_has ls 1 [(0, .int x)] := hl
  refine lv_iload_n hx hb d_I_bitCount_0 rfl (lv_at hl 0 rfl) ?_
  refine lv_iload_n hx hb d_I_bitCount_1 rfl (lv_at hl 0 rfl) ?_
  refine lv_iconst (v := 1) hx hb d_I_bitCount_2 (by decide) ?_
  refine lv_iushr hx hb d_I_bitCount_3 rfl ?_
  refine lv_ldcw (v := 1431655765) hx hb hown (hts _ (gm_in 150 (by decide +kernel) rfl)) d_I_bitCount_4 ?_
  refine lv_iand hx hb d_I_bitCount_7 ?_
  refine lv_isub hx hb d_I_bitCount_8 ?_
  refine gm_tp (y := (pc_i1 x)) rfl ?_
  refine lv_istore_n (lv' := [(0, .int (pc_i1 x))]) hx hb d_I_bitCount_9 rfl hl (by decide) rfl (fun ls hl => ?_)
  refine lv_iload_n hx hb d_I_bitCount_10 rfl (lv_at hl 0 rfl) ?_
  refine lv_ldcw (v := 858993459) hx hb hown (hts _ (gm_in 151 (by decide +kernel) rfl)) d_I_bitCount_11 ?_
  refine lv_iand hx hb d_I_bitCount_14 ?_
  refine lv_iload_n hx hb d_I_bitCount_15 rfl (lv_at hl 0 rfl) ?_
  refine lv_iconst (v := 2) hx hb d_I_bitCount_16 (by decide) ?_
  refine lv_iushr hx hb d_I_bitCount_17 rfl ?_
  refine lv_ldcw (v := 858993459) hx hb hown (hts _ (gm_in 151 (by decide +kernel) rfl)) d_I_bitCount_18 ?_
  refine lv_iand hx hb d_I_bitCount_21 ?_
  refine lv_iadd hx hb d_I_bitCount_22 ?_
  refine gm_tp (y := (pc_i2 (pc_i1 x))) rfl ?_
  refine lv_istore_n (lv' := [(0, .int (pc_i2 (pc_i1 x)))]) hx hb d_I_bitCount_23 rfl hl (by decide) rfl (fun ls hl => ?_)
  refine lv_iload_n hx hb d_I_bitCount_24 rfl (lv_at hl 0 rfl) ?_
  refine lv_iload_n hx hb d_I_bitCount_25 rfl (lv_at hl 0 rfl) ?_
  refine lv_iconst (v := 4) hx hb d_I_bitCount_26 (by decide) ?_
  refine lv_iushr hx hb d_I_bitCount_27 rfl ?_
  refine lv_iadd hx hb d_I_bitCount_28 ?_
  refine lv_ldcw (v := 252645135) hx hb hown (hts _ (gm_in 152 (by decide +kernel) rfl)) d_I_bitCount_29 ?_
  refine lv_iand hx hb d_I_bitCount_32 ?_
  refine gm_tp (y := (pc_i3 (pc_i2 (pc_i1 x)))) rfl ?_
  refine lv_istore_n (lv' := [(0, .int (pc_i3 (pc_i2 (pc_i1 x))))]) hx hb d_I_bitCount_33 rfl hl (by decide) rfl (fun ls hl => ?_)
  refine lv_iload_n hx hb d_I_bitCount_34 rfl (lv_at hl 0 rfl) ?_
  refine lv_iload_n hx hb d_I_bitCount_35 rfl (lv_at hl 0 rfl) ?_
  refine lv_bipush (v := 8) hx hb d_I_bitCount_36 (by decide) ?_
  refine lv_iushr hx hb d_I_bitCount_38 rfl ?_
  refine lv_iadd hx hb d_I_bitCount_39 ?_
  refine gm_tp (y := (pc_i4 (pc_i3 (pc_i2 (pc_i1 x))))) rfl ?_
  refine lv_istore_n (lv' := [(0, .int (pc_i4 (pc_i3 (pc_i2 (pc_i1 x)))))]) hx hb d_I_bitCount_40 rfl hl (by decide) rfl (fun ls hl => ?_)
  refine lv_iload_n hx hb d_I_bitCount_41 rfl (lv_at hl 0 rfl) ?_
  refine lv_iload_n hx hb d_I_bitCount_42 rfl (lv_at hl 0 rfl) ?_
  refine lv_bipush (v := 16) hx hb d_I_bitCount_43 (by decide) ?_
  refine lv_iushr hx hb d_I_bitCount_45 rfl ?_
  refine lv_iadd hx hb d_I_bitCount_46 ?_
  refine gm_tp (y := (pc_i5 (pc_i4 (pc_i3 (pc_i2 (pc_i1 x)))))) rfl ?_
  refine lv_istore_n (lv' := [(0, .int (pc_i5 (pc_i4 (pc_i3 (pc_i2 (pc_i1 x))))))]) hx hb d_I_bitCount_47 rfl hl (by decide) rfl (fun ls hl => ?_)
  refine lv_iload_n hx hb d_I_bitCount_48 rfl (lv_at hl 0 rfl) ?_
  refine lv_bipush (v := 63) hx hb d_I_bitCount_49 (by decide) ?_
  refine lv_iand hx hb d_I_bitCount_51 ?_
  have hq := hQ H locs 52 ls
  simp only [v_I_bitCount] at hq
  exact hq hM d_I_bitCount_52
theorem d_S_reset_0 : decode b_S_reset 0 = .ok (.aload_n 0, 1) := by decide +kernel
theorem d_S_reset_1 : decode b_S_reset 1 = .ok (.iconst 0, 1) := by decide +kernel
theorem d_S_reset_2 : decode b_S_reset 2 = .ok (.putfield 15, 3) := by decide +kernel
theorem d_S_reset_5 : decode b_S_reset 5 = .ok (.aload_n 0, 1) := by decide +kernel
theorem d_S_reset_6 : decode b_S_reset 6 = .ok (.iconst 0, 1) := by decide +kernel
theorem d_S_reset_7 : decode b_S_reset 7 = .ok (.putfield 19, 3) := by decide +kernel
theorem d_S_reset_10 : decode b_S_reset 10 = .ok (.aload_n 0, 1) := by decide +kernel
theorem d_S_reset_11 : decode b_S_reset 11 = .ok (.bipush 7, 2) := by decide +kernel
theorem d_S_reset_13 : decode b_S_reset 13 = .ok (.putfield 9, 3) := by decide +kernel
theorem d_S_reset_16 : decode b_S_reset 16 = .ok (.return_, 1) := by decide +kernel
def s_S_reset (u : gm_St) (i : Nat) : gm_St := (gm_sG (gm_sB (gm_sB u 0 i false) 1 i false) 0 i (7 : Int32))
set_option maxRecDepth 100000 in
set_option maxHeartbeats 4000000 in
theorem c_S_reset {l : Launch} {D : va_G} {dk : Nat → ClassId} {a : Nat → Nat} {A : Nat → Prop} {lt : Nat} {u : gm_St} {i : Nat} (hi : i < 12) : gm_V l D (gm_ty dk) (gm_W dk a) A lt y_S_reset b_S_reset 1 rm_S_reset [.ref (a (9 + i))] u (s_S_reset u i) := by
  refine gm_enterV (by decide) (Nat.le_of_ble_eq_true rfl) ?_
  intro p e s m args below meth c ls Q H locs hF hM hl hQ
  have hx := hF.1
  have hb := hF.2.1
  have hml := hF.2.2.1
  have hown := hF.2.2.2.1
  have hts := hF.2.2.2.2.1
  have hl : lv_has ls 1 [(0, .ref (a (9 + i)))] := hl
  refine lv_aload_n hx hb d_S_reset_0 rfl (lv_at hl 0 rfl) ?_
  refine lv_iconst (v := 0) hx hb d_S_reset_1 (by decide) ?_
  refine gp_S_15 hF hM (by omega) (x := false) rfl d_S_reset_2 (fun H locs hM => ?_)
  refine lv_aload_n hx hb d_S_reset_5 rfl (lv_at hl 0 rfl) ?_
  refine lv_iconst (v := 0) hx hb d_S_reset_6 (by decide) ?_
  refine gp_S_19 hF hM (by omega) (x := false) rfl d_S_reset_7 (fun H locs hM => ?_)
  refine lv_aload_n hx hb d_S_reset_10 rfl (lv_at hl 0 rfl) ?_
  refine lv_bipush (v := 7) hx hb d_S_reset_11 (by decide) ?_
  refine gp_S_9 hF hM (by omega) d_S_reset_13 (fun H locs hM => ?_)
  have hq := hQ H locs 16 ls
  simp only [s_S_reset] at hq
  exact hq hM d_S_reset_16
theorem d_S_voteOfThree_0 : decode b_S_voteOfThree 0 = .ok (.aload_n 0, 1) := by decide +kernel
theorem d_S_voteOfThree_1 : decode b_S_voteOfThree 1 = .ok (.iload_n 1, 1) := by decide +kernel
theorem d_S_voteOfThree_2 : decode b_S_voteOfThree 2 = .ok (.invokestatic 29, 3) := by decide +kernel
theorem d_S_voteOfThree_5 : decode b_S_voteOfThree 5 = .ok (.iconst 2, 1) := by decide +kernel
theorem d_S_voteOfThree_6 : decode b_S_voteOfThree 6 = .ok (.if_icmp .lt 7, 3) := by decide +kernel
theorem d_S_voteOfThree_9 : decode b_S_voteOfThree 9 = .ok (.iconst 1, 1) := by decide +kernel
theorem d_S_voteOfThree_10 : decode b_S_voteOfThree 10 = .ok (.goto 4, 3) := by decide +kernel
theorem d_S_voteOfThree_13 : decode b_S_voteOfThree 13 = .ok (.iconst 0, 1) := by decide +kernel
theorem d_S_voteOfThree_14 : decode b_S_voteOfThree 14 = .ok (.putfield 15, 3) := by decide +kernel
theorem d_S_voteOfThree_17 : decode b_S_voteOfThree 17 = .ok (.aload_n 0, 1) := by decide +kernel
theorem d_S_voteOfThree_18 : decode b_S_voteOfThree 18 = .ok (.aload_n 0, 1) := by decide +kernel
theorem d_S_voteOfThree_19 : decode b_S_voteOfThree 19 = .ok (.getfield 15, 3) := by decide +kernel
theorem d_S_voteOfThree_22 : decode b_S_voteOfThree 22 = .ok (.ifCond .eq 7, 3) := by decide +kernel
theorem d_S_voteOfThree_25 : decode b_S_voteOfThree 25 = .ok (.iload_n 1, 1) := by decide +kernel
theorem d_S_voteOfThree_26 : decode b_S_voteOfThree 26 = .ok (.goto 9, 3) := by decide +kernel
theorem d_S_voteOfThree_29 : decode b_S_voteOfThree 29 = .ok (.bipush 7, 2) := by decide +kernel
theorem d_S_voteOfThree_31 : decode b_S_voteOfThree 31 = .ok (.iload_n 1, 1) := by decide +kernel
theorem d_S_voteOfThree_32 : decode b_S_voteOfThree 32 = .ok (.iconst (-1), 1) := by decide +kernel
theorem d_S_voteOfThree_33 : decode b_S_voteOfThree 33 = .ok (.ixor, 1) := by decide +kernel
theorem d_S_voteOfThree_34 : decode b_S_voteOfThree 34 = .ok (.iand, 1) := by decide +kernel
theorem d_S_voteOfThree_35 : decode b_S_voteOfThree 35 = .ok (.putfield 9, 3) := by decide +kernel
theorem d_S_voteOfThree_38 : decode b_S_voteOfThree 38 = .ok (.return_, 1) := by decide +kernel
def s_S_voteOfThree (u : gm_St) (i : Nat) (ch : Int32) : gm_St := (gm_sG (gm_sB u 0 i (if (v_I_bitCount ch) < (2 : Int32) then false else true)) 0 i (if ((gm_sB u 0 i (if (v_I_bitCount ch) < (2 : Int32) then false else true)).1 0 i) = true then ch else ((7 : Int32) &&& (ch ^^^ (-1 : Int32)))))
set_option maxRecDepth 100000 in
set_option maxHeartbeats 4000000 in
theorem c_S_voteOfThree {l : Launch} {D : va_G} {dk : Nat → ClassId} {a : Nat → Nat} {A : Nat → Prop} {lt : Nat} {u : gm_St} {i : Nat} {ch : Int32} (hi : i < 12) : gm_V l D (gm_ty dk) (gm_W dk a) A lt y_S_voteOfThree b_S_voteOfThree 2 rm_S_voteOfThree [.ref (a (9 + i)), .int ch] u (s_S_voteOfThree u i ch) := by
  refine gm_enterV (by decide) (Nat.le_of_ble_eq_true rfl) ?_
  intro p e s m args below meth c ls Q H locs hF hM hl hQ
  have hx := hF.1
  have hb := hF.2.1
  have hml := hF.2.2.1
  have hown := hF.2.2.2.1
  have hts := hF.2.2.2.2.1
  have hl : lv_has ls 2 [(0, .ref (a (9 + i))), (1, .int ch)] := hl
  refine lv_aload_n hx hb d_S_voteOfThree_0 rfl (lv_at hl 0 rfl) ?_
  refine lv_iload_n hx hb d_S_voteOfThree_1 rfl (lv_at hl 1 rfl) ?_
  refine gm_Si (As := [.int ch]) (rest := [.ref (a (9 + i))]) hF hM (c_I_bitCount (u := u) (x := ch) ) (gk_S_29 hts ⟨by decide, by decide⟩) rfl hl.1 rfl (Nat.le_of_ble_eq_true rfl) ⟨Nat.zero_le _, Nat.zero_le _⟩ d_S_voteOfThree_2 (fun H locs hM => ?_)
  refine lv_iconst (v := 2) hx hb d_S_voteOfThree_5 (by decide) ?_
  have J2 : ∀ (ls : Array Slot) (H : Heap) (locs : List Loc), lv_has ls 2 [(0, .ref (a (9 + i))), (1, .int ch)] → gm_M D A s (gm_W dk a) u H locs → W p l e rm_S_voteOfThree s m args below meth c H locs 0 0 Q (F0 m 14 ls [.int (gm_b (if (v_I_bitCount ch) < (2 : Int32) then false else true)), .ref (a (9 + i))]) := by
    intro ls H locs hl hM
    refine gp_S_15 hF hM (by omega) (x := (if (v_I_bitCount ch) < (2 : Int32) then false else true)) rfl d_S_voteOfThree_14 (fun H locs hM => ?_)
    refine lv_aload_n hx hb d_S_voteOfThree_17 rfl (lv_at hl 0 rfl) ?_
    refine lv_aload_n hx hb d_S_voteOfThree_18 rfl (lv_at hl 0 rfl) ?_
    refine gf_S_15 hF hM (by omega) d_S_voteOfThree_19 ?_
    have J4 : ∀ (ls : Array Slot) (H : Heap) (locs : List Loc), lv_has ls 2 [(0, .ref (a (9 + i))), (1, .int ch)] → gm_M D A s (gm_W dk a) (gm_sB u 0 i (if (v_I_bitCount ch) < (2 : Int32) then false else true)) H locs → W p l e rm_S_voteOfThree s m args below meth c H locs 0 0 Q (F0 m 35 ls [.int (if ((gm_sB u 0 i (if (v_I_bitCount ch) < (2 : Int32) then false else true)).1 0 i) = true then ch else ((7 : Int32) &&& (ch ^^^ (-1 : Int32)))), .ref (a (9 + i))]) := by
      intro ls H locs hl hM
      refine gp_S_9 hF hM (by omega) d_S_voteOfThree_35 (fun H locs hM => ?_)
      have hq := hQ H locs 38 ls
      simp only [s_S_voteOfThree] at hq
      exact hq hM d_S_voteOfThree_38
    refine gm_ifz (b := ((gm_sB u 0 i (if (v_I_bitCount ch) < (2 : Int32) then false else true)).1 0 i)) (tgt := 29) hx hb d_S_voteOfThree_22 rfl (fun h3 => ?_) (fun h3 => ?_)
    · refine lv_bipush (v := 7) hx hb d_S_voteOfThree_29 (by decide) ?_
      refine lv_iload_n hx hb d_S_voteOfThree_31 rfl (lv_at hl 1 rfl) ?_
      refine lv_iconst (v := -1) hx hb d_S_voteOfThree_32 (by decide) ?_
      refine lv_ixor hx hb d_S_voteOfThree_33 ?_
      refine lv_iand hx hb d_S_voteOfThree_34 ?_
      have hJ := J4
      try simp only [if_neg (gm_nf h3)] at hJ
      exact hJ ls H locs hl hM
    · refine lv_iload_n hx hb d_S_voteOfThree_25 rfl (lv_at hl 1 rfl) ?_
      refine lv_goto (tgt := 35) hx hb d_S_voteOfThree_26 rfl ?_
      have hJ := J4
      try simp only [if_pos h3] at hJ
      exact hJ ls H locs hl hM
  refine lv_icmp_lt (tgt := 13) hx hb d_S_voteOfThree_6 rfl (fun h1 => ?_) (fun h1 => ?_)
  · refine lv_iconst (v := 0) hx hb d_S_voteOfThree_13 (by decide) ?_
    have hJ := J2
    try simp only [if_pos h1] at hJ
    exact hJ ls H locs hl hM
  · refine lv_iconst (v := 1) hx hb d_S_voteOfThree_9 (by decide) ?_
    refine lv_goto (tgt := 14) hx hb d_S_voteOfThree_10 rfl ?_
    have hJ := J2
    try simp only [if_neg h1] at hJ
    exact hJ ls H locs hl hM
theorem d_S_voteOfTwo_0 : decode b_S_voteOfTwo 0 = .ok (.iload_n 1, 1) := by decide +kernel
theorem d_S_voteOfTwo_1 : decode b_S_voteOfTwo 1 = .ok (.aload_n 0, 1) := by decide +kernel
theorem d_S_voteOfTwo_2 : decode b_S_voteOfTwo 2 = .ok (.getfield 9, 3) := by decide +kernel
theorem d_S_voteOfTwo_5 : decode b_S_voteOfTwo 5 = .ok (.if_icmp .ne 11, 3) := by decide +kernel
theorem d_S_voteOfTwo_8 : decode b_S_voteOfTwo 8 = .ok (.aload_n 0, 1) := by decide +kernel
theorem d_S_voteOfTwo_9 : decode b_S_voteOfTwo 9 = .ok (.iconst 1, 1) := by decide +kernel
theorem d_S_voteOfTwo_10 : decode b_S_voteOfTwo 10 = .ok (.putfield 15, 3) := by decide +kernel
theorem d_S_voteOfTwo_13 : decode b_S_voteOfTwo 13 = .ok (.goto 20, 3) := by decide +kernel
theorem d_S_voteOfTwo_16 : decode b_S_voteOfTwo 16 = .ok (.iload_n 1, 1) := by decide +kernel
theorem d_S_voteOfTwo_17 : decode b_S_voteOfTwo 17 = .ok (.ifCond .ne 11, 3) := by decide +kernel
theorem d_S_voteOfTwo_20 : decode b_S_voteOfTwo 20 = .ok (.aload_n 0, 1) := by decide +kernel
theorem d_S_voteOfTwo_21 : decode b_S_voteOfTwo 21 = .ok (.iconst 0, 1) := by decide +kernel
theorem d_S_voteOfTwo_22 : decode b_S_voteOfTwo 22 = .ok (.putfield 15, 3) := by decide +kernel
theorem d_S_voteOfTwo_25 : decode b_S_voteOfTwo 25 = .ok (.goto 8, 3) := by decide +kernel
theorem d_S_voteOfTwo_28 : decode b_S_voteOfTwo 28 = .ok (.aload_n 0, 1) := by decide +kernel
theorem d_S_voteOfTwo_29 : decode b_S_voteOfTwo 29 = .ok (.iconst 1, 1) := by decide +kernel
theorem d_S_voteOfTwo_30 : decode b_S_voteOfTwo 30 = .ok (.putfield 19, 3) := by decide +kernel
theorem d_S_voteOfTwo_33 : decode b_S_voteOfTwo 33 = .ok (.return_, 1) := by decide +kernel
def s_S_voteOfTwo (u : gm_St) (i : Nat) (ch : Int32) : gm_St := (if ch = (u.2.1 0 i) then (gm_sB u 0 i true) else (if ch = 0 then (gm_sB u 0 i false) else (gm_sB u 1 i true)))
set_option maxRecDepth 100000 in
set_option maxHeartbeats 4000000 in
theorem c_S_voteOfTwo {l : Launch} {D : va_G} {dk : Nat → ClassId} {a : Nat → Nat} {A : Nat → Prop} {lt : Nat} {u : gm_St} {i : Nat} {ch : Int32} (hi : i < 12) : gm_V l D (gm_ty dk) (gm_W dk a) A lt y_S_voteOfTwo b_S_voteOfTwo 2 rm_S_voteOfTwo [.ref (a (9 + i)), .int ch] u (s_S_voteOfTwo u i ch) := by
  refine gm_enterV (by decide) (Nat.le_of_ble_eq_true rfl) ?_
  intro p e s m args below meth c ls Q H locs hF hM hl hQ
  have hx := hF.1
  have hb := hF.2.1
  have hml := hF.2.2.1
  have hown := hF.2.2.2.1
  have hts := hF.2.2.2.2.1
  have hl : lv_has ls 2 [(0, .ref (a (9 + i))), (1, .int ch)] := hl
  refine lv_iload_n hx hb d_S_voteOfTwo_0 rfl (lv_at hl 1 rfl) ?_
  refine lv_aload_n hx hb d_S_voteOfTwo_1 rfl (lv_at hl 0 rfl) ?_
  refine gf_S_9 hF hM (by omega) d_S_voteOfTwo_2 ?_
  have J2 : ∀ (ls : Array Slot) (H : Heap) (locs : List Loc), lv_has ls 2 [(0, .ref (a (9 + i))), (1, .int ch)] → gm_M D A s (gm_W dk a) (if ch = (u.2.1 0 i) then (gm_sB u 0 i true) else (if ch = 0 then (gm_sB u 0 i false) else (gm_sB u 1 i true))) H locs → W p l e rm_S_voteOfTwo s m args below meth c H locs 0 0 Q (F0 m 33 ls []) := by
    intro ls H locs hl hM
    have hq := hQ H locs 33 ls
    simp only [s_S_voteOfTwo] at hq
    exact hq hM d_S_voteOfTwo_33
  refine lv_icmp_ne (tgt := 16) hx hb d_S_voteOfTwo_5 rfl (fun h1 => ?_) (fun h1 => ?_)
  · refine lv_iload_n hx hb d_S_voteOfTwo_16 rfl (lv_at hl 1 rfl) ?_
    refine lv_if_ne (tgt := 28) hx hb d_S_voteOfTwo_17 rfl (fun h3 => ?_) (fun h3 => ?_)
    · refine lv_aload_n hx hb d_S_voteOfTwo_28 rfl (lv_at hl 0 rfl) ?_
      refine lv_iconst (v := 1) hx hb d_S_voteOfTwo_29 (by decide) ?_
      refine gp_S_19 hF hM (by omega) (x := true) rfl d_S_voteOfTwo_30 (fun H locs hM => ?_)
      have hJ := J2
      try simp only [if_neg h1, if_neg h3] at hJ
      exact hJ ls H locs hl hM
    · refine lv_aload_n hx hb d_S_voteOfTwo_20 rfl (lv_at hl 0 rfl) ?_
      refine lv_iconst (v := 0) hx hb d_S_voteOfTwo_21 (by decide) ?_
      refine gp_S_15 hF hM (by omega) (x := false) rfl d_S_voteOfTwo_22 (fun H locs hM => ?_)
      refine lv_goto (tgt := 33) hx hb d_S_voteOfTwo_25 rfl ?_
      have hJ := J2
      try simp only [if_neg h1, if_pos h3] at hJ
      exact hJ ls H locs hl hM
  · refine lv_aload_n hx hb d_S_voteOfTwo_8 rfl (lv_at hl 0 rfl) ?_
    refine lv_iconst (v := 1) hx hb d_S_voteOfTwo_9 (by decide) ?_
    refine gp_S_15 hF hM (by omega) (x := true) rfl d_S_voteOfTwo_10 (fun H locs hM => ?_)
    refine lv_goto (tgt := 33) hx hb d_S_voteOfTwo_13 rfl ?_
    have hJ := J2
    try simp only [if_pos h1] at hJ
    exact hJ ls H locs hl hM
theorem d_S_vote_0 : decode b_S_vote 0 = .ok (.aload_n 0, 1) := by decide +kernel
theorem d_S_vote_1 : decode b_S_vote 1 = .ok (.getfield 19, 3) := by decide +kernel
theorem d_S_vote_4 : decode b_S_vote 4 = .ok (.ifCond .eq 5, 3) := by decide +kernel
theorem d_S_vote_7 : decode b_S_vote 7 = .ok (.iconst 0, 1) := by decide +kernel
theorem d_S_vote_8 : decode b_S_vote 8 = .ok (.ireturn, 1) := by decide +kernel
theorem d_S_vote_9 : decode b_S_vote 9 = .ok (.aload_n 0, 1) := by decide +kernel
theorem d_S_vote_10 : decode b_S_vote 10 = .ok (.getfield 9, 3) := by decide +kernel
theorem d_S_vote_13 : decode b_S_vote 13 = .ok (.bipush 7, 2) := by decide +kernel
theorem d_S_vote_15 : decode b_S_vote 15 = .ok (.if_icmp .ne 11, 3) := by decide +kernel
theorem d_S_vote_18 : decode b_S_vote 18 = .ok (.aload_n 0, 1) := by decide +kernel
theorem d_S_vote_19 : decode b_S_vote 19 = .ok (.iload_n 1, 1) := by decide +kernel
theorem d_S_vote_20 : decode b_S_vote 20 = .ok (.invokevirtual 22, 3) := by decide +kernel
theorem d_S_vote_23 : decode b_S_vote 23 = .ok (.goto 13, 3) := by decide +kernel
theorem d_S_vote_26 : decode b_S_vote 26 = .ok (.aload_n 0, 1) := by decide +kernel
theorem d_S_vote_27 : decode b_S_vote 27 = .ok (.iload_n 1, 1) := by decide +kernel
theorem d_S_vote_28 : decode b_S_vote 28 = .ok (.aload_n 0, 1) := by decide +kernel
theorem d_S_vote_29 : decode b_S_vote 29 = .ok (.getfield 9, 3) := by decide +kernel
theorem d_S_vote_32 : decode b_S_vote 32 = .ok (.iand, 1) := by decide +kernel
theorem d_S_vote_33 : decode b_S_vote 33 = .ok (.invokevirtual 26, 3) := by decide +kernel
theorem d_S_vote_36 : decode b_S_vote 36 = .ok (.aload_n 0, 1) := by decide +kernel
theorem d_S_vote_37 : decode b_S_vote 37 = .ok (.getfield 19, 3) := by decide +kernel
theorem d_S_vote_40 : decode b_S_vote 40 = .ok (.ireturn, 1) := by decide +kernel
def v_S_vote (u : gm_St) (i : Nat) (ch : Int32) : Bool := (if (u.1 1 i) = true then false else ((if (u.2.1 0 i) = (7 : Int32) then (s_S_voteOfThree u i ch) else (s_S_voteOfTwo u i (ch &&& (u.2.1 0 i)))).1 1 i))
def s_S_vote (u : gm_St) (i : Nat) (ch : Int32) : gm_St := (if (u.1 1 i) = true then u else (if (u.2.1 0 i) = (7 : Int32) then (s_S_voteOfThree u i ch) else (s_S_voteOfTwo u i (ch &&& (u.2.1 0 i)))))
set_option maxRecDepth 100000 in
set_option maxHeartbeats 4000000 in
theorem c_S_vote {l : Launch} {D : va_G} {dk : Nat → ClassId} {a : Nat → Nat} {A : Nat → Prop} {lt : Nat} {u : gm_St} {i : Nat} {ch : Int32} (hi : i < 12) : gm_I l D (gm_ty dk) (gm_W dk a) A lt y_S_vote b_S_vote 2 (some .boolean) rm_S_vote [.ref (a (9 + i)), .int ch] u (gm_b (v_S_vote u i ch)) (s_S_vote u i ch) := by
  refine gm_enterZ (by decide) (Nat.le_of_ble_eq_true rfl) ?_
  intro p e s m args below meth c ls Q H locs hF hM hl hQ
  have hx := hF.1
  have hb := hF.2.1
  have hml := hF.2.2.1
  have hown := hF.2.2.2.1
  have hts := hF.2.2.2.2.1
  have hl : lv_has ls 2 [(0, .ref (a (9 + i))), (1, .int ch)] := hl
  refine lv_aload_n hx hb d_S_vote_0 rfl (lv_at hl 0 rfl) ?_
  refine gf_S_19 hF hM (by omega) d_S_vote_1 ?_
  refine gm_ifz (b := (u.1 1 i)) (tgt := 9) hx hb d_S_vote_4 rfl (fun h1 => ?_) (fun h1 => ?_)
  · refine lv_aload_n hx hb d_S_vote_9 rfl (lv_at hl 0 rfl) ?_
    refine gf_S_9 hF hM (by omega) d_S_vote_10 ?_
    refine lv_bipush (v := 7) hx hb d_S_vote_13 (by decide) ?_
    have J3 : ∀ (ls : Array Slot) (H : Heap) (locs : List Loc), lv_has ls 2 [(0, .ref (a (9 + i))), (1, .int ch)] → gm_M D A s (gm_W dk a) (if (u.2.1 0 i) = (7 : Int32) then (s_S_voteOfThree u i ch) else (s_S_voteOfTwo u i (ch &&& (u.2.1 0 i)))) H locs → W p l e rm_S_vote s m args below meth c H locs 0 0 Q (F0 m 36 ls []) := by
      intro ls H locs hl hM
      refine lv_aload_n hx hb d_S_vote_36 rfl (lv_at hl 0 rfl) ?_
      refine gf_S_19 hF hM (by omega) d_S_vote_37 ?_
      have hq := hQ H locs 40 ls
      simp only [v_S_vote, s_S_vote, if_neg (gm_nf h1)] at hq
      exact hq hM d_S_vote_40
    refine lv_icmp_ne (tgt := 26) hx hb d_S_vote_15 rfl (fun h2 => ?_) (fun h2 => ?_)
    · refine lv_aload_n hx hb d_S_vote_26 rfl (lv_at hl 0 rfl) ?_
      refine lv_iload_n hx hb d_S_vote_27 rfl (lv_at hl 1 rfl) ?_
      refine lv_aload_n hx hb d_S_vote_28 rfl (lv_at hl 0 rfl) ?_
      refine gf_S_9 hF hM (by omega) d_S_vote_29 ?_
      refine lv_iand hx hb d_S_vote_32 ?_
      refine gm_Vv (As := [.int (ch &&& (u.2.1 0 i))]) (rest := []) hF hM (c_S_voteOfTwo (u := u) (i := i) (ch := (ch &&& (u.2.1 0 i))) (by omega)) (gk_S_26 hts ⟨by decide, by decide⟩) (gv_S hF hM (by omega) rfl) rfl hl.1 rfl (Nat.le_of_ble_eq_true rfl) ⟨Nat.zero_le _, Nat.zero_le _⟩ d_S_vote_33 (fun H locs hM => ?_)
      have hJ := J3
      try simp only [if_neg h2] at hJ
      exact hJ ls H locs hl hM
    · refine lv_aload_n hx hb d_S_vote_18 rfl (lv_at hl 0 rfl) ?_
      refine lv_iload_n hx hb d_S_vote_19 rfl (lv_at hl 1 rfl) ?_
      refine gm_Vv (As := [.int ch]) (rest := []) hF hM (c_S_voteOfThree (u := u) (i := i) (ch := ch) (by omega)) (gk_S_22 hts ⟨by decide, by decide⟩) (gv_S hF hM (by omega) rfl) rfl hl.1 rfl (Nat.le_of_ble_eq_true rfl) ⟨Nat.zero_le _, Nat.zero_le _⟩ d_S_vote_20 (fun H locs hM => ?_)
      refine lv_goto (tgt := 36) hx hb d_S_vote_23 rfl ?_
      have hJ := J3
      try simp only [if_pos h2] at hJ
      exact hJ ls H locs hl hM
  · refine lv_iconst (v := 0) hx hb d_S_vote_7 (by decide) ?_
    have hq := hQ H locs 8 ls
    simp only [v_S_vote, s_S_vote, if_pos h1] at hq
    exact hq hM d_S_vote_8
theorem d_S_summary_0 : decode b_S_summary 0 = .ok (.aload_n 0, 1) := by decide +kernel
theorem d_S_summary_1 : decode b_S_summary 1 = .ok (.getfield 15, 3) := by decide +kernel
theorem d_S_summary_4 : decode b_S_summary 4 = .ok (.ifCond .eq 7, 3) := by decide +kernel
theorem d_S_summary_7 : decode b_S_summary 7 = .ok (.iconst 1, 1) := by decide +kernel
theorem d_S_summary_8 : decode b_S_summary 8 = .ok (.goto 4, 3) := by decide +kernel
theorem d_S_summary_11 : decode b_S_summary 11 = .ok (.iconst 0, 1) := by decide +kernel
theorem d_S_summary_12 : decode b_S_summary 12 = .ok (.aload_n 0, 1) := by decide +kernel
theorem d_S_summary_13 : decode b_S_summary 13 = .ok (.getfield 19, 3) := by decide +kernel
theorem d_S_summary_16 : decode b_S_summary 16 = .ok (.ifCond .eq 7, 3) := by decide +kernel
theorem d_S_summary_19 : decode b_S_summary 19 = .ok (.iconst 2, 1) := by decide +kernel
theorem d_S_summary_20 : decode b_S_summary 20 = .ok (.goto 4, 3) := by decide +kernel
theorem d_S_summary_23 : decode b_S_summary 23 = .ok (.iconst 0, 1) := by decide +kernel
theorem d_S_summary_24 : decode b_S_summary 24 = .ok (.iadd, 1) := by decide +kernel
theorem d_S_summary_25 : decode b_S_summary 25 = .ok (.iconst 4, 1) := by decide +kernel
theorem d_S_summary_26 : decode b_S_summary 26 = .ok (.aload_n 0, 1) := by decide +kernel
theorem d_S_summary_27 : decode b_S_summary 27 = .ok (.getfield 9, 3) := by decide +kernel
theorem d_S_summary_30 : decode b_S_summary 30 = .ok (.imul, 1) := by decide +kernel
theorem d_S_summary_31 : decode b_S_summary 31 = .ok (.iadd, 1) := by decide +kernel
theorem d_S_summary_32 : decode b_S_summary 32 = .ok (.ireturn, 1) := by decide +kernel
def v_S_summary (u : gm_St) (i : Nat) : Int32 := (((gm_b (if (u.1 0 i) = true then true else false)) + (if (u.1 1 i) = true then (2 : Int32) else (0 : Int32))) + ((4 : Int32) * (u.2.1 0 i)))
set_option maxRecDepth 100000 in
set_option maxHeartbeats 4000000 in
theorem c_S_summary {l : Launch} {D : va_G} {dk : Nat → ClassId} {a : Nat → Nat} {A : Nat → Prop} {lt : Nat} {u : gm_St} {i : Nat} (hi : i < 12) : gm_I l D (gm_ty dk) (gm_W dk a) A lt y_S_summary b_S_summary 1 (some .int) rm_S_summary [.ref (a (9 + i))] u (v_S_summary u i) u := by
  refine gm_enterI (by decide) (Nat.le_of_ble_eq_true rfl) ?_
  intro p e s m args below meth c ls Q H locs hF hM hl hQ
  have hx := hF.1
  have hb := hF.2.1
  have hml := hF.2.2.1
  have hown := hF.2.2.2.1
  have hts := hF.2.2.2.2.1
  have hl : lv_has ls 1 [(0, .ref (a (9 + i)))] := hl
  refine lv_aload_n hx hb d_S_summary_0 rfl (lv_at hl 0 rfl) ?_
  refine gf_S_15 hF hM (by omega) d_S_summary_1 ?_
  have J2 : ∀ (ls : Array Slot) (H : Heap) (locs : List Loc), lv_has ls 1 [(0, .ref (a (9 + i)))] → gm_M D A s (gm_W dk a) u H locs → W p l e rm_S_summary s m args below meth c H locs 0 0 Q (F0 m 12 ls [.int (gm_b (if (u.1 0 i) = true then true else false))]) := by
    intro ls H locs hl hM
    refine lv_aload_n hx hb d_S_summary_12 rfl (lv_at hl 0 rfl) ?_
    refine gf_S_19 hF hM (by omega) d_S_summary_13 ?_
    have J4 : ∀ (ls : Array Slot) (H : Heap) (locs : List Loc), lv_has ls 1 [(0, .ref (a (9 + i)))] → gm_M D A s (gm_W dk a) u H locs → W p l e rm_S_summary s m args below meth c H locs 0 0 Q (F0 m 24 ls [.int (if (u.1 1 i) = true then (2 : Int32) else (0 : Int32)), .int (gm_b (if (u.1 0 i) = true then true else false))]) := by
      intro ls H locs hl hM
      refine lv_iadd hx hb d_S_summary_24 ?_
      refine lv_iconst (v := 4) hx hb d_S_summary_25 (by decide) ?_
      refine lv_aload_n hx hb d_S_summary_26 rfl (lv_at hl 0 rfl) ?_
      refine gf_S_9 hF hM (by omega) d_S_summary_27 ?_
      refine lv_imul hx hb d_S_summary_30 ?_
      refine lv_iadd hx hb d_S_summary_31 ?_
      have hq := hQ H locs 32 ls
      simp only [v_S_summary] at hq
      exact hq hM d_S_summary_32
    refine gm_ifz (b := (u.1 1 i)) (tgt := 23) hx hb d_S_summary_16 rfl (fun h3 => ?_) (fun h3 => ?_)
    · refine lv_iconst (v := 0) hx hb d_S_summary_23 (by decide) ?_
      have hJ := J4
      try simp only [if_neg (gm_nf h3)] at hJ
      exact hJ ls H locs hl hM
    · refine lv_iconst (v := 2) hx hb d_S_summary_19 (by decide) ?_
      refine lv_goto (tgt := 24) hx hb d_S_summary_20 rfl ?_
      have hJ := J4
      try simp only [if_pos h3] at hJ
      exact hJ ls H locs hl hM
  refine gm_ifz (b := (u.1 0 i)) (tgt := 11) hx hb d_S_summary_4 rfl (fun h1 => ?_) (fun h1 => ?_)
  · refine lv_iconst (v := 0) hx hb d_S_summary_11 (by decide) ?_
    have hJ := J2
    try simp only [if_neg (gm_nf h1)] at hJ
    exact hJ ls H locs hl hM
  · refine lv_iconst (v := 1) hx hb d_S_summary_7 (by decide) ?_
    refine lv_goto (tgt := 12) hx hb d_S_summary_8 rfl ?_
    have hJ := J2
    try simp only [if_pos h1] at hJ
    exact hJ ls H locs hl hM
end
section
theorem d_M_isOn_0 : decode b_M_isOn 0 = .ok (.aload_n 0, 1) := by decide +kernel
theorem d_M_isOn_1 : decode b_M_isOn 1 = .ok (.getfield 11, 3) := by decide +kernel
theorem d_M_isOn_4 : decode b_M_isOn 4 = .ok (.iload_n 1, 1) := by decide +kernel
theorem d_M_isOn_5 : decode b_M_isOn 5 = .ok (.aaload, 1) := by decide +kernel
theorem d_M_isOn_6 : decode b_M_isOn 6 = .ok (.getfield 102, 3) := by decide +kernel
theorem d_M_isOn_9 : decode b_M_isOn 9 = .ok (.ireturn, 1) := by decide +kernel
def v_M_isOn (u : gm_St) (m : Nat) (sn : Nat) : Bool := (u.1 0 (6 * m + sn))
set_option maxRecDepth 100000 in
set_option maxHeartbeats 4000000 in
theorem c_M_isOn {l : Launch} {D : va_G} {dk : Nat → ClassId} {a : Nat → Nat} {A : Nat → Prop} {lt : Nat} {u : gm_St} {m : Nat} {sn : Nat} (hm : m < 2) (h_sn : sn < 6) : gm_I l D (gm_ty dk) (gm_W dk a) A lt y_M_isOn b_M_isOn 2 (some .boolean) rm_M_isOn [.ref (a (3 + m)), .int (nI sn)] u (gm_b (v_M_isOn u m sn)) u := by
  refine gm_enterZ (by decide) (Nat.le_of_ble_eq_true rfl) ?_
  intro p e s mm args below meth c ls Q H locs hF hM hl hQ
  have hx := hF.1
  have hb := hF.2.1
  have hml := hF.2.2.1
  have hown := hF.2.2.2.1
  have hts := hF.2.2.2.2.1
  have hl : lv_has ls 2 [(0, .ref (a (3 + m))), (1, .int (nI sn))] := hl
  refine lv_aload_n hx hb d_M_isOn_0 rfl (lv_at hl 0 rfl) ?_
  refine gf_M_11 hF hM (by omega) d_M_isOn_1 ?_
  refine lv_iload_n hx hb d_M_isOn_4 rfl (lv_at hl 1 rfl) ?_
  refine ga_sens (k := sn) hF hM (by omega) rfl (by omega) d_M_isOn_5 ?_
  refine gf_M_102 hF hM (by omega) d_M_isOn_6 ?_
  have hq := hQ H locs 9 ls
  simp only [v_M_isOn] at hq
  exact hq hM d_M_isOn_9
theorem d_M_isSwitchedOn_0 : decode b_M_isSwitchedOn 0 = .ok (.aload_n 0, 1) := by decide +kernel
theorem d_M_isSwitchedOn_1 : decode b_M_isSwitchedOn 1 = .ok (.getfield 35, 3) := by decide +kernel
theorem d_M_isSwitchedOn_4 : decode b_M_isSwitchedOn 4 = .ok (.iload_n 1, 1) := by decide +kernel
theorem d_M_isSwitchedOn_5 : decode b_M_isSwitchedOn 5 = .ok (.iand, 1) := by decide +kernel
theorem d_M_isSwitchedOn_6 : decode b_M_isSwitchedOn 6 = .ok (.ifCond .eq 7, 3) := by decide +kernel
theorem d_M_isSwitchedOn_9 : decode b_M_isSwitchedOn 9 = .ok (.iconst 1, 1) := by decide +kernel
theorem d_M_isSwitchedOn_10 : decode b_M_isSwitchedOn 10 = .ok (.goto 4, 3) := by decide +kernel
theorem d_M_isSwitchedOn_13 : decode b_M_isSwitchedOn 13 = .ok (.iconst 0, 1) := by decide +kernel
theorem d_M_isSwitchedOn_14 : decode b_M_isSwitchedOn 14 = .ok (.ireturn, 1) := by decide +kernel
def v_M_isSwitchedOn (u : gm_St) (m : Nat) (vn : Int32) : Bool := (if ((u.2.1 3 m) &&& vn) = 0 then false else true)
set_option maxRecDepth 100000 in
set_option maxHeartbeats 4000000 in
theorem c_M_isSwitchedOn {l : Launch} {D : va_G} {dk : Nat → ClassId} {a : Nat → Nat} {A : Nat → Prop} {lt : Nat} {u : gm_St} {m : Nat} {vn : Int32} (hm : m < 2) : gm_I l D (gm_ty dk) (gm_W dk a) A lt y_M_isSwitchedOn b_M_isSwitchedOn 2 (some .boolean) rm_M_isSwitchedOn [.ref (a (3 + m)), .int vn] u (gm_b (v_M_isSwitchedOn u m vn)) u := by
  refine gm_enterZ (by decide) (Nat.le_of_ble_eq_true rfl) ?_
  intro p e s mm args below meth c ls Q H locs hF hM hl hQ
  have hx := hF.1
  have hb := hF.2.1
  have hml := hF.2.2.1
  have hown := hF.2.2.2.1
  have hts := hF.2.2.2.2.1
  have hl : lv_has ls 2 [(0, .ref (a (3 + m))), (1, .int vn)] := hl
  refine lv_aload_n hx hb d_M_isSwitchedOn_0 rfl (lv_at hl 0 rfl) ?_
  refine gf_M_35 hF hM (by omega) d_M_isSwitchedOn_1 ?_
  refine lv_iload_n hx hb d_M_isSwitchedOn_4 rfl (lv_at hl 1 rfl) ?_
  refine lv_iand hx hb d_M_isSwitchedOn_5 ?_
  have J2 : ∀ (ls : Array Slot) (H : Heap) (locs : List Loc), lv_has ls 2 [(0, .ref (a (3 + m))), (1, .int vn)] → gm_M D A s (gm_W dk a) u H locs → W p l e rm_M_isSwitchedOn s mm args below meth c H locs 0 0 Q (F0 mm 14 ls [.int (gm_b (if ((u.2.1 3 m) &&& vn) = 0 then false else true))]) := by
    intro ls H locs hl hM
    have hq := hQ H locs 14 ls
    simp only [v_M_isSwitchedOn] at hq
    exact hq hM d_M_isSwitchedOn_14
  refine lv_if_eq (tgt := 13) hx hb d_M_isSwitchedOn_6 rfl (fun h1 => ?_) (fun h1 => ?_)
  · refine lv_iconst (v := 0) hx hb d_M_isSwitchedOn_13 (by decide) ?_
    have hJ := J2
    try simp only [if_pos h1] at hJ
    exact hJ ls H locs hl hM
  · refine lv_iconst (v := 1) hx hb d_M_isSwitchedOn_9 (by decide) ?_
    refine lv_goto (tgt := 14) hx hb d_M_isSwitchedOn_10 rfl ?_
    have hJ := J2
    try simp only [if_neg h1] at hJ
    exact hJ ls H locs hl hM
theorem d_M_gearsAreExtended_0 : decode b_M_gearsAreExtended 0 = .ok (.aload_n 0, 1) := by decide +kernel
theorem d_M_gearsAreExtended_1 : decode b_M_gearsAreExtended 1 = .ok (.iconst 0, 1) := by decide +kernel
theorem d_M_gearsAreExtended_2 : decode b_M_gearsAreExtended 2 = .ok (.invokevirtual 78, 3) := by decide +kernel
theorem d_M_gearsAreExtended_5 : decode b_M_gearsAreExtended 5 = .ok (.ifCond .eq 15, 3) := by decide +kernel
theorem d_M_gearsAreExtended_8 : decode b_M_gearsAreExtended 8 = .ok (.aload_n 0, 1) := by decide +kernel
theorem d_M_gearsAreExtended_9 : decode b_M_gearsAreExtended 9 = .ok (.iconst 1, 1) := by decide +kernel
theorem d_M_gearsAreExtended_10 : decode b_M_gearsAreExtended 10 = .ok (.invokevirtual 78, 3) := by decide +kernel
theorem d_M_gearsAreExtended_13 : decode b_M_gearsAreExtended 13 = .ok (.ifCond .ne 7, 3) := by decide +kernel
theorem d_M_gearsAreExtended_16 : decode b_M_gearsAreExtended 16 = .ok (.iconst 1, 1) := by decide +kernel
theorem d_M_gearsAreExtended_17 : decode b_M_gearsAreExtended 17 = .ok (.goto 4, 3) := by decide +kernel
theorem d_M_gearsAreExtended_20 : decode b_M_gearsAreExtended 20 = .ok (.iconst 0, 1) := by decide +kernel
theorem d_M_gearsAreExtended_21 : decode b_M_gearsAreExtended 21 = .ok (.ireturn, 1) := by decide +kernel
def v_M_gearsAreExtended (u : gm_St) (m : Nat) : Bool := (if (v_M_isOn u m 0) = true then (if (v_M_isOn u m 1) = true then false else true) else false)
set_option maxRecDepth 100000 in
set_option maxHeartbeats 4000000 in
theorem c_M_gearsAreExtended {l : Launch} {D : va_G} {dk : Nat → ClassId} {a : Nat → Nat} {A : Nat → Prop} {lt : Nat} {u : gm_St} {m : Nat} (hm : m < 2) : gm_I l D (gm_ty dk) (gm_W dk a) A lt y_M_gearsAreExtended b_M_gearsAreExtended 1 (some .boolean) rm_M_gearsAreExtended [.ref (a (3 + m))] u (gm_b (v_M_gearsAreExtended u m)) u := by
  refine gm_enterZ (by decide) (Nat.le_of_ble_eq_true rfl) ?_
  intro p e s mm args below meth c ls Q H locs hF hM hl hQ
  have hx := hF.1
  have hb := hF.2.1
  have hml := hF.2.2.1
  have hown := hF.2.2.2.1
  have hts := hF.2.2.2.2.1
  have hl : lv_has ls 1 [(0, .ref (a (3 + m)))] := hl
  refine lv_aload_n hx hb d_M_gearsAreExtended_0 rfl (lv_at hl 0 rfl) ?_
  refine lv_iconst (v := 0) hx hb d_M_gearsAreExtended_1 (by decide) ?_
  refine gm_Vi (As := [.int (nI 0)]) (rest := []) hF hM (c_M_isOn (u := u) (m := m) (sn := 0) (by omega) (by omega)) (gk_M_78 hts ⟨by decide, by decide⟩) (gv_M hF hM (by omega) rfl) rfl hl.1 rfl (Nat.le_of_ble_eq_true rfl) ⟨Nat.zero_le _, Nat.zero_le _⟩ d_M_gearsAreExtended_2 (fun H locs hM => ?_)
  have J2 : ∀ (ls : Array Slot) (H : Heap) (locs : List Loc), lv_has ls 1 [(0, .ref (a (3 + m)))] → gm_M D A s (gm_W dk a) u H locs → W p l e rm_M_gearsAreExtended s mm args below meth c H locs 0 0 Q (F0 mm 21 ls [.int (gm_b (if (v_M_isOn u m 0) = true then (if (v_M_isOn u m 1) = true then false else true) else false))]) := by
    intro ls H locs hl hM
    have hq := hQ H locs 21 ls
    simp only [v_M_gearsAreExtended] at hq
    exact hq hM d_M_gearsAreExtended_21
  refine gm_ifz (b := (v_M_isOn u m 0)) (tgt := 20) hx hb d_M_gearsAreExtended_5 rfl (fun h1 => ?_) (fun h1 => ?_)
  · refine lv_iconst (v := 0) hx hb d_M_gearsAreExtended_20 (by decide) ?_
    have hJ := J2
    try simp only [if_neg (gm_nf h1)] at hJ
    exact hJ ls H locs hl hM
  · refine lv_aload_n hx hb d_M_gearsAreExtended_8 rfl (lv_at hl 0 rfl) ?_
    refine lv_iconst (v := 1) hx hb d_M_gearsAreExtended_9 (by decide) ?_
    refine gm_Vi (As := [.int (nI 1)]) (rest := []) hF hM (c_M_isOn (u := u) (m := m) (sn := 1) (by omega) (by omega)) (gk_M_78 hts ⟨by decide, by decide⟩) (gv_M hF hM (by omega) rfl) rfl hl.1 rfl (Nat.le_of_ble_eq_true rfl) ⟨Nat.zero_le _, Nat.zero_le _⟩ d_M_gearsAreExtended_10 (fun H locs hM => ?_)
    refine gm_ifn (b := (v_M_isOn u m 1)) (tgt := 20) hx hb d_M_gearsAreExtended_13 rfl (fun h3 => ?_) (fun h3 => ?_)
    · refine lv_iconst (v := 0) hx hb d_M_gearsAreExtended_20 (by decide) ?_
      have hJ := J2
      try simp only [if_pos h1, if_pos h3] at hJ
      exact hJ ls H locs hl hM
    · refine lv_iconst (v := 1) hx hb d_M_gearsAreExtended_16 (by decide) ?_
      refine lv_goto (tgt := 21) hx hb d_M_gearsAreExtended_17 rfl ?_
      have hJ := J2
      try simp only [if_pos h1, if_neg (gm_nf h3)] at hJ
      exact hJ ls H locs hl hM
theorem d_M_gearsAreRetracted_0 : decode b_M_gearsAreRetracted 0 = .ok (.aload_n 0, 1) := by decide +kernel
theorem d_M_gearsAreRetracted_1 : decode b_M_gearsAreRetracted 1 = .ok (.iconst 1, 1) := by decide +kernel
theorem d_M_gearsAreRetracted_2 : decode b_M_gearsAreRetracted 2 = .ok (.invokevirtual 78, 3) := by decide +kernel
theorem d_M_gearsAreRetracted_5 : decode b_M_gearsAreRetracted 5 = .ok (.ifCond .eq 15, 3) := by decide +kernel
theorem d_M_gearsAreRetracted_8 : decode b_M_gearsAreRetracted 8 = .ok (.aload_n 0, 1) := by decide +kernel
theorem d_M_gearsAreRetracted_9 : decode b_M_gearsAreRetracted 9 = .ok (.iconst 0, 1) := by decide +kernel
theorem d_M_gearsAreRetracted_10 : decode b_M_gearsAreRetracted 10 = .ok (.invokevirtual 78, 3) := by decide +kernel
theorem d_M_gearsAreRetracted_13 : decode b_M_gearsAreRetracted 13 = .ok (.ifCond .ne 7, 3) := by decide +kernel
theorem d_M_gearsAreRetracted_16 : decode b_M_gearsAreRetracted 16 = .ok (.iconst 1, 1) := by decide +kernel
theorem d_M_gearsAreRetracted_17 : decode b_M_gearsAreRetracted 17 = .ok (.goto 4, 3) := by decide +kernel
theorem d_M_gearsAreRetracted_20 : decode b_M_gearsAreRetracted 20 = .ok (.iconst 0, 1) := by decide +kernel
theorem d_M_gearsAreRetracted_21 : decode b_M_gearsAreRetracted 21 = .ok (.ireturn, 1) := by decide +kernel
def v_M_gearsAreRetracted (u : gm_St) (m : Nat) : Bool := (if (v_M_isOn u m 1) = true then (if (v_M_isOn u m 0) = true then false else true) else false)
set_option maxRecDepth 100000 in
set_option maxHeartbeats 4000000 in
theorem c_M_gearsAreRetracted {l : Launch} {D : va_G} {dk : Nat → ClassId} {a : Nat → Nat} {A : Nat → Prop} {lt : Nat} {u : gm_St} {m : Nat} (hm : m < 2) : gm_I l D (gm_ty dk) (gm_W dk a) A lt y_M_gearsAreRetracted b_M_gearsAreRetracted 1 (some .boolean) rm_M_gearsAreRetracted [.ref (a (3 + m))] u (gm_b (v_M_gearsAreRetracted u m)) u := by
  refine gm_enterZ (by decide) (Nat.le_of_ble_eq_true rfl) ?_
  intro p e s mm args below meth c ls Q H locs hF hM hl hQ
  have hx := hF.1
  have hb := hF.2.1
  have hml := hF.2.2.1
  have hown := hF.2.2.2.1
  have hts := hF.2.2.2.2.1
  have hl : lv_has ls 1 [(0, .ref (a (3 + m)))] := hl
  refine lv_aload_n hx hb d_M_gearsAreRetracted_0 rfl (lv_at hl 0 rfl) ?_
  refine lv_iconst (v := 1) hx hb d_M_gearsAreRetracted_1 (by decide) ?_
  refine gm_Vi (As := [.int (nI 1)]) (rest := []) hF hM (c_M_isOn (u := u) (m := m) (sn := 1) (by omega) (by omega)) (gk_M_78 hts ⟨by decide, by decide⟩) (gv_M hF hM (by omega) rfl) rfl hl.1 rfl (Nat.le_of_ble_eq_true rfl) ⟨Nat.zero_le _, Nat.zero_le _⟩ d_M_gearsAreRetracted_2 (fun H locs hM => ?_)
  have J2 : ∀ (ls : Array Slot) (H : Heap) (locs : List Loc), lv_has ls 1 [(0, .ref (a (3 + m)))] → gm_M D A s (gm_W dk a) u H locs → W p l e rm_M_gearsAreRetracted s mm args below meth c H locs 0 0 Q (F0 mm 21 ls [.int (gm_b (if (v_M_isOn u m 1) = true then (if (v_M_isOn u m 0) = true then false else true) else false))]) := by
    intro ls H locs hl hM
    have hq := hQ H locs 21 ls
    simp only [v_M_gearsAreRetracted] at hq
    exact hq hM d_M_gearsAreRetracted_21
  refine gm_ifz (b := (v_M_isOn u m 1)) (tgt := 20) hx hb d_M_gearsAreRetracted_5 rfl (fun h1 => ?_) (fun h1 => ?_)
  · refine lv_iconst (v := 0) hx hb d_M_gearsAreRetracted_20 (by decide) ?_
    have hJ := J2
    try simp only [if_neg (gm_nf h1)] at hJ
    exact hJ ls H locs hl hM
  · refine lv_aload_n hx hb d_M_gearsAreRetracted_8 rfl (lv_at hl 0 rfl) ?_
    refine lv_iconst (v := 0) hx hb d_M_gearsAreRetracted_9 (by decide) ?_
    refine gm_Vi (As := [.int (nI 0)]) (rest := []) hF hM (c_M_isOn (u := u) (m := m) (sn := 0) (by omega) (by omega)) (gk_M_78 hts ⟨by decide, by decide⟩) (gv_M hF hM (by omega) rfl) rfl hl.1 rfl (Nat.le_of_ble_eq_true rfl) ⟨Nat.zero_le _, Nat.zero_le _⟩ d_M_gearsAreRetracted_10 (fun H locs hM => ?_)
    refine gm_ifn (b := (v_M_isOn u m 0)) (tgt := 20) hx hb d_M_gearsAreRetracted_13 rfl (fun h3 => ?_) (fun h3 => ?_)
    · refine lv_iconst (v := 0) hx hb d_M_gearsAreRetracted_20 (by decide) ?_
      have hJ := J2
      try simp only [if_pos h1, if_pos h3] at hJ
      exact hJ ls H locs hl hM
    · refine lv_iconst (v := 1) hx hb d_M_gearsAreRetracted_16 (by decide) ?_
      refine lv_goto (tgt := 21) hx hb d_M_gearsAreRetracted_17 rfl ?_
      have hJ := J2
      try simp only [if_pos h1, if_neg (gm_nf h3)] at hJ
      exact hJ ls H locs hl hM
theorem d_M_endWait_0 : decode b_M_endWait 0 = .ok (.aload_n 0, 1) := by decide +kernel
theorem d_M_endWait_1 : decode b_M_endWait 1 = .ok (.iconst 0, 1) := by decide +kernel
theorem d_M_endWait_2 : decode b_M_endWait 2 = .ok (.putfield 29, 3) := by decide +kernel
theorem d_M_endWait_5 : decode b_M_endWait 5 = .ok (.aload_n 0, 1) := by decide +kernel
theorem d_M_endWait_6 : decode b_M_endWait 6 = .ok (.getfield 17, 3) := by decide +kernel
theorem d_M_endWait_9 : decode b_M_endWait 9 = .ok (.bipush 14, 2) := by decide +kernel
theorem d_M_endWait_11 : decode b_M_endWait 11 = .ok (.iconst 0, 1) := by decide +kernel
theorem d_M_endWait_12 : decode b_M_endWait 12 = .ok (.iastore, 1) := by decide +kernel
theorem d_M_endWait_13 : decode b_M_endWait 13 = .ok (.return_, 1) := by decide +kernel
def s_M_endWait (u : gm_St) (m : Nat) : gm_St := (gm_sG (gm_sB u 3 m false) (1 + m) 14 (0 : Int32))
set_option maxRecDepth 100000 in
set_option maxHeartbeats 4000000 in
theorem c_M_endWait {l : Launch} {D : va_G} {dk : Nat → ClassId} {a : Nat → Nat} {A : Nat → Prop} {lt : Nat} {u : gm_St} {m : Nat} (hm : m < 2) : gm_V l D (gm_ty dk) (gm_W dk a) A lt y_M_endWait b_M_endWait 1 rm_M_endWait [.ref (a (3 + m))] u (s_M_endWait u m) := by
  refine gm_enterV (by decide) (Nat.le_of_ble_eq_true rfl) ?_
  intro p e s mm args below meth c ls Q H locs hF hM hl hQ
  have hx := hF.1
  have hb := hF.2.1
  have hml := hF.2.2.1
  have hown := hF.2.2.2.1
  have hts := hF.2.2.2.2.1
  have hl : lv_has ls 1 [(0, .ref (a (3 + m)))] := hl
  refine lv_aload_n hx hb d_M_endWait_0 rfl (lv_at hl 0 rfl) ?_
  refine lv_iconst (v := 0) hx hb d_M_endWait_1 (by decide) ?_
  refine gp_M_29 hF hM (by omega) (x := false) rfl d_M_endWait_2 (fun H locs hM => ?_)
  refine lv_aload_n hx hb d_M_endWait_5 rfl (lv_at hl 0 rfl) ?_
  refine gf_M_17 hF hM (by omega) d_M_endWait_6 ?_
  refine lv_bipush (v := 14) hx hb d_M_endWait_9 (by decide) ?_
  refine lv_iconst (v := 0) hx hb d_M_endWait_11 (by decide) ?_
  refine gq_cnt (k := 14) hF hM (by omega) rfl (by omega) d_M_endWait_12 (fun H locs hM => ?_)
  have hq := hQ H locs 13 ls
  simp only [s_M_endWait] at hq
  exact hq hM d_M_endWait_13
theorem d_M_beginWait_0 : decode b_M_beginWait 0 = .ok (.aload_n 0, 1) := by decide +kernel
theorem d_M_beginWait_1 : decode b_M_beginWait 1 = .ok (.aload_n 0, 1) := by decide +kernel
theorem d_M_beginWait_2 : decode b_M_beginWait 2 = .ok (.getfield 21, 3) := by decide +kernel
theorem d_M_beginWait_5 : decode b_M_beginWait 5 = .ok (.putfield 29, 3) := by decide +kernel
theorem d_M_beginWait_8 : decode b_M_beginWait 8 = .ok (.aload_n 0, 1) := by decide +kernel
theorem d_M_beginWait_9 : decode b_M_beginWait 9 = .ok (.getfield 17, 3) := by decide +kernel
theorem d_M_beginWait_12 : decode b_M_beginWait 12 = .ok (.bipush 14, 2) := by decide +kernel
theorem d_M_beginWait_14 : decode b_M_beginWait 14 = .ok (.iconst 0, 1) := by decide +kernel
theorem d_M_beginWait_15 : decode b_M_beginWait 15 = .ok (.iastore, 1) := by decide +kernel
theorem d_M_beginWait_16 : decode b_M_beginWait 16 = .ok (.return_, 1) := by decide +kernel
def s_M_beginWait (u : gm_St) (m : Nat) : gm_St := (gm_sG (gm_sB u 3 m (u.1 2 m)) (1 + m) 14 (0 : Int32))
set_option maxRecDepth 100000 in
set_option maxHeartbeats 4000000 in
theorem c_M_beginWait {l : Launch} {D : va_G} {dk : Nat → ClassId} {a : Nat → Nat} {A : Nat → Prop} {lt : Nat} {u : gm_St} {m : Nat} (hm : m < 2) : gm_V l D (gm_ty dk) (gm_W dk a) A lt y_M_beginWait b_M_beginWait 1 rm_M_beginWait [.ref (a (3 + m))] u (s_M_beginWait u m) := by
  refine gm_enterV (by decide) (Nat.le_of_ble_eq_true rfl) ?_
  intro p e s mm args below meth c ls Q H locs hF hM hl hQ
  have hx := hF.1
  have hb := hF.2.1
  have hml := hF.2.2.1
  have hown := hF.2.2.2.1
  have hts := hF.2.2.2.2.1
  have hl : lv_has ls 1 [(0, .ref (a (3 + m)))] := hl
  refine lv_aload_n hx hb d_M_beginWait_0 rfl (lv_at hl 0 rfl) ?_
  refine lv_aload_n hx hb d_M_beginWait_1 rfl (lv_at hl 0 rfl) ?_
  refine gf_M_21 hF hM (by omega) d_M_beginWait_2 ?_
  refine gp_M_29 hF hM (by omega) (x := (u.1 2 m)) rfl d_M_beginWait_5 (fun H locs hM => ?_)
  refine lv_aload_n hx hb d_M_beginWait_8 rfl (lv_at hl 0 rfl) ?_
  refine gf_M_17 hF hM (by omega) d_M_beginWait_9 ?_
  refine lv_bipush (v := 14) hx hb d_M_beginWait_12 (by decide) ?_
  refine lv_iconst (v := 0) hx hb d_M_beginWait_14 (by decide) ?_
  refine gq_cnt (k := 14) hF hM (by omega) rfl (by omega) d_M_beginWait_15 (fun H locs hM => ?_)
  have hq := hQ H locs 16 ls
  simp only [s_M_beginWait] at hq
  exact hq hM d_M_beginWait_16
theorem d_M_stop_0 : decode b_M_stop 0 = .ok (.aload_n 0, 1) := by decide +kernel
theorem d_M_stop_1 : decode b_M_stop 1 = .ok (.getfield 21, 3) := by decide +kernel
theorem d_M_stop_4 : decode b_M_stop 4 = .ok (.ifCond .ne 5, 3) := by decide +kernel
theorem d_M_stop_7 : decode b_M_stop 7 = .ok (.iconst 0, 1) := by decide +kernel
theorem d_M_stop_8 : decode b_M_stop 8 = .ok (.ireturn, 1) := by decide +kernel
theorem d_M_stop_9 : decode b_M_stop 9 = .ok (.aload_n 0, 1) := by decide +kernel
theorem d_M_stop_10 : decode b_M_stop 10 = .ok (.iconst 0, 1) := by decide +kernel
theorem d_M_stop_11 : decode b_M_stop 11 = .ok (.putfield 21, 3) := by decide +kernel
theorem d_M_stop_14 : decode b_M_stop 14 = .ok (.aload_n 0, 1) := by decide +kernel
theorem d_M_stop_15 : decode b_M_stop 15 = .ok (.iconst 0, 1) := by decide +kernel
theorem d_M_stop_16 : decode b_M_stop 16 = .ok (.putfield 35, 3) := by decide +kernel
theorem d_M_stop_19 : decode b_M_stop 19 = .ok (.aload_n 0, 1) := by decide +kernel
theorem d_M_stop_20 : decode b_M_stop 20 = .ok (.invokevirtual 45, 3) := by decide +kernel
theorem d_M_stop_23 : decode b_M_stop 23 = .ok (.iconst 1, 1) := by decide +kernel
theorem d_M_stop_24 : decode b_M_stop 24 = .ok (.ireturn, 1) := by decide +kernel
def v_M_stop (u : gm_St) (m : Nat) : Bool := (if (u.1 2 m) = true then true else false)
def s_M_stop (u : gm_St) (m : Nat) : gm_St := (if (u.1 2 m) = true then (s_M_endWait (gm_sG (gm_sB u 2 m false) 3 m (0 : Int32)) m) else u)
set_option maxRecDepth 100000 in
set_option maxHeartbeats 4000000 in
theorem c_M_stop {l : Launch} {D : va_G} {dk : Nat → ClassId} {a : Nat → Nat} {A : Nat → Prop} {lt : Nat} {u : gm_St} {m : Nat} (hm : m < 2) : gm_I l D (gm_ty dk) (gm_W dk a) A lt y_M_stop b_M_stop 1 (some .boolean) rm_M_stop [.ref (a (3 + m))] u (gm_b (v_M_stop u m)) (s_M_stop u m) := by
  refine gm_enterZ (by decide) (Nat.le_of_ble_eq_true rfl) ?_
  intro p e s mm args below meth c ls Q H locs hF hM hl hQ
  have hx := hF.1
  have hb := hF.2.1
  have hml := hF.2.2.1
  have hown := hF.2.2.2.1
  have hts := hF.2.2.2.2.1
  have hl : lv_has ls 1 [(0, .ref (a (3 + m)))] := hl
  refine lv_aload_n hx hb d_M_stop_0 rfl (lv_at hl 0 rfl) ?_
  refine gf_M_21 hF hM (by omega) d_M_stop_1 ?_
  refine gm_ifn (b := (u.1 2 m)) (tgt := 9) hx hb d_M_stop_4 rfl (fun h1 => ?_) (fun h1 => ?_)
  · refine lv_aload_n hx hb d_M_stop_9 rfl (lv_at hl 0 rfl) ?_
    refine lv_iconst (v := 0) hx hb d_M_stop_10 (by decide) ?_
    refine gp_M_21 hF hM (by omega) (x := false) rfl d_M_stop_11 (fun H locs hM => ?_)
    refine lv_aload_n hx hb d_M_stop_14 rfl (lv_at hl 0 rfl) ?_
    refine lv_iconst (v := 0) hx hb d_M_stop_15 (by decide) ?_
    refine gp_M_35 hF hM (by omega) d_M_stop_16 (fun H locs hM => ?_)
    refine lv_aload_n hx hb d_M_stop_19 rfl (lv_at hl 0 rfl) ?_
    refine gm_Vv (As := []) (rest := []) hF hM (c_M_endWait (u := (gm_sG (gm_sB u 2 m false) 3 m (0 : Int32))) (m := m) (by omega)) (gk_M_45 hts ⟨by decide, by decide⟩) (gv_M hF hM (by omega) rfl) rfl hl.1 rfl (Nat.le_of_ble_eq_true rfl) ⟨Nat.zero_le _, Nat.zero_le _⟩ d_M_stop_20 (fun H locs hM => ?_)
    refine lv_iconst (v := 1) hx hb d_M_stop_23 (by decide) ?_
    have hq := hQ H locs 24 ls
    simp only [v_M_stop, s_M_stop, if_pos h1] at hq
    exact hq hM d_M_stop_24
  · refine lv_iconst (v := 0) hx hb d_M_stop_7 (by decide) ?_
    have hq := hQ H locs 8 ls
    simp only [v_M_stop, s_M_stop, if_neg (gm_nf h1)] at hq
    exact hq hM d_M_stop_8
theorem d_M_renew_0 : decode b_M_renew 0 = .ok (.iconst 0, 1) := by decide +kernel
theorem d_M_renew_1 : decode b_M_renew 1 = .ok (.istore_n 1, 1) := by decide +kernel
theorem d_M_renew_2 : decode b_M_renew 2 = .ok (.iload_n 1, 1) := by decide +kernel
theorem d_M_renew_3 : decode b_M_renew 3 = .ok (.bipush 6, 2) := by decide +kernel
theorem d_M_renew_5 : decode b_M_renew 5 = .ok (.if_icmp .ge 18, 3) := by decide +kernel
theorem d_M_renew_8 : decode b_M_renew 8 = .ok (.aload_n 0, 1) := by decide +kernel
theorem d_M_renew_9 : decode b_M_renew 9 = .ok (.getfield 11, 3) := by decide +kernel
theorem d_M_renew_12 : decode b_M_renew 12 = .ok (.iload_n 1, 1) := by decide +kernel
theorem d_M_renew_13 : decode b_M_renew 13 = .ok (.aaload, 1) := by decide +kernel
theorem d_M_renew_14 : decode b_M_renew 14 = .ok (.invokevirtual 26, 3) := by decide +kernel
theorem d_M_renew_17 : decode b_M_renew 17 = .ok (.iinc 1 1, 3) := by decide +kernel
theorem d_M_renew_20 : decode b_M_renew 20 = .ok (.goto (-18), 3) := by decide +kernel
theorem d_M_renew_23 : decode b_M_renew 23 = .ok (.iconst 0, 1) := by decide +kernel
theorem d_M_renew_24 : decode b_M_renew 24 = .ok (.istore_n 1, 1) := by decide +kernel
theorem d_M_renew_25 : decode b_M_renew 25 = .ok (.iload_n 1, 1) := by decide +kernel
theorem d_M_renew_26 : decode b_M_renew 26 = .ok (.bipush 16, 2) := by decide +kernel
theorem d_M_renew_28 : decode b_M_renew 28 = .ok (.if_icmp .ge 16, 3) := by decide +kernel
theorem d_M_renew_31 : decode b_M_renew 31 = .ok (.aload_n 0, 1) := by decide +kernel
theorem d_M_renew_32 : decode b_M_renew 32 = .ok (.getfield 17, 3) := by decide +kernel
theorem d_M_renew_35 : decode b_M_renew 35 = .ok (.iload_n 1, 1) := by decide +kernel
theorem d_M_renew_36 : decode b_M_renew 36 = .ok (.iconst 0, 1) := by decide +kernel
theorem d_M_renew_37 : decode b_M_renew 37 = .ok (.iastore, 1) := by decide +kernel
theorem d_M_renew_38 : decode b_M_renew 38 = .ok (.iinc 1 1, 3) := by decide +kernel
theorem d_M_renew_41 : decode b_M_renew 41 = .ok (.goto (-16), 3) := by decide +kernel
theorem d_M_renew_44 : decode b_M_renew 44 = .ok (.aload_n 0, 1) := by decide +kernel
theorem d_M_renew_45 : decode b_M_renew 45 = .ok (.iconst 1, 1) := by decide +kernel
theorem d_M_renew_46 : decode b_M_renew 46 = .ok (.putfield 21, 3) := by decide +kernel
theorem d_M_renew_49 : decode b_M_renew 49 = .ok (.aload_n 0, 1) := by decide +kernel
theorem d_M_renew_50 : decode b_M_renew 50 = .ok (.iconst 0, 1) := by decide +kernel
theorem d_M_renew_51 : decode b_M_renew 51 = .ok (.putfield 29, 3) := by decide +kernel
theorem d_M_renew_54 : decode b_M_renew 54 = .ok (.aload_n 0, 1) := by decide +kernel
theorem d_M_renew_55 : decode b_M_renew 55 = .ok (.iconst 0, 1) := by decide +kernel
theorem d_M_renew_56 : decode b_M_renew 56 = .ok (.putfield 32, 3) := by decide +kernel
theorem d_M_renew_59 : decode b_M_renew 59 = .ok (.aload_n 0, 1) := by decide +kernel
theorem d_M_renew_60 : decode b_M_renew 60 = .ok (.iconst 0, 1) := by decide +kernel
theorem d_M_renew_61 : decode b_M_renew 61 = .ok (.putfield 35, 3) := by decide +kernel
theorem d_M_renew_64 : decode b_M_renew 64 = .ok (.aload_n 0, 1) := by decide +kernel
theorem d_M_renew_65 : decode b_M_renew 65 = .ok (.iconst 0, 1) := by decide +kernel
theorem d_M_renew_66 : decode b_M_renew 66 = .ok (.putfield 39, 3) := by decide +kernel
theorem d_M_renew_69 : decode b_M_renew 69 = .ok (.aload_n 0, 1) := by decide +kernel
theorem d_M_renew_70 : decode b_M_renew 70 = .ok (.iconst 0, 1) := by decide +kernel
theorem d_M_renew_71 : decode b_M_renew 71 = .ok (.putfield 42, 3) := by decide +kernel
theorem d_M_renew_74 : decode b_M_renew 74 = .ok (.return_, 1) := by decide +kernel
def lp_M_renew1 (m : Nat) : Nat → Nat → gm_St → gm_St
  | 0, _, u => u
  | k + 1, i, u => lp_M_renew1 m k (i + 1) (s_S_reset u (6 * m + i))
def lp_M_renew2 (m : Nat) : Nat → Nat → gm_St → gm_St
  | 0, _, u => u
  | k + 1, i, u => lp_M_renew2 m k (i + 1) (gm_sG u (1 + m) i (0 : Int32))
def s_M_renew (u : gm_St) (m : Nat) : gm_St := (gm_sG (gm_sG (gm_sG (gm_sB (gm_sB (gm_sB (lp_M_renew2 m 16 0 (lp_M_renew1 m 6 0 u)) 2 m true) 3 m false) 4 m false) 3 m (0 : Int32)) 4 m (0 : Int32)) 5 m (0 : Int32))
set_option maxRecDepth 100000 in
set_option maxHeartbeats 4000000 in
theorem c_M_renew {l : Launch} {D : va_G} {dk : Nat → ClassId} {a : Nat → Nat} {A : Nat → Prop} {lt : Nat} {u : gm_St} {m : Nat} (hm : m < 2) : gm_V l D (gm_ty dk) (gm_W dk a) A lt y_M_renew b_M_renew 2 rm_M_renew [.ref (a (3 + m))] u (s_M_renew u m) := by
  refine gm_enterV (by decide) (Nat.le_of_ble_eq_true rfl) ?_
  intro p e s mm args below meth c ls Q H locs hF hM hl hQ
  have hx := hF.1
  have hb := hF.2.1
  have hml := hF.2.2.1
  have hown := hF.2.2.2.1
  have hts := hF.2.2.2.2.1
  have hl : lv_has ls 2 [(0, .ref (a (3 + m)))] := hl
  refine lv_iconst (v := 0) hx hb d_M_renew_0 (by decide) ?_
  refine lv_istore_n (lv' := [(1, .int (0 : Int32)), (0, .ref (a (3 + m)))]) hx hb d_M_renew_1 rfl hl (by decide) rfl (fun ls hl => ?_)
  have L1 : ∀ (k1 i1 : Nat) (w1 : gm_St) (ls : Array Slot) (H : Heap) (locs : List Loc), i1 + k1 = 6 → lv_has ls 2 [(1, .int (nI i1)), (0, .ref (a (3 + m)))] → gm_M D A s (gm_W dk a) w1 H locs → (∀ (ls : Array Slot) (H : Heap) (locs : List Loc), lv_has ls 2 [(1, .int (nI 6)), (0, .ref (a (3 + m)))] → gm_M D A s (gm_W dk a) (lp_M_renew1 m k1 i1 w1) H locs → W p l e rm_M_renew s mm args below meth c H locs 0 0 Q (F0 mm 23 ls [])) → W p l e rm_M_renew s mm args below meth c H locs 0 0 Q (F0 mm 2 ls []) := by
    intro k1
    induction k1 with
    | zero =>
      intro i1 w1 ls H locs hk1 hl hM kk
      obtain rfl : i1 = 6 := by omega
      refine lv_iload_n hx hb d_M_renew_2 rfl (lv_at hl 0 rfl) ?_
      refine lv_bipush (v := 6) hx hb d_M_renew_3 (by decide) ?_
      refine lv_icmp_ge (tgt := 23) hx hb d_M_renew_5 rfl (fun _ => ?_) (fun h => absurd (by decide) h)
      exact kk ls H locs hl hM
    | succ k1 ih =>
      intro i1 w1 ls H locs hk1 hl hM kk
      refine lv_iload_n hx hb d_M_renew_2 rfl (lv_at hl 0 rfl) ?_
      refine lv_bipush (v := 6) hx hb d_M_renew_3 (by decide) ?_
      refine lv_icmp_ge (tgt := 23) hx hb d_M_renew_5 rfl (fun h => absurd h (nI_ge (a := i1) (b := 6) (by omega) (by first | decide | omega))) (fun _ => ?_)
      refine lv_aload_n hx hb d_M_renew_8 rfl (lv_at hl 1 rfl) ?_
      refine gf_M_11 hF hM (by omega) d_M_renew_9 ?_
      refine lv_iload_n hx hb d_M_renew_12 rfl (lv_at hl 0 rfl) ?_
      refine ga_sens (k := i1) hF hM (by omega) rfl (by omega) d_M_renew_13 ?_
      refine gm_Vv (As := []) (rest := []) hF hM (c_S_reset (u := w1) (i := (6 * m + i1)) (by omega)) (gk_M_26 hts ⟨by decide, by decide⟩) (gv_S hF hM (by omega) rfl) rfl hl.1 rfl (Nat.le_of_ble_eq_true rfl) ⟨Nat.zero_le _, Nat.zero_le _⟩ d_M_renew_14 (fun H locs hM => ?_)
      refine lv_iinc (k := 0) (v := (nI (i1 + 1))) (lv' := [(1, .int (nI (i1 + 1))), (0, .ref (a (3 + m)))]) hx hb d_M_renew_17 hl rfl (nI_1 _) (by decide) rfl (fun ls hl => ?_)
      refine lv_goto (tgt := 2) hx hb d_M_renew_20 rfl ?_
      have hK := kk
      simp only [lp_M_renew1] at hK
      exact ih (i1 + 1) (s_S_reset w1 (6 * m + i1)) ls H locs (by omega) hl hM hK
  refine L1 6 0 u ls H locs (by omega) hl hM (fun ls H locs hl hM => ?_)
  refine lv_iconst (v := 0) hx hb d_M_renew_23 (by decide) ?_
  refine lv_istore_n (lv' := [(1, .int (0 : Int32)), (0, .ref (a (3 + m)))]) hx hb d_M_renew_24 rfl hl (by decide) rfl (fun ls hl => ?_)
  have L2 : ∀ (k2 i2 : Nat) (w2 : gm_St) (ls : Array Slot) (H : Heap) (locs : List Loc), i2 + k2 = 16 → lv_has ls 2 [(1, .int (nI i2)), (0, .ref (a (3 + m)))] → gm_M D A s (gm_W dk a) w2 H locs → (∀ (ls : Array Slot) (H : Heap) (locs : List Loc), lv_has ls 2 [(1, .int (nI 16)), (0, .ref (a (3 + m)))] → gm_M D A s (gm_W dk a) (lp_M_renew2 m k2 i2 w2) H locs → W p l e rm_M_renew s mm args below meth c H locs 0 0 Q (F0 mm 44 ls [])) → W p l e rm_M_renew s mm args below meth c H locs 0 0 Q (F0 mm 25 ls []) := by
    intro k2
    induction k2 with
    | zero =>
      intro i2 w2 ls H locs hk2 hl hM kk
      obtain rfl : i2 = 16 := by omega
      refine lv_iload_n hx hb d_M_renew_25 rfl (lv_at hl 0 rfl) ?_
      refine lv_bipush (v := 16) hx hb d_M_renew_26 (by decide) ?_
      refine lv_icmp_ge (tgt := 44) hx hb d_M_renew_28 rfl (fun _ => ?_) (fun h => absurd (by decide) h)
      exact kk ls H locs hl hM
    | succ k2 ih =>
      intro i2 w2 ls H locs hk2 hl hM kk
      refine lv_iload_n hx hb d_M_renew_25 rfl (lv_at hl 0 rfl) ?_
      refine lv_bipush (v := 16) hx hb d_M_renew_26 (by decide) ?_
      refine lv_icmp_ge (tgt := 44) hx hb d_M_renew_28 rfl (fun h => absurd h (nI_ge (a := i2) (b := 16) (by omega) (by first | decide | omega))) (fun _ => ?_)
      refine lv_aload_n hx hb d_M_renew_31 rfl (lv_at hl 1 rfl) ?_
      refine gf_M_17 hF hM (by omega) d_M_renew_32 ?_
      refine lv_iload_n hx hb d_M_renew_35 rfl (lv_at hl 0 rfl) ?_
      refine lv_iconst (v := 0) hx hb d_M_renew_36 (by decide) ?_
      refine gq_cnt (k := i2) hF hM (by omega) rfl (by omega) d_M_renew_37 (fun H locs hM => ?_)
      refine lv_iinc (k := 0) (v := (nI (i2 + 1))) (lv' := [(1, .int (nI (i2 + 1))), (0, .ref (a (3 + m)))]) hx hb d_M_renew_38 hl rfl (nI_1 _) (by decide) rfl (fun ls hl => ?_)
      refine lv_goto (tgt := 25) hx hb d_M_renew_41 rfl ?_
      have hK := kk
      simp only [lp_M_renew2] at hK
      exact ih (i2 + 1) (gm_sG w2 (1 + m) i2 (0 : Int32)) ls H locs (by omega) hl hM hK
  refine L2 16 0 (lp_M_renew1 m 6 0 u) ls H locs (by omega) hl hM (fun ls H locs hl hM => ?_)
  refine lv_aload_n hx hb d_M_renew_44 rfl (lv_at hl 1 rfl) ?_
  refine lv_iconst (v := 1) hx hb d_M_renew_45 (by decide) ?_
  refine gp_M_21 hF hM (by omega) (x := true) rfl d_M_renew_46 (fun H locs hM => ?_)
  refine lv_aload_n hx hb d_M_renew_49 rfl (lv_at hl 1 rfl) ?_
  refine lv_iconst (v := 0) hx hb d_M_renew_50 (by decide) ?_
  refine gp_M_29 hF hM (by omega) (x := false) rfl d_M_renew_51 (fun H locs hM => ?_)
  refine lv_aload_n hx hb d_M_renew_54 rfl (lv_at hl 1 rfl) ?_
  refine lv_iconst (v := 0) hx hb d_M_renew_55 (by decide) ?_
  refine gp_M_32 hF hM (by omega) (x := false) rfl d_M_renew_56 (fun H locs hM => ?_)
  refine lv_aload_n hx hb d_M_renew_59 rfl (lv_at hl 1 rfl) ?_
  refine lv_iconst (v := 0) hx hb d_M_renew_60 (by decide) ?_
  refine gp_M_35 hF hM (by omega) d_M_renew_61 (fun H locs hM => ?_)
  refine lv_aload_n hx hb d_M_renew_64 rfl (lv_at hl 1 rfl) ?_
  refine lv_iconst (v := 0) hx hb d_M_renew_65 (by decide) ?_
  refine gp_M_39 hF hM (by omega) d_M_renew_66 (fun H locs hM => ?_)
  refine lv_aload_n hx hb d_M_renew_69 rfl (lv_at hl 1 rfl) ?_
  refine lv_iconst (v := 0) hx hb d_M_renew_70 (by decide) ?_
  refine gp_M_42 hF hM (by omega) d_M_renew_71 (fun H locs hM => ?_)
  have hq := hQ H locs 74 ls
  simp only [s_M_renew] at hq
  exact hq hM d_M_renew_74
theorem d_M_opposites_0 : decode b_M_opposites 0 = .ok (.iload_n 0, 1) := by decide +kernel
theorem d_M_opposites_1 : decode b_M_opposites 1 = .ok (.bipush 10, 2) := by decide +kernel
theorem d_M_opposites_3 : decode b_M_opposites 3 = .ok (.iand, 1) := by decide +kernel
theorem d_M_opposites_4 : decode b_M_opposites 4 = .ok (.iconst 1, 1) := by decide +kernel
theorem d_M_opposites_5 : decode b_M_opposites 5 = .ok (.ishl, 1) := by decide +kernel
theorem d_M_opposites_6 : decode b_M_opposites 6 = .ok (.iload_n 0, 1) := by decide +kernel
theorem d_M_opposites_7 : decode b_M_opposites 7 = .ok (.bipush 20, 2) := by decide +kernel
theorem d_M_opposites_9 : decode b_M_opposites 9 = .ok (.iand, 1) := by decide +kernel
theorem d_M_opposites_10 : decode b_M_opposites 10 = .ok (.iconst 1, 1) := by decide +kernel
theorem d_M_opposites_11 : decode b_M_opposites 11 = .ok (.ishr, 1) := by decide +kernel
theorem d_M_opposites_12 : decode b_M_opposites 12 = .ok (.ior, 1) := by decide +kernel
theorem d_M_opposites_13 : decode b_M_opposites 13 = .ok (.ireturn, 1) := by decide +kernel
def v_M_opposites (x : Int32) : Int32 := (((x &&& (10 : Int32)) <<< ((1 : Int32) &&& 31)) ||| ((x &&& (20 : Int32)) >>> ((1 : Int32) &&& 31)))
set_option maxRecDepth 100000 in
set_option maxHeartbeats 4000000 in
theorem c_M_opposites {l : Launch} {D : va_G} {dk : Nat → ClassId} {Wd : gm_St → va_W} {A : Nat → Prop} {lt : Nat} {u : gm_St} {x : Int32} : gm_I l D (gm_ty dk) Wd A lt y_M_opposites b_M_opposites 1 (some .int) rm_M_opposites [.int x] u (v_M_opposites x) u := by
  refine gm_enterI (by decide) (Nat.le_of_ble_eq_true rfl) ?_
  intro p e s m args below meth c ls Q H locs hF hM hl hQ
  have hx := hF.1
  have hb := hF.2.1
  have hml := hF.2.2.1
  have hown := hF.2.2.2.1
  have hts := hF.2.2.2.2.1
  have hl : lv_has ls 1 [(0, .int x)] := hl
  refine lv_iload_n hx hb d_M_opposites_0 rfl (lv_at hl 0 rfl) ?_
  refine lv_bipush (v := 10) hx hb d_M_opposites_1 (by decide) ?_
  refine lv_iand hx hb d_M_opposites_3 ?_
  refine lv_iconst (v := 1) hx hb d_M_opposites_4 (by decide) ?_
  refine lv_ishl hx hb d_M_opposites_5 ?_
  refine lv_iload_n hx hb d_M_opposites_6 rfl (lv_at hl 0 rfl) ?_
  refine lv_bipush (v := 20) hx hb d_M_opposites_7 (by decide) ?_
  refine lv_iand hx hb d_M_opposites_9 ?_
  refine lv_iconst (v := 1) hx hb d_M_opposites_10 (by decide) ?_
  refine lv_ishr hx hb d_M_opposites_11 ?_
  refine lv_ior hx hb d_M_opposites_12 ?_
  have hq := hQ H locs 13 ls
  simp only [v_M_opposites] at hq
  exact hq hM d_M_opposites_13
theorem d_M_wantedValves_0 : decode b_M_wantedValves 0 = .ok (.iload_n 1, 1) := by decide +kernel
theorem d_M_wantedValves_1 : decode b_M_wantedValves 1 = .ok (.ifCond .eq 10, 3) := by decide +kernel
theorem d_M_wantedValves_4 : decode b_M_wantedValves 4 = .ok (.aload_n 0, 1) := by decide +kernel
theorem d_M_wantedValves_5 : decode b_M_wantedValves 5 = .ok (.invokevirtual 71, 3) := by decide +kernel
theorem d_M_wantedValves_8 : decode b_M_wantedValves 8 = .ok (.goto 7, 3) := by decide +kernel
theorem d_M_wantedValves_11 : decode b_M_wantedValves 11 = .ok (.aload_n 0, 1) := by decide +kernel
theorem d_M_wantedValves_12 : decode b_M_wantedValves 12 = .ok (.invokevirtual 75, 3) := by decide +kernel
theorem d_M_wantedValves_15 : decode b_M_wantedValves 15 = .ok (.istore_n 2, 1) := by decide +kernel
theorem d_M_wantedValves_16 : decode b_M_wantedValves 16 = .ok (.iload_n 2, 1) := by decide +kernel
theorem d_M_wantedValves_17 : decode b_M_wantedValves 17 = .ok (.ifCond .eq 17, 3) := by decide +kernel
theorem d_M_wantedValves_20 : decode b_M_wantedValves 20 = .ok (.aload_n 0, 1) := by decide +kernel
theorem d_M_wantedValves_21 : decode b_M_wantedValves 21 = .ok (.iconst 3, 1) := by decide +kernel
theorem d_M_wantedValves_22 : decode b_M_wantedValves 22 = .ok (.invokevirtual 78, 3) := by decide +kernel
theorem d_M_wantedValves_25 : decode b_M_wantedValves 25 = .ok (.ifCond .eq 7, 3) := by decide +kernel
theorem d_M_wantedValves_28 : decode b_M_wantedValves 28 = .ok (.iconst 0, 1) := by decide +kernel
theorem d_M_wantedValves_29 : decode b_M_wantedValves 29 = .ok (.goto 4, 3) := by decide +kernel
theorem d_M_wantedValves_32 : decode b_M_wantedValves 32 = .ok (.iconst 4, 1) := by decide +kernel
theorem d_M_wantedValves_33 : decode b_M_wantedValves 33 = .ok (.ireturn, 1) := by decide +kernel
theorem d_M_wantedValves_34 : decode b_M_wantedValves 34 = .ok (.aload_n 0, 1) := by decide +kernel
theorem d_M_wantedValves_35 : decode b_M_wantedValves 35 = .ok (.iconst 2, 1) := by decide +kernel
theorem d_M_wantedValves_36 : decode b_M_wantedValves 36 = .ok (.invokevirtual 78, 3) := by decide +kernel
theorem d_M_wantedValves_39 : decode b_M_wantedValves 39 = .ok (.ifCond .ne 5, 3) := by decide +kernel
theorem d_M_wantedValves_42 : decode b_M_wantedValves 42 = .ok (.iconst 2, 1) := by decide +kernel
theorem d_M_wantedValves_43 : decode b_M_wantedValves 43 = .ok (.ireturn, 1) := by decide +kernel
theorem d_M_wantedValves_44 : decode b_M_wantedValves 44 = .ok (.iconst 2, 1) := by decide +kernel
theorem d_M_wantedValves_45 : decode b_M_wantedValves 45 = .ok (.iload_n 1, 1) := by decide +kernel
theorem d_M_wantedValves_46 : decode b_M_wantedValves 46 = .ok (.ifCond .eq 8, 3) := by decide +kernel
theorem d_M_wantedValves_49 : decode b_M_wantedValves 49 = .ok (.bipush 8, 2) := by decide +kernel
theorem d_M_wantedValves_51 : decode b_M_wantedValves 51 = .ok (.goto 5, 3) := by decide +kernel
theorem d_M_wantedValves_54 : decode b_M_wantedValves 54 = .ok (.bipush 16, 2) := by decide +kernel
theorem d_M_wantedValves_56 : decode b_M_wantedValves 56 = .ok (.ior, 1) := by decide +kernel
theorem d_M_wantedValves_57 : decode b_M_wantedValves 57 = .ok (.ireturn, 1) := by decide +kernel
def v_M_wantedValves (u : gm_St) (m : Nat) (dw : Bool) : Int32 := (if (if dw = true then (v_M_gearsAreExtended u m) else (v_M_gearsAreRetracted u m)) = true then (if (v_M_isOn u m 3) = true then (0 : Int32) else (4 : Int32)) else (if (v_M_isOn u m 2) = true then ((2 : Int32) ||| (if dw = true then (8 : Int32) else (16 : Int32))) else (2 : Int32)))
set_option maxRecDepth 100000 in
set_option maxHeartbeats 4000000 in
theorem c_M_wantedValves {l : Launch} {D : va_G} {dk : Nat → ClassId} {a : Nat → Nat} {A : Nat → Prop} {lt : Nat} {u : gm_St} {m : Nat} {dw : Bool} (hm : m < 2) : gm_I l D (gm_ty dk) (gm_W dk a) A lt y_M_wantedValves b_M_wantedValves 3 (some .int) rm_M_wantedValves [.ref (a (3 + m)), .int (gm_b dw)] u (v_M_wantedValves u m dw) u := by
  refine gm_enterI (by decide) (Nat.le_of_ble_eq_true rfl) ?_
  intro p e s mm args below meth c ls Q H locs hF hM hl hQ
  have hx := hF.1
  have hb := hF.2.1
  have hml := hF.2.2.1
  have hown := hF.2.2.2.1
  have hts := hF.2.2.2.2.1
  have hl : lv_has ls 3 [(0, .ref (a (3 + m))), (1, .int (gm_b dw))] := hl
  refine lv_iload_n hx hb d_M_wantedValves_0 rfl (lv_at hl 1 rfl) ?_
  have J2 : ∀ (ls : Array Slot) (H : Heap) (locs : List Loc), lv_has ls 3 [(0, .ref (a (3 + m))), (1, .int (gm_b dw))] → gm_M D A s (gm_W dk a) u H locs → W p l e rm_M_wantedValves s mm args below meth c H locs 0 0 Q (F0 mm 15 ls [.int (gm_b (if dw = true then (v_M_gearsAreExtended u m) else (v_M_gearsAreRetracted u m)))]) := by
    intro ls H locs hl hM
    refine lv_istore_n (lv' := [(2, .int (gm_b (if dw = true then (v_M_gearsAreExtended u m) else (v_M_gearsAreRetracted u m)))), (0, .ref (a (3 + m))), (1, .int (gm_b dw))]) hx hb d_M_wantedValves_15 rfl hl (by decide) rfl (fun ls hl => ?_)
    refine lv_iload_n hx hb d_M_wantedValves_16 rfl (lv_at hl 0 rfl) ?_
    refine gm_ifz (b := (if dw = true then (v_M_gearsAreExtended u m) else (v_M_gearsAreRetracted u m))) (tgt := 34) hx hb d_M_wantedValves_17 rfl (fun h3 => ?_) (fun h3 => ?_)
    · refine lv_aload_n hx hb d_M_wantedValves_34 rfl (lv_at hl 1 rfl) ?_
      refine lv_iconst (v := 2) hx hb d_M_wantedValves_35 (by decide) ?_
      refine gm_Vi (As := [.int (nI 2)]) (rest := []) hF hM (c_M_isOn (u := u) (m := m) (sn := 2) (by omega) (by omega)) (gk_M_78 hts ⟨by decide, by decide⟩) (gv_M hF hM (by omega) rfl) rfl hl.1 rfl (Nat.le_of_ble_eq_true rfl) ⟨Nat.zero_le _, Nat.zero_le _⟩ d_M_wantedValves_36 (fun H locs hM => ?_)
      refine gm_ifn (b := (v_M_isOn u m 2)) (tgt := 44) hx hb d_M_wantedValves_39 rfl (fun h4 => ?_) (fun h4 => ?_)
      · refine lv_iconst (v := 2) hx hb d_M_wantedValves_44 (by decide) ?_
        refine lv_iload_n hx hb d_M_wantedValves_45 rfl (lv_at hl 2 rfl) ?_
        have J6 : ∀ (ls : Array Slot) (H : Heap) (locs : List Loc), lv_has ls 3 [(0, .ref (a (3 + m))), (1, .int (gm_b dw)), (2, .int (gm_b (if dw = true then (v_M_gearsAreExtended u m) else (v_M_gearsAreRetracted u m))))] → gm_M D A s (gm_W dk a) u H locs → W p l e rm_M_wantedValves s mm args below meth c H locs 0 0 Q (F0 mm 56 ls [.int (if dw = true then (8 : Int32) else (16 : Int32)), .int (2 : Int32)]) := by
          intro ls H locs hl hM
          refine lv_ior hx hb d_M_wantedValves_56 ?_
          have hq := hQ H locs 57 ls
          simp only [v_M_wantedValves, if_neg (gm_nf h3), if_pos h4] at hq
          exact hq hM d_M_wantedValves_57
        refine gm_ifz (b := dw) (tgt := 54) hx hb d_M_wantedValves_46 rfl (fun h5 => ?_) (fun h5 => ?_)
        · refine lv_bipush (v := 16) hx hb d_M_wantedValves_54 (by decide) ?_
          have hJ := J6
          try simp only [if_neg (gm_nf h5)] at hJ
          try simp only [if_neg (gm_nf h5)] at hl
          try simp only [if_neg (gm_nf h5)] at hM
          try simp only [if_neg (gm_nf h5)]
          exact hJ ls H locs (lv_sub hl [1, 2, 0] rfl) hM
        · refine lv_bipush (v := 8) hx hb d_M_wantedValves_49 (by decide) ?_
          refine lv_goto (tgt := 56) hx hb d_M_wantedValves_51 rfl ?_
          have hJ := J6
          try simp only [if_pos h5] at hJ
          try simp only [if_pos h5] at hl
          try simp only [if_pos h5] at hM
          try simp only [if_pos h5]
          exact hJ ls H locs (lv_sub hl [1, 2, 0] rfl) hM
      · refine lv_iconst (v := 2) hx hb d_M_wantedValves_42 (by decide) ?_
        have hq := hQ H locs 43 ls
        simp only [v_M_wantedValves, if_neg (gm_nf h3), if_neg (gm_nf h4)] at hq
        exact hq hM d_M_wantedValves_43
    · refine lv_aload_n hx hb d_M_wantedValves_20 rfl (lv_at hl 1 rfl) ?_
      refine lv_iconst (v := 3) hx hb d_M_wantedValves_21 (by decide) ?_
      refine gm_Vi (As := [.int (nI 3)]) (rest := []) hF hM (c_M_isOn (u := u) (m := m) (sn := 3) (by omega) (by omega)) (gk_M_78 hts ⟨by decide, by decide⟩) (gv_M hF hM (by omega) rfl) rfl hl.1 rfl (Nat.le_of_ble_eq_true rfl) ⟨Nat.zero_le _, Nat.zero_le _⟩ d_M_wantedValves_22 (fun H locs hM => ?_)
      have J8 : ∀ (ls : Array Slot) (H : Heap) (locs : List Loc), lv_has ls 3 [(0, .ref (a (3 + m))), (1, .int (gm_b dw)), (2, .int (gm_b (if dw = true then (v_M_gearsAreExtended u m) else (v_M_gearsAreRetracted u m))))] → gm_M D A s (gm_W dk a) u H locs → W p l e rm_M_wantedValves s mm args below meth c H locs 0 0 Q (F0 mm 33 ls [.int (if (v_M_isOn u m 3) = true then (0 : Int32) else (4 : Int32))]) := by
        intro ls H locs hl hM
        have hq := hQ H locs 33 ls
        simp only [v_M_wantedValves, if_pos h3] at hq
        exact hq hM d_M_wantedValves_33
      refine gm_ifz (b := (v_M_isOn u m 3)) (tgt := 32) hx hb d_M_wantedValves_25 rfl (fun h7 => ?_) (fun h7 => ?_)
      · refine lv_iconst (v := 4) hx hb d_M_wantedValves_32 (by decide) ?_
        have hJ := J8
        try simp only [if_neg (gm_nf h7)] at hJ
        exact hJ ls H locs (lv_sub hl [1, 2, 0] rfl) hM
      · refine lv_iconst (v := 0) hx hb d_M_wantedValves_28 (by decide) ?_
        refine lv_goto (tgt := 33) hx hb d_M_wantedValves_29 rfl ?_
        have hJ := J8
        try simp only [if_pos h7] at hJ
        exact hJ ls H locs (lv_sub hl [1, 2, 0] rfl) hM
  refine gm_ifz (b := dw) (tgt := 11) hx hb d_M_wantedValves_1 rfl (fun h1 => ?_) (fun h1 => ?_)
  · refine lv_aload_n hx hb d_M_wantedValves_11 rfl (lv_at hl 0 rfl) ?_
    refine gm_Vi (As := []) (rest := []) hF hM (c_M_gearsAreRetracted (u := u) (m := m) (by omega)) (gk_M_75 hts ⟨by decide, by decide⟩) (gv_M hF hM (by omega) rfl) rfl hl.1 rfl (Nat.le_of_ble_eq_true rfl) ⟨Nat.zero_le _, Nat.zero_le _⟩ d_M_wantedValves_12 (fun H locs hM => ?_)
    have hJ := J2
    try simp only [if_neg (gm_nf h1)] at hJ
    exact hJ ls H locs hl hM
  · refine lv_aload_n hx hb d_M_wantedValves_4 rfl (lv_at hl 0 rfl) ?_
    refine gm_Vi (As := []) (rest := []) hF hM (c_M_gearsAreExtended (u := u) (m := m) (by omega)) (gk_M_71 hts ⟨by decide, by decide⟩) (gv_M hF hM (by omega) rfl) rfl hl.1 rfl (Nat.le_of_ble_eq_true rfl) ⟨Nat.zero_le _, Nat.zero_le _⟩ d_M_wantedValves_5 (fun H locs hM => ?_)
    refine lv_goto (tgt := 15) hx hb d_M_wantedValves_8 rfl ?_
    have hJ := J2
    try simp only [if_pos h1] at hJ
    exact hJ ls H locs hl hM
theorem d_M_switchValves_0 : decode b_M_switchValves 0 = .ok (.aload_n 0, 1) := by decide +kernel
theorem d_M_switchValves_1 : decode b_M_switchValves 1 = .ok (.getfield 35, 3) := by decide +kernel
theorem d_M_switchValves_4 : decode b_M_switchValves 4 = .ok (.iconst 1, 1) := by decide +kernel
theorem d_M_switchValves_5 : decode b_M_switchValves 5 = .ok (.iand, 1) := by decide +kernel
theorem d_M_switchValves_6 : decode b_M_switchValves 6 = .ok (.ifCond .eq 7, 3) := by decide +kernel
theorem d_M_switchValves_9 : decode b_M_switchValves 9 = .ok (.iconst 1, 1) := by decide +kernel
theorem d_M_switchValves_10 : decode b_M_switchValves 10 = .ok (.goto 4, 3) := by decide +kernel
theorem d_M_switchValves_13 : decode b_M_switchValves 13 = .ok (.iconst 0, 1) := by decide +kernel
theorem d_M_switchValves_14 : decode b_M_switchValves 14 = .ok (.istore_n 2, 1) := by decide +kernel
theorem d_M_switchValves_15 : decode b_M_switchValves 15 = .ok (.iload_n 1, 1) := by decide +kernel
theorem d_M_switchValves_16 : decode b_M_switchValves 16 = .ok (.ifCond .ne 10, 3) := by decide +kernel
theorem d_M_switchValves_19 : decode b_M_switchValves 19 = .ok (.aload_n 0, 1) := by decide +kernel
theorem d_M_switchValves_20 : decode b_M_switchValves 20 = .ok (.getfield 39, 3) := by decide +kernel
theorem d_M_switchValves_23 : decode b_M_switchValves 23 = .ok (.ifCond .le 7, 3) := by decide +kernel
theorem d_M_switchValves_26 : decode b_M_switchValves 26 = .ok (.iconst 1, 1) := by decide +kernel
theorem d_M_switchValves_27 : decode b_M_switchValves 27 = .ok (.goto 4, 3) := by decide +kernel
theorem d_M_switchValves_30 : decode b_M_switchValves 30 = .ok (.iconst 0, 1) := by decide +kernel
theorem d_M_switchValves_31 : decode b_M_switchValves 31 = .ok (.istore_n 3, 1) := by decide +kernel
theorem d_M_switchValves_32 : decode b_M_switchValves 32 = .ok (.iload_n 2, 1) := by decide +kernel
theorem d_M_switchValves_33 : decode b_M_switchValves 33 = .ok (.ifCond .eq 24, 3) := by decide +kernel
theorem d_M_switchValves_36 : decode b_M_switchValves 36 = .ok (.aload_n 0, 1) := by decide +kernel
theorem d_M_switchValves_37 : decode b_M_switchValves 37 = .ok (.getfield 32, 3) := by decide +kernel
theorem d_M_switchValves_40 : decode b_M_switchValves 40 = .ok (.ifCond .eq 17, 3) := by decide +kernel
theorem d_M_switchValves_43 : decode b_M_switchValves 43 = .ok (.iload_n 3, 1) := by decide +kernel
theorem d_M_switchValves_44 : decode b_M_switchValves 44 = .ok (.iload_n 1, 1) := by decide +kernel
theorem d_M_switchValves_45 : decode b_M_switchValves 45 = .ok (.aload_n 0, 1) := by decide +kernel
theorem d_M_switchValves_46 : decode b_M_switchValves 46 = .ok (.getfield 35, 3) := by decide +kernel
theorem d_M_switchValves_49 : decode b_M_switchValves 49 = .ok (.invokestatic 81, 3) := by decide +kernel
theorem d_M_switchValves_52 : decode b_M_switchValves 52 = .ok (.iconst (-1), 1) := by decide +kernel
theorem d_M_switchValves_53 : decode b_M_switchValves 53 = .ok (.ixor, 1) := by decide +kernel
theorem d_M_switchValves_54 : decode b_M_switchValves 54 = .ok (.iand, 1) := by decide +kernel
theorem d_M_switchValves_55 : decode b_M_switchValves 55 = .ok (.ior, 1) := by decide +kernel
theorem d_M_switchValves_56 : decode b_M_switchValves 56 = .ok (.istore_n 3, 1) := by decide +kernel
theorem d_M_switchValves_57 : decode b_M_switchValves 57 = .ok (.aload_n 0, 1) := by decide +kernel
theorem d_M_switchValves_58 : decode b_M_switchValves 58 = .ok (.iload_n 2, 1) := by decide +kernel
theorem d_M_switchValves_59 : decode b_M_switchValves 59 = .ok (.putfield 32, 3) := by decide +kernel
theorem d_M_switchValves_62 : decode b_M_switchValves 62 = .ok (.aload_n 0, 1) := by decide +kernel
theorem d_M_switchValves_63 : decode b_M_switchValves 63 = .ok (.iload_n 3, 1) := by decide +kernel
theorem d_M_switchValves_64 : decode b_M_switchValves 64 = .ok (.putfield 35, 3) := by decide +kernel
theorem d_M_switchValves_67 : decode b_M_switchValves 67 = .ok (.aload_n 0, 1) := by decide +kernel
theorem d_M_switchValves_68 : decode b_M_switchValves 68 = .ok (.iload_n 3, 1) := by decide +kernel
theorem d_M_switchValves_69 : decode b_M_switchValves 69 = .ok (.bipush 30, 2) := by decide +kernel
theorem d_M_switchValves_71 : decode b_M_switchValves 71 = .ok (.iand, 1) := by decide +kernel
theorem d_M_switchValves_72 : decode b_M_switchValves 72 = .ok (.ifCond .eq 8, 3) := by decide +kernel
theorem d_M_switchValves_75 : decode b_M_switchValves 75 = .ok (.bipush 10, 2) := by decide +kernel
theorem d_M_switchValves_77 : decode b_M_switchValves 77 = .ok (.goto 13, 3) := by decide +kernel
theorem d_M_switchValves_80 : decode b_M_switchValves 80 = .ok (.aload_n 0, 1) := by decide +kernel
theorem d_M_switchValves_81 : decode b_M_switchValves 81 = .ok (.getfield 39, 3) := by decide +kernel
theorem d_M_switchValves_84 : decode b_M_switchValves 84 = .ok (.iconst 1, 1) := by decide +kernel
theorem d_M_switchValves_85 : decode b_M_switchValves 85 = .ok (.isub, 1) := by decide +kernel
theorem d_M_switchValves_86 : decode b_M_switchValves 86 = .ok (.iconst 0, 1) := by decide +kernel
theorem d_M_switchValves_87 : decode b_M_switchValves 87 = .ok (.invokestatic 84, 3) := by decide +kernel
theorem d_M_switchValves_90 : decode b_M_switchValves 90 = .ok (.putfield 39, 3) := by decide +kernel
theorem d_M_switchValves_93 : decode b_M_switchValves 93 = .ok (.return_, 1) := by decide +kernel
def s_M_switchValves (u : gm_St) (m : Nat) (wn : Int32) : gm_St := (gm_sG (gm_sG (gm_sB u 4 m (if ((u.2.1 3 m) &&& (1 : Int32)) = 0 then false else true)) 3 m (if (if ((u.2.1 3 m) &&& (1 : Int32)) = 0 then false else true) = true then (if (u.1 4 m) = true then ((gm_b (if wn = 0 then (if (u.2.1 4 m) ≤ 0 then false else true) else true)) ||| (wn &&& ((v_M_opposites (u.2.1 3 m)) ^^^ (-1 : Int32)))) else (gm_b (if wn = 0 then (if (u.2.1 4 m) ≤ 0 then false else true) else true))) else (gm_b (if wn = 0 then (if (u.2.1 4 m) ≤ 0 then false else true) else true)))) 4 m (if ((if (if ((u.2.1 3 m) &&& (1 : Int32)) = 0 then false else true) = true then (if (u.1 4 m) = true then ((gm_b (if wn = 0 then (if (u.2.1 4 m) ≤ 0 then false else true) else true)) ||| (wn &&& ((v_M_opposites (u.2.1 3 m)) ^^^ (-1 : Int32)))) else (gm_b (if wn = 0 then (if (u.2.1 4 m) ≤ 0 then false else true) else true))) else (gm_b (if wn = 0 then (if (u.2.1 4 m) ≤ 0 then false else true) else true))) &&& (30 : Int32)) = 0 then (if (((gm_sG (gm_sB u 4 m (if ((u.2.1 3 m) &&& (1 : Int32)) = 0 then false else true)) 3 m (if (if ((u.2.1 3 m) &&& (1 : Int32)) = 0 then false else true) = true then (if (u.1 4 m) = true then ((gm_b (if wn = 0 then (if (u.2.1 4 m) ≤ 0 then false else true) else true)) ||| (wn &&& ((v_M_opposites (u.2.1 3 m)) ^^^ (-1 : Int32)))) else (gm_b (if wn = 0 then (if (u.2.1 4 m) ≤ 0 then false else true) else true))) else (gm_b (if wn = 0 then (if (u.2.1 4 m) ≤ 0 then false else true) else true)))).2.1 4 m) - (1 : Int32)) < (0 : Int32) then (0 : Int32) else (((gm_sG (gm_sB u 4 m (if ((u.2.1 3 m) &&& (1 : Int32)) = 0 then false else true)) 3 m (if (if ((u.2.1 3 m) &&& (1 : Int32)) = 0 then false else true) = true then (if (u.1 4 m) = true then ((gm_b (if wn = 0 then (if (u.2.1 4 m) ≤ 0 then false else true) else true)) ||| (wn &&& ((v_M_opposites (u.2.1 3 m)) ^^^ (-1 : Int32)))) else (gm_b (if wn = 0 then (if (u.2.1 4 m) ≤ 0 then false else true) else true))) else (gm_b (if wn = 0 then (if (u.2.1 4 m) ≤ 0 then false else true) else true)))).2.1 4 m) - (1 : Int32))) else (10 : Int32)))
set_option maxRecDepth 100000 in
set_option maxHeartbeats 4000000 in
theorem c_M_switchValves {l : Launch} {D : va_G} {dk : Nat → ClassId} {a : Nat → Nat} {A : Nat → Prop} {lt : Nat} {u : gm_St} {m : Nat} {wn : Int32} (hm : m < 2) : gm_V l D (gm_ty dk) (gm_W dk a) A lt y_M_switchValves b_M_switchValves 4 rm_M_switchValves [.ref (a (3 + m)), .int wn] u (s_M_switchValves u m wn) := by
  refine gm_enterV (by decide) (Nat.le_of_ble_eq_true rfl) ?_
  intro p e s mm args below meth c ls Q H locs hF hM hl hQ
  have hx := hF.1
  have hb := hF.2.1
  have hml := hF.2.2.1
  have hown := hF.2.2.2.1
  have hts := hF.2.2.2.2.1
  have hl : lv_has ls 4 [(0, .ref (a (3 + m))), (1, .int wn)] := hl
  refine lv_aload_n hx hb d_M_switchValves_0 rfl (lv_at hl 0 rfl) ?_
  refine gf_M_35 hF hM (by omega) d_M_switchValves_1 ?_
  refine lv_iconst (v := 1) hx hb d_M_switchValves_4 (by decide) ?_
  refine lv_iand hx hb d_M_switchValves_5 ?_
  have J2 : ∀ (ls : Array Slot) (H : Heap) (locs : List Loc), lv_has ls 4 [(0, .ref (a (3 + m))), (1, .int wn)] → gm_M D A s (gm_W dk a) u H locs → W p l e rm_M_switchValves s mm args below meth c H locs 0 0 Q (F0 mm 14 ls [.int (gm_b (if ((u.2.1 3 m) &&& (1 : Int32)) = 0 then false else true))]) := by
    intro ls H locs hl hM
    refine lv_istore_n (lv' := [(2, .int (gm_b (if ((u.2.1 3 m) &&& (1 : Int32)) = 0 then false else true))), (0, .ref (a (3 + m))), (1, .int wn)]) hx hb d_M_switchValves_14 rfl hl (by decide) rfl (fun ls hl => ?_)
    refine lv_iload_n hx hb d_M_switchValves_15 rfl (lv_at hl 2 rfl) ?_
    have J4 : ∀ (ls : Array Slot) (H : Heap) (locs : List Loc), lv_has ls 4 [(0, .ref (a (3 + m))), (1, .int wn), (2, .int (gm_b (if ((u.2.1 3 m) &&& (1 : Int32)) = 0 then false else true)))] → gm_M D A s (gm_W dk a) u H locs → W p l e rm_M_switchValves s mm args below meth c H locs 0 0 Q (F0 mm 31 ls [.int (gm_b (if wn = 0 then (if (u.2.1 4 m) ≤ 0 then false else true) else true))]) := by
      intro ls H locs hl hM
      refine lv_istore_n (lv' := [(3, .int (gm_b (if wn = 0 then (if (u.2.1 4 m) ≤ 0 then false else true) else true))), (0, .ref (a (3 + m))), (1, .int wn), (2, .int (gm_b (if ((u.2.1 3 m) &&& (1 : Int32)) = 0 then false else true)))]) hx hb d_M_switchValves_31 rfl hl (by decide) rfl (fun ls hl => ?_)
      refine lv_iload_n hx hb d_M_switchValves_32 rfl (lv_at hl 3 rfl) ?_
      have J6 : ∀ (ls : Array Slot) (H : Heap) (locs : List Loc), lv_has ls 4 [(0, .ref (a (3 + m))), (1, .int wn), (2, .int (gm_b (if ((u.2.1 3 m) &&& (1 : Int32)) = 0 then false else true))), (3, .int (if (if ((u.2.1 3 m) &&& (1 : Int32)) = 0 then false else true) = true then (if (u.1 4 m) = true then ((gm_b (if wn = 0 then (if (u.2.1 4 m) ≤ 0 then false else true) else true)) ||| (wn &&& ((v_M_opposites (u.2.1 3 m)) ^^^ (-1 : Int32)))) else (gm_b (if wn = 0 then (if (u.2.1 4 m) ≤ 0 then false else true) else true))) else (gm_b (if wn = 0 then (if (u.2.1 4 m) ≤ 0 then false else true) else true))))] → gm_M D A s (gm_W dk a) u H locs → W p l e rm_M_switchValves s mm args below meth c H locs 0 0 Q (F0 mm 57 ls []) := by
        intro ls H locs hl hM
        refine lv_aload_n hx hb d_M_switchValves_57 rfl (lv_at hl 0 rfl) ?_
        refine lv_iload_n hx hb d_M_switchValves_58 rfl (lv_at hl 2 rfl) ?_
        refine gp_M_32 hF hM (by omega) (x := (if ((u.2.1 3 m) &&& (1 : Int32)) = 0 then false else true)) rfl d_M_switchValves_59 (fun H locs hM => ?_)
        refine lv_aload_n hx hb d_M_switchValves_62 rfl (lv_at hl 0 rfl) ?_
        refine lv_iload_n hx hb d_M_switchValves_63 rfl (lv_at hl 3 rfl) ?_
        refine gp_M_35 hF hM (by omega) d_M_switchValves_64 (fun H locs hM => ?_)
        refine lv_aload_n hx hb d_M_switchValves_67 rfl (lv_at hl 0 rfl) ?_
        refine lv_iload_n hx hb d_M_switchValves_68 rfl (lv_at hl 3 rfl) ?_
        refine lv_bipush (v := 30) hx hb d_M_switchValves_69 (by decide) ?_
        refine lv_iand hx hb d_M_switchValves_71 ?_
        have J8 : ∀ (ls : Array Slot) (H : Heap) (locs : List Loc), lv_has ls 4 [(0, .ref (a (3 + m))), (1, .int wn), (2, .int (gm_b (if ((u.2.1 3 m) &&& (1 : Int32)) = 0 then false else true))), (3, .int (if (if ((u.2.1 3 m) &&& (1 : Int32)) = 0 then false else true) = true then (if (u.1 4 m) = true then ((gm_b (if wn = 0 then (if (u.2.1 4 m) ≤ 0 then false else true) else true)) ||| (wn &&& ((v_M_opposites (u.2.1 3 m)) ^^^ (-1 : Int32)))) else (gm_b (if wn = 0 then (if (u.2.1 4 m) ≤ 0 then false else true) else true))) else (gm_b (if wn = 0 then (if (u.2.1 4 m) ≤ 0 then false else true) else true))))] → gm_M D A s (gm_W dk a) (gm_sG (gm_sB u 4 m (if ((u.2.1 3 m) &&& (1 : Int32)) = 0 then false else true)) 3 m (if (if ((u.2.1 3 m) &&& (1 : Int32)) = 0 then false else true) = true then (if (u.1 4 m) = true then ((gm_b (if wn = 0 then (if (u.2.1 4 m) ≤ 0 then false else true) else true)) ||| (wn &&& ((v_M_opposites (u.2.1 3 m)) ^^^ (-1 : Int32)))) else (gm_b (if wn = 0 then (if (u.2.1 4 m) ≤ 0 then false else true) else true))) else (gm_b (if wn = 0 then (if (u.2.1 4 m) ≤ 0 then false else true) else true)))) H locs → W p l e rm_M_switchValves s mm args below meth c H locs 0 0 Q (F0 mm 90 ls [.int (if ((if (if ((u.2.1 3 m) &&& (1 : Int32)) = 0 then false else true) = true then (if (u.1 4 m) = true then ((gm_b (if wn = 0 then (if (u.2.1 4 m) ≤ 0 then false else true) else true)) ||| (wn &&& ((v_M_opposites (u.2.1 3 m)) ^^^ (-1 : Int32)))) else (gm_b (if wn = 0 then (if (u.2.1 4 m) ≤ 0 then false else true) else true))) else (gm_b (if wn = 0 then (if (u.2.1 4 m) ≤ 0 then false else true) else true))) &&& (30 : Int32)) = 0 then (if (((gm_sG (gm_sB u 4 m (if ((u.2.1 3 m) &&& (1 : Int32)) = 0 then false else true)) 3 m (if (if ((u.2.1 3 m) &&& (1 : Int32)) = 0 then false else true) = true then (if (u.1 4 m) = true then ((gm_b (if wn = 0 then (if (u.2.1 4 m) ≤ 0 then false else true) else true)) ||| (wn &&& ((v_M_opposites (u.2.1 3 m)) ^^^ (-1 : Int32)))) else (gm_b (if wn = 0 then (if (u.2.1 4 m) ≤ 0 then false else true) else true))) else (gm_b (if wn = 0 then (if (u.2.1 4 m) ≤ 0 then false else true) else true)))).2.1 4 m) - (1 : Int32)) < (0 : Int32) then (0 : Int32) else (((gm_sG (gm_sB u 4 m (if ((u.2.1 3 m) &&& (1 : Int32)) = 0 then false else true)) 3 m (if (if ((u.2.1 3 m) &&& (1 : Int32)) = 0 then false else true) = true then (if (u.1 4 m) = true then ((gm_b (if wn = 0 then (if (u.2.1 4 m) ≤ 0 then false else true) else true)) ||| (wn &&& ((v_M_opposites (u.2.1 3 m)) ^^^ (-1 : Int32)))) else (gm_b (if wn = 0 then (if (u.2.1 4 m) ≤ 0 then false else true) else true))) else (gm_b (if wn = 0 then (if (u.2.1 4 m) ≤ 0 then false else true) else true)))).2.1 4 m) - (1 : Int32))) else (10 : Int32)), .ref (a (3 + m))]) := by
          intro ls H locs hl hM
          refine gp_M_39 hF hM (by omega) d_M_switchValves_90 (fun H locs hM => ?_)
          have hq := hQ H locs 93 ls
          simp only [s_M_switchValves] at hq
          exact hq hM d_M_switchValves_93
        refine lv_if_eq (tgt := 80) hx hb d_M_switchValves_72 rfl (fun h7 => ?_) (fun h7 => ?_)
        · refine lv_aload_n hx hb d_M_switchValves_80 rfl (lv_at hl 0 rfl) ?_
          refine gf_M_39 hF hM (by omega) d_M_switchValves_81 ?_
          refine lv_iconst (v := 1) hx hb d_M_switchValves_84 (by decide) ?_
          refine lv_isub hx hb d_M_switchValves_85 ?_
          refine lv_iconst (v := 0) hx hb d_M_switchValves_86 (by decide) ?_
          refine va_mmax hx hb (by rw [hml]; exact hl.1.symm) hown (hts _ gw_ml_M_84) (hts _ gw_mst_max) (hts _ gw_mini) (hts _ gw_mcode_max) (Nat.le_of_ble_eq_true rfl) (Nat.le_of_ble_eq_true rfl) (Nat.zero_le _) (Nat.zero_le _) d_M_switchValves_87 ?_
          have hJ := J8
          try simp only [if_pos h7] at hJ
          exact hJ ls H locs hl hM
        · refine lv_bipush (v := 10) hx hb d_M_switchValves_75 (by decide) ?_
          refine lv_goto (tgt := 90) hx hb d_M_switchValves_77 rfl ?_
          have hJ := J8
          try simp only [if_neg h7] at hJ
          exact hJ ls H locs hl hM
      refine gm_ifz (b := (if ((u.2.1 3 m) &&& (1 : Int32)) = 0 then false else true)) (tgt := 57) hx hb d_M_switchValves_33 rfl (fun h5 => ?_) (fun h5 => ?_)
      · have hJ := J6
        try simp only [if_neg (gm_nf h5)] at hJ
        exact hJ ls H locs (lv_sub hl [1, 2, 3, 0] rfl) hM
      · refine lv_aload_n hx hb d_M_switchValves_36 rfl (lv_at hl 1 rfl) ?_
        refine gf_M_32 hF hM (by omega) d_M_switchValves_37 ?_
        refine gm_ifz (b := (u.1 4 m)) (tgt := 57) hx hb d_M_switchValves_40 rfl (fun h9 => ?_) (fun h9 => ?_)
        · have hJ := J6
          try simp only [if_pos h5, if_neg (gm_nf h9)] at hJ
          exact hJ ls H locs (lv_sub hl [1, 2, 3, 0] rfl) hM
        · refine lv_iload_n hx hb d_M_switchValves_43 rfl (lv_at hl 0 rfl) ?_
          refine lv_iload_n hx hb d_M_switchValves_44 rfl (lv_at hl 2 rfl) ?_
          refine lv_aload_n hx hb d_M_switchValves_45 rfl (lv_at hl 1 rfl) ?_
          refine gf_M_35 hF hM (by omega) d_M_switchValves_46 ?_
          refine gm_Si (As := [.int (u.2.1 3 m)]) (rest := [.int wn, .int (gm_b (if wn = 0 then (if (u.2.1 4 m) ≤ 0 then false else true) else true))]) hF hM (c_M_opposites (u := u) (x := (u.2.1 3 m)) ) (gk_M_81 hts ⟨by decide, by decide⟩) rfl hl.1 rfl (Nat.le_of_ble_eq_true rfl) ⟨Nat.zero_le _, Nat.zero_le _⟩ d_M_switchValves_49 (fun H locs hM => ?_)
          refine lv_iconst (v := -1) hx hb d_M_switchValves_52 (by decide) ?_
          refine lv_ixor hx hb d_M_switchValves_53 ?_
          refine lv_iand hx hb d_M_switchValves_54 ?_
          refine lv_ior hx hb d_M_switchValves_55 ?_
          refine lv_istore_n (lv' := [(3, .int ((gm_b (if wn = 0 then (if (u.2.1 4 m) ≤ 0 then false else true) else true)) ||| (wn &&& ((v_M_opposites (u.2.1 3 m)) ^^^ (-1 : Int32))))), (0, .ref (a (3 + m))), (1, .int wn), (2, .int (gm_b (if ((u.2.1 3 m) &&& (1 : Int32)) = 0 then false else true)))]) hx hb d_M_switchValves_56 rfl hl (by decide) rfl (fun ls hl => ?_)
          have hJ := J6
          try simp only [if_pos h5, if_pos h9] at hJ
          exact hJ ls H locs (lv_sub hl [1, 2, 3, 0] rfl) hM
    refine lv_if_ne (tgt := 26) hx hb d_M_switchValves_16 rfl (fun h3 => ?_) (fun h3 => ?_)
    · refine lv_iconst (v := 1) hx hb d_M_switchValves_26 (by decide) ?_
      refine lv_goto (tgt := 31) hx hb d_M_switchValves_27 rfl ?_
      have hJ := J4
      try simp only [if_neg h3] at hJ
      exact hJ ls H locs (lv_sub hl [1, 2, 0] rfl) hM
    · refine lv_aload_n hx hb d_M_switchValves_19 rfl (lv_at hl 1 rfl) ?_
      refine gf_M_39 hF hM (by omega) d_M_switchValves_20 ?_
      refine lv_if_le (tgt := 30) hx hb d_M_switchValves_23 rfl (fun h10 => ?_) (fun h10 => ?_)
      · refine lv_iconst (v := 0) hx hb d_M_switchValves_30 (by decide) ?_
        have hJ := J4
        try simp only [if_pos h3, if_pos h10] at hJ
        exact hJ ls H locs (lv_sub hl [1, 2, 0] rfl) hM
      · refine lv_iconst (v := 1) hx hb d_M_switchValves_26 (by decide) ?_
        refine lv_goto (tgt := 31) hx hb d_M_switchValves_27 rfl ?_
        have hJ := J4
        try simp only [if_pos h3, if_neg h10] at hJ
        exact hJ ls H locs (lv_sub hl [1, 2, 0] rfl) hM
  refine lv_if_eq (tgt := 13) hx hb d_M_switchValves_6 rfl (fun h1 => ?_) (fun h1 => ?_)
  · refine lv_iconst (v := 0) hx hb d_M_switchValves_13 (by decide) ?_
    have hJ := J2
    try simp only [if_pos h1] at hJ
    exact hJ ls H locs hl hM
  · refine lv_iconst (v := 1) hx hb d_M_switchValves_9 (by decide) ?_
    refine lv_goto (tgt := 14) hx hb d_M_switchValves_10 rfl ?_
    have hJ := J2
    try simp only [if_neg h1] at hJ
    exact hJ ls H locs hl hM
end
section
theorem d_M_voteAll_0 : decode b_M_voteAll 0 = .ok (.iconst 0, 1) := by decide +kernel
theorem d_M_voteAll_1 : decode b_M_voteAll 1 = .ok (.istore_n 2, 1) := by decide +kernel
theorem d_M_voteAll_2 : decode b_M_voteAll 2 = .ok (.iconst 0, 1) := by decide +kernel
theorem d_M_voteAll_3 : decode b_M_voteAll 3 = .ok (.istore_n 3, 1) := by decide +kernel
theorem d_M_voteAll_4 : decode b_M_voteAll 4 = .ok (.iload_n 3, 1) := by decide +kernel
theorem d_M_voteAll_5 : decode b_M_voteAll 5 = .ok (.bipush 6, 2) := by decide +kernel
theorem d_M_voteAll_7 : decode b_M_voteAll 7 = .ok (.if_icmp .ge 35, 3) := by decide +kernel
theorem d_M_voteAll_10 : decode b_M_voteAll 10 = .ok (.aload_n 0, 1) := by decide +kernel
theorem d_M_voteAll_11 : decode b_M_voteAll 11 = .ok (.getfield 11, 3) := by decide +kernel
theorem d_M_voteAll_14 : decode b_M_voteAll 14 = .ok (.iload_n 3, 1) := by decide +kernel
theorem d_M_voteAll_15 : decode b_M_voteAll 15 = .ok (.aaload, 1) := by decide +kernel
theorem d_M_voteAll_16 : decode b_M_voteAll 16 = .ok (.iload_n 1, 1) := by decide +kernel
theorem d_M_voteAll_17 : decode b_M_voteAll 17 = .ok (.iconst 3, 1) := by decide +kernel
theorem d_M_voteAll_18 : decode b_M_voteAll 18 = .ok (.iload_n 3, 1) := by decide +kernel
theorem d_M_voteAll_19 : decode b_M_voteAll 19 = .ok (.imul, 1) := by decide +kernel
theorem d_M_voteAll_20 : decode b_M_voteAll 20 = .ok (.ishr, 1) := by decide +kernel
theorem d_M_voteAll_21 : decode b_M_voteAll 21 = .ok (.bipush 7, 2) := by decide +kernel
theorem d_M_voteAll_23 : decode b_M_voteAll 23 = .ok (.iand, 1) := by decide +kernel
theorem d_M_voteAll_24 : decode b_M_voteAll 24 = .ok (.invokevirtual 67, 3) := by decide +kernel
theorem d_M_voteAll_27 : decode b_M_voteAll 27 = .ok (.ifCond .eq 9, 3) := by decide +kernel
theorem d_M_voteAll_30 : decode b_M_voteAll 30 = .ok (.iload_n 2, 1) := by decide +kernel
theorem d_M_voteAll_31 : decode b_M_voteAll 31 = .ok (.iconst 1, 1) := by decide +kernel
theorem d_M_voteAll_32 : decode b_M_voteAll 32 = .ok (.iload_n 3, 1) := by decide +kernel
theorem d_M_voteAll_33 : decode b_M_voteAll 33 = .ok (.ishl, 1) := by decide +kernel
theorem d_M_voteAll_34 : decode b_M_voteAll 34 = .ok (.ior, 1) := by decide +kernel
theorem d_M_voteAll_35 : decode b_M_voteAll 35 = .ok (.istore_n 2, 1) := by decide +kernel
theorem d_M_voteAll_36 : decode b_M_voteAll 36 = .ok (.iinc 3 1, 3) := by decide +kernel
theorem d_M_voteAll_39 : decode b_M_voteAll 39 = .ok (.goto (-35), 3) := by decide +kernel
theorem d_M_voteAll_42 : decode b_M_voteAll 42 = .ok (.iload_n 2, 1) := by decide +kernel
theorem d_M_voteAll_43 : decode b_M_voteAll 43 = .ok (.ireturn, 1) := by decide +kernel
def lp_M_voteAll (m : Nat) (ch : Int32) : Nat → Nat → Int32 → gm_St → Int32 × gm_St
  | 0, _, x, u => (x, u)
  | k + 1, i, x, u => lp_M_voteAll m ch k (i + 1) (if (v_S_vote u (6 * m + i) ((ch >>> (((3 : Int32) * (nI i)) &&& 31)) &&& (7 : Int32))) = true then (x ||| ((1 : Int32) <<< ((nI i) &&& 31))) else x) (s_S_vote u (6 * m + i) ((ch >>> (((3 : Int32) * (nI i)) &&& 31)) &&& (7 : Int32)))
def v_M_voteAll (u : gm_St) (m : Nat) (ch : Int32) : Int32 := ((lp_M_voteAll m ch 6 0 (0 : Int32) u).1)
def s_M_voteAll (u : gm_St) (m : Nat) (ch : Int32) : gm_St := ((lp_M_voteAll m ch 6 0 (0 : Int32) u).2)
set_option maxRecDepth 100000 in
set_option maxHeartbeats 4000000 in
theorem c_M_voteAll {l : Launch} {D : va_G} {dk : Nat → ClassId} {a : Nat → Nat} {A : Nat → Prop} {lt : Nat} {u : gm_St} {m : Nat} {ch : Int32} (hm : m < 2) : gm_I l D (gm_ty dk) (gm_W dk a) A lt y_M_voteAll b_M_voteAll 4 (some .int) rm_M_voteAll [.ref (a (3 + m)), .int ch] u (v_M_voteAll u m ch) (s_M_voteAll u m ch) := by
  refine gm_enterI (by decide) (Nat.le_of_ble_eq_true rfl) ?_
  intro p e s mm args below meth c ls Q H locs hF hM hl hQ
  have hx := hF.1
  have hb := hF.2.1
  have hml := hF.2.2.1
  have hown := hF.2.2.2.1
  have hts := hF.2.2.2.2.1
  have hl : lv_has ls 4 [(0, .ref (a (3 + m))), (1, .int ch)] := hl
  refine lv_iconst (v := 0) hx hb d_M_voteAll_0 (by decide) ?_
  refine lv_istore_n (lv' := [(2, .int (0 : Int32)), (0, .ref (a (3 + m))), (1, .int ch)]) hx hb d_M_voteAll_1 rfl hl (by decide) rfl (fun ls hl => ?_)
  refine lv_iconst (v := 0) hx hb d_M_voteAll_2 (by decide) ?_
  refine lv_istore_n (lv' := [(3, .int (0 : Int32)), (2, .int (0 : Int32)), (0, .ref (a (3 + m))), (1, .int ch)]) hx hb d_M_voteAll_3 rfl hl (by decide) rfl (fun ls hl => ?_)
  have L1 : ∀ (k1 i1 : Nat) (x1 : Int32) (w1 : gm_St) (ls : Array Slot) (H : Heap) (locs : List Loc), i1 + k1 = 6 → lv_has ls 4 [(3, .int (nI i1)), (2, .int x1), (0, .ref (a (3 + m))), (1, .int ch)] → gm_M D A s (gm_W dk a) w1 H locs → (∀ (ls : Array Slot) (H : Heap) (locs : List Loc), lv_has ls 4 [(3, .int (nI 6)), (2, .int ((lp_M_voteAll m ch k1 i1 x1 w1).1)), (0, .ref (a (3 + m))), (1, .int ch)] → gm_M D A s (gm_W dk a) ((lp_M_voteAll m ch k1 i1 x1 w1).2) H locs → W p l e rm_M_voteAll s mm args below meth c H locs 0 0 Q (F0 mm 42 ls [])) → W p l e rm_M_voteAll s mm args below meth c H locs 0 0 Q (F0 mm 4 ls []) := by
    intro k1
    induction k1 with
    | zero =>
      intro i1 x1 w1 ls H locs hk1 hl hM kk
      obtain rfl : i1 = 6 := by omega
      refine lv_iload_n hx hb d_M_voteAll_4 rfl (lv_at hl 0 rfl) ?_
      refine lv_bipush (v := 6) hx hb d_M_voteAll_5 (by decide) ?_
      refine lv_icmp_ge (tgt := 42) hx hb d_M_voteAll_7 rfl (fun _ => ?_) (fun h => absurd (by decide) h)
      exact kk ls H locs hl hM
    | succ k1 ih =>
      intro i1 x1 w1 ls H locs hk1 hl hM kk
      refine lv_iload_n hx hb d_M_voteAll_4 rfl (lv_at hl 0 rfl) ?_
      refine lv_bipush (v := 6) hx hb d_M_voteAll_5 (by decide) ?_
      refine lv_icmp_ge (tgt := 42) hx hb d_M_voteAll_7 rfl (fun h => absurd h (nI_ge (a := i1) (b := 6) (by omega) (by first | decide | omega))) (fun _ => ?_)
      refine lv_aload_n hx hb d_M_voteAll_10 rfl (lv_at hl 2 rfl) ?_
      refine gf_M_11 hF hM (by omega) d_M_voteAll_11 ?_
      refine lv_iload_n hx hb d_M_voteAll_14 rfl (lv_at hl 0 rfl) ?_
      refine ga_sens (k := i1) hF hM (by omega) rfl (by omega) d_M_voteAll_15 ?_
      refine lv_iload_n hx hb d_M_voteAll_16 rfl (lv_at hl 3 rfl) ?_
      refine lv_iconst (v := 3) hx hb d_M_voteAll_17 (by decide) ?_
      refine lv_iload_n hx hb d_M_voteAll_18 rfl (lv_at hl 0 rfl) ?_
      refine lv_imul hx hb d_M_voteAll_19 ?_
      refine lv_ishr hx hb d_M_voteAll_20 ?_
      refine lv_bipush (v := 7) hx hb d_M_voteAll_21 (by decide) ?_
      refine lv_iand hx hb d_M_voteAll_23 ?_
      refine gm_Vi (As := [.int ((ch >>> (((3 : Int32) * (nI i1)) &&& 31)) &&& (7 : Int32))]) (rest := []) hF hM (c_S_vote (u := w1) (i := (6 * m + i1)) (ch := ((ch >>> (((3 : Int32) * (nI i1)) &&& 31)) &&& (7 : Int32))) (by omega)) (gk_M_67 hts ⟨by decide, by decide⟩) (gv_S hF hM (by omega) rfl) rfl hl.1 rfl (Nat.le_of_ble_eq_true rfl) ⟨Nat.zero_le _, Nat.zero_le _⟩ d_M_voteAll_24 (fun H locs hM => ?_)
      have J3 : ∀ (ls : Array Slot) (H : Heap) (locs : List Loc), lv_has ls 4 [(0, .ref (a (3 + m))), (1, .int ch), (2, .int (if (v_S_vote w1 (6 * m + i1) ((ch >>> (((3 : Int32) * (nI i1)) &&& 31)) &&& (7 : Int32))) = true then (x1 ||| ((1 : Int32) <<< ((nI i1) &&& 31))) else x1)), (3, .int (nI i1))] → gm_M D A s (gm_W dk a) (s_S_vote w1 (6 * m + i1) ((ch >>> (((3 : Int32) * (nI i1)) &&& 31)) &&& (7 : Int32))) H locs → W p l e rm_M_voteAll s mm args below meth c H locs 0 0 Q (F0 mm 36 ls []) := by
        intro ls H locs hl hM
        refine lv_iinc (k := 3) (v := (nI (i1 + 1))) (lv' := [(3, .int (nI (i1 + 1))), (0, .ref (a (3 + m))), (1, .int ch), (2, .int (if (v_S_vote w1 (6 * m + i1) ((ch >>> (((3 : Int32) * (nI i1)) &&& 31)) &&& (7 : Int32))) = true then (x1 ||| ((1 : Int32) <<< ((nI i1) &&& 31))) else x1))]) hx hb d_M_voteAll_36 hl rfl (nI_1 _) (by decide) rfl (fun ls hl => ?_)
        refine lv_goto (tgt := 4) hx hb d_M_voteAll_39 rfl ?_
        have hK := kk
        simp only [lp_M_voteAll] at hK
        exact ih (i1 + 1) (if (v_S_vote w1 (6 * m + i1) ((ch >>> (((3 : Int32) * (nI i1)) &&& 31)) &&& (7 : Int32))) = true then (x1 ||| ((1 : Int32) <<< ((nI i1) &&& 31))) else x1) (s_S_vote w1 (6 * m + i1) ((ch >>> (((3 : Int32) * (nI i1)) &&& 31)) &&& (7 : Int32))) ls H locs (by omega) (lv_sub hl [0, 3, 1, 2] rfl) hM hK
      refine gm_ifz (b := (v_S_vote w1 (6 * m + i1) ((ch >>> (((3 : Int32) * (nI i1)) &&& 31)) &&& (7 : Int32)))) (tgt := 36) hx hb d_M_voteAll_27 rfl (fun h2 => ?_) (fun h2 => ?_)
      · have hJ := J3
        try simp only [if_neg (gm_nf h2)] at hJ
        exact hJ ls H locs (lv_sub hl [2, 3, 1, 0] rfl) hM
      · refine lv_iload_n hx hb d_M_voteAll_30 rfl (lv_at hl 1 rfl) ?_
        refine lv_iconst (v := 1) hx hb d_M_voteAll_31 (by decide) ?_
        refine lv_iload_n hx hb d_M_voteAll_32 rfl (lv_at hl 0 rfl) ?_
        refine lv_ishl hx hb d_M_voteAll_33 ?_
        refine lv_ior hx hb d_M_voteAll_34 ?_
        refine lv_istore_n (lv' := [(2, .int (x1 ||| ((1 : Int32) <<< ((nI i1) &&& 31)))), (3, .int (nI i1)), (0, .ref (a (3 + m))), (1, .int ch)]) hx hb d_M_voteAll_35 rfl hl (by decide) rfl (fun ls hl => ?_)
        have hJ := J3
        try simp only [if_pos h2] at hJ
        exact hJ ls H locs (lv_sub hl [2, 3, 0, 1] rfl) hM
  refine L1 6 0 (0 : Int32) u ls H locs (by omega) hl hM (fun ls H locs hl hM => ?_)
  refine lv_iload_n hx hb d_M_voteAll_42 rfl (lv_at hl 1 rfl) ?_
  have hq := hQ H locs 43 ls
  simp only [v_M_voteAll, s_M_voteAll] at hq
  exact hq hM d_M_voteAll_43
theorem d_M_conditionHolds_0 : decode b_M_conditionHolds 0 = .ok (.iload_n 1, 1) := by decide +kernel
theorem d_M_conditionHolds_1 : decode b_M_conditionHolds 1 = .ok (.tableswitch 241 6 15 #[55, 77, 99, 122, 145, 168, 191, 213, 241, 235], 55) := by decide +kernel
theorem d_M_conditionHolds_56 : decode b_M_conditionHolds 56 = .ok (.aload_n 0, 1) := by decide +kernel
theorem d_M_conditionHolds_57 : decode b_M_conditionHolds 57 = .ok (.iconst 2, 1) := by decide +kernel
theorem d_M_conditionHolds_58 : decode b_M_conditionHolds 58 = .ok (.invokevirtual 99, 3) := by decide +kernel
theorem d_M_conditionHolds_61 : decode b_M_conditionHolds 61 = .ok (.ifCond .eq 15, 3) := by decide +kernel
theorem d_M_conditionHolds_64 : decode b_M_conditionHolds 64 = .ok (.aload_n 0, 1) := by decide +kernel
theorem d_M_conditionHolds_65 : decode b_M_conditionHolds 65 = .ok (.iconst 2, 1) := by decide +kernel
theorem d_M_conditionHolds_66 : decode b_M_conditionHolds 66 = .ok (.invokevirtual 78, 3) := by decide +kernel
theorem d_M_conditionHolds_69 : decode b_M_conditionHolds 69 = .ok (.ifCond .ne 7, 3) := by decide +kernel
theorem d_M_conditionHolds_72 : decode b_M_conditionHolds 72 = .ok (.iconst 1, 1) := by decide +kernel
theorem d_M_conditionHolds_73 : decode b_M_conditionHolds 73 = .ok (.goto 4, 3) := by decide +kernel
theorem d_M_conditionHolds_76 : decode b_M_conditionHolds 76 = .ok (.iconst 0, 1) := by decide +kernel
theorem d_M_conditionHolds_77 : decode b_M_conditionHolds 77 = .ok (.ireturn, 1) := by decide +kernel
theorem d_M_conditionHolds_78 : decode b_M_conditionHolds 78 = .ok (.aload_n 0, 1) := by decide +kernel
theorem d_M_conditionHolds_79 : decode b_M_conditionHolds 79 = .ok (.iconst 4, 1) := by decide +kernel
theorem d_M_conditionHolds_80 : decode b_M_conditionHolds 80 = .ok (.invokevirtual 99, 3) := by decide +kernel
theorem d_M_conditionHolds_83 : decode b_M_conditionHolds 83 = .ok (.ifCond .eq 15, 3) := by decide +kernel
theorem d_M_conditionHolds_86 : decode b_M_conditionHolds 86 = .ok (.aload_n 0, 1) := by decide +kernel
theorem d_M_conditionHolds_87 : decode b_M_conditionHolds 87 = .ok (.iconst 3, 1) := by decide +kernel
theorem d_M_conditionHolds_88 : decode b_M_conditionHolds 88 = .ok (.invokevirtual 78, 3) := by decide +kernel
theorem d_M_conditionHolds_91 : decode b_M_conditionHolds 91 = .ok (.ifCond .ne 7, 3) := by decide +kernel
theorem d_M_conditionHolds_94 : decode b_M_conditionHolds 94 = .ok (.iconst 1, 1) := by decide +kernel
theorem d_M_conditionHolds_95 : decode b_M_conditionHolds 95 = .ok (.goto 4, 3) := by decide +kernel
theorem d_M_conditionHolds_98 : decode b_M_conditionHolds 98 = .ok (.iconst 0, 1) := by decide +kernel
theorem d_M_conditionHolds_99 : decode b_M_conditionHolds 99 = .ok (.ireturn, 1) := by decide +kernel
theorem d_M_conditionHolds_100 : decode b_M_conditionHolds 100 = .ok (.aload_n 0, 1) := by decide +kernel
theorem d_M_conditionHolds_101 : decode b_M_conditionHolds 101 = .ok (.bipush 8, 2) := by decide +kernel
theorem d_M_conditionHolds_103 : decode b_M_conditionHolds 103 = .ok (.invokevirtual 99, 3) := by decide +kernel
theorem d_M_conditionHolds_106 : decode b_M_conditionHolds 106 = .ok (.ifCond .eq 15, 3) := by decide +kernel
theorem d_M_conditionHolds_109 : decode b_M_conditionHolds 109 = .ok (.aload_n 0, 1) := by decide +kernel
theorem d_M_conditionHolds_110 : decode b_M_conditionHolds 110 = .ok (.iconst 1, 1) := by decide +kernel
theorem d_M_conditionHolds_111 : decode b_M_conditionHolds 111 = .ok (.invokevirtual 78, 3) := by decide +kernel
theorem d_M_conditionHolds_114 : decode b_M_conditionHolds 114 = .ok (.ifCond .eq 7, 3) := by decide +kernel
theorem d_M_conditionHolds_117 : decode b_M_conditionHolds 117 = .ok (.iconst 1, 1) := by decide +kernel
theorem d_M_conditionHolds_118 : decode b_M_conditionHolds 118 = .ok (.goto 4, 3) := by decide +kernel
theorem d_M_conditionHolds_121 : decode b_M_conditionHolds 121 = .ok (.iconst 0, 1) := by decide +kernel
theorem d_M_conditionHolds_122 : decode b_M_conditionHolds 122 = .ok (.ireturn, 1) := by decide +kernel
theorem d_M_conditionHolds_123 : decode b_M_conditionHolds 123 = .ok (.aload_n 0, 1) := by decide +kernel
theorem d_M_conditionHolds_124 : decode b_M_conditionHolds 124 = .ok (.bipush 8, 2) := by decide +kernel
theorem d_M_conditionHolds_126 : decode b_M_conditionHolds 126 = .ok (.invokevirtual 99, 3) := by decide +kernel
theorem d_M_conditionHolds_129 : decode b_M_conditionHolds 129 = .ok (.ifCond .eq 15, 3) := by decide +kernel
theorem d_M_conditionHolds_132 : decode b_M_conditionHolds 132 = .ok (.aload_n 0, 1) := by decide +kernel
theorem d_M_conditionHolds_133 : decode b_M_conditionHolds 133 = .ok (.iconst 0, 1) := by decide +kernel
theorem d_M_conditionHolds_134 : decode b_M_conditionHolds 134 = .ok (.invokevirtual 78, 3) := by decide +kernel
theorem d_M_conditionHolds_137 : decode b_M_conditionHolds 137 = .ok (.ifCond .ne 7, 3) := by decide +kernel
theorem d_M_conditionHolds_140 : decode b_M_conditionHolds 140 = .ok (.iconst 1, 1) := by decide +kernel
theorem d_M_conditionHolds_141 : decode b_M_conditionHolds 141 = .ok (.goto 4, 3) := by decide +kernel
theorem d_M_conditionHolds_144 : decode b_M_conditionHolds 144 = .ok (.iconst 0, 1) := by decide +kernel
theorem d_M_conditionHolds_145 : decode b_M_conditionHolds 145 = .ok (.ireturn, 1) := by decide +kernel
theorem d_M_conditionHolds_146 : decode b_M_conditionHolds 146 = .ok (.aload_n 0, 1) := by decide +kernel
theorem d_M_conditionHolds_147 : decode b_M_conditionHolds 147 = .ok (.bipush 16, 2) := by decide +kernel
theorem d_M_conditionHolds_149 : decode b_M_conditionHolds 149 = .ok (.invokevirtual 99, 3) := by decide +kernel
theorem d_M_conditionHolds_152 : decode b_M_conditionHolds 152 = .ok (.ifCond .eq 15, 3) := by decide +kernel
theorem d_M_conditionHolds_155 : decode b_M_conditionHolds 155 = .ok (.aload_n 0, 1) := by decide +kernel
theorem d_M_conditionHolds_156 : decode b_M_conditionHolds 156 = .ok (.iconst 0, 1) := by decide +kernel
theorem d_M_conditionHolds_157 : decode b_M_conditionHolds 157 = .ok (.invokevirtual 78, 3) := by decide +kernel
theorem d_M_conditionHolds_160 : decode b_M_conditionHolds 160 = .ok (.ifCond .eq 7, 3) := by decide +kernel
theorem d_M_conditionHolds_163 : decode b_M_conditionHolds 163 = .ok (.iconst 1, 1) := by decide +kernel
theorem d_M_conditionHolds_164 : decode b_M_conditionHolds 164 = .ok (.goto 4, 3) := by decide +kernel
theorem d_M_conditionHolds_167 : decode b_M_conditionHolds 167 = .ok (.iconst 0, 1) := by decide +kernel
theorem d_M_conditionHolds_168 : decode b_M_conditionHolds 168 = .ok (.ireturn, 1) := by decide +kernel
theorem d_M_conditionHolds_169 : decode b_M_conditionHolds 169 = .ok (.aload_n 0, 1) := by decide +kernel
theorem d_M_conditionHolds_170 : decode b_M_conditionHolds 170 = .ok (.bipush 16, 2) := by decide +kernel
theorem d_M_conditionHolds_172 : decode b_M_conditionHolds 172 = .ok (.invokevirtual 99, 3) := by decide +kernel
theorem d_M_conditionHolds_175 : decode b_M_conditionHolds 175 = .ok (.ifCond .eq 15, 3) := by decide +kernel
theorem d_M_conditionHolds_178 : decode b_M_conditionHolds 178 = .ok (.aload_n 0, 1) := by decide +kernel
theorem d_M_conditionHolds_179 : decode b_M_conditionHolds 179 = .ok (.iconst 1, 1) := by decide +kernel
theorem d_M_conditionHolds_180 : decode b_M_conditionHolds 180 = .ok (.invokevirtual 78, 3) := by decide +kernel
theorem d_M_conditionHolds_183 : decode b_M_conditionHolds 183 = .ok (.ifCond .ne 7, 3) := by decide +kernel
theorem d_M_conditionHolds_186 : decode b_M_conditionHolds 186 = .ok (.iconst 1, 1) := by decide +kernel
theorem d_M_conditionHolds_187 : decode b_M_conditionHolds 187 = .ok (.goto 4, 3) := by decide +kernel
theorem d_M_conditionHolds_190 : decode b_M_conditionHolds 190 = .ok (.iconst 0, 1) := by decide +kernel
theorem d_M_conditionHolds_191 : decode b_M_conditionHolds 191 = .ok (.ireturn, 1) := by decide +kernel
theorem d_M_conditionHolds_192 : decode b_M_conditionHolds 192 = .ok (.aload_n 0, 1) := by decide +kernel
theorem d_M_conditionHolds_193 : decode b_M_conditionHolds 193 = .ok (.iconst 1, 1) := by decide +kernel
theorem d_M_conditionHolds_194 : decode b_M_conditionHolds 194 = .ok (.invokevirtual 99, 3) := by decide +kernel
theorem d_M_conditionHolds_197 : decode b_M_conditionHolds 197 = .ok (.ifCond .eq 15, 3) := by decide +kernel
theorem d_M_conditionHolds_200 : decode b_M_conditionHolds 200 = .ok (.aload_n 0, 1) := by decide +kernel
theorem d_M_conditionHolds_201 : decode b_M_conditionHolds 201 = .ok (.iconst 4, 1) := by decide +kernel
theorem d_M_conditionHolds_202 : decode b_M_conditionHolds 202 = .ok (.invokevirtual 78, 3) := by decide +kernel
theorem d_M_conditionHolds_205 : decode b_M_conditionHolds 205 = .ok (.ifCond .ne 7, 3) := by decide +kernel
theorem d_M_conditionHolds_208 : decode b_M_conditionHolds 208 = .ok (.iconst 1, 1) := by decide +kernel
theorem d_M_conditionHolds_209 : decode b_M_conditionHolds 209 = .ok (.goto 4, 3) := by decide +kernel
theorem d_M_conditionHolds_212 : decode b_M_conditionHolds 212 = .ok (.iconst 0, 1) := by decide +kernel
theorem d_M_conditionHolds_213 : decode b_M_conditionHolds 213 = .ok (.ireturn, 1) := by decide +kernel
theorem d_M_conditionHolds_214 : decode b_M_conditionHolds 214 = .ok (.aload_n 0, 1) := by decide +kernel
theorem d_M_conditionHolds_215 : decode b_M_conditionHolds 215 = .ok (.iconst 1, 1) := by decide +kernel
theorem d_M_conditionHolds_216 : decode b_M_conditionHolds 216 = .ok (.invokevirtual 99, 3) := by decide +kernel
theorem d_M_conditionHolds_219 : decode b_M_conditionHolds 219 = .ok (.ifCond .ne 15, 3) := by decide +kernel
theorem d_M_conditionHolds_222 : decode b_M_conditionHolds 222 = .ok (.aload_n 0, 1) := by decide +kernel
theorem d_M_conditionHolds_223 : decode b_M_conditionHolds 223 = .ok (.iconst 4, 1) := by decide +kernel
theorem d_M_conditionHolds_224 : decode b_M_conditionHolds 224 = .ok (.invokevirtual 78, 3) := by decide +kernel
theorem d_M_conditionHolds_227 : decode b_M_conditionHolds 227 = .ok (.ifCond .eq 7, 3) := by decide +kernel
theorem d_M_conditionHolds_230 : decode b_M_conditionHolds 230 = .ok (.iconst 1, 1) := by decide +kernel
theorem d_M_conditionHolds_231 : decode b_M_conditionHolds 231 = .ok (.goto 4, 3) := by decide +kernel
theorem d_M_conditionHolds_234 : decode b_M_conditionHolds 234 = .ok (.iconst 0, 1) := by decide +kernel
theorem d_M_conditionHolds_235 : decode b_M_conditionHolds 235 = .ok (.ireturn, 1) := by decide +kernel
theorem d_M_conditionHolds_236 : decode b_M_conditionHolds 236 = .ok (.aload_n 0, 1) := by decide +kernel
theorem d_M_conditionHolds_237 : decode b_M_conditionHolds 237 = .ok (.iconst 5, 1) := by decide +kernel
theorem d_M_conditionHolds_238 : decode b_M_conditionHolds 238 = .ok (.invokevirtual 78, 3) := by decide +kernel
theorem d_M_conditionHolds_241 : decode b_M_conditionHolds 241 = .ok (.ireturn, 1) := by decide +kernel
theorem d_M_conditionHolds_242 : decode b_M_conditionHolds 242 = .ok (.iconst 0, 1) := by decide +kernel
theorem d_M_conditionHolds_243 : decode b_M_conditionHolds 243 = .ok (.ireturn, 1) := by decide +kernel
def v_M_conditionHolds (u : gm_St) (m : Nat) (kn : Nat) : Bool := (match kn with | 6 => (if (v_M_isSwitchedOn u m (2 : Int32)) = true then (if (v_M_isOn u m 2) = true then false else true) else false) | 7 => (if (v_M_isSwitchedOn u m (4 : Int32)) = true then (if (v_M_isOn u m 3) = true then false else true) else false) | 8 => (if (v_M_isSwitchedOn u m (8 : Int32)) = true then (if (v_M_isOn u m 1) = true then true else false) else false) | 9 => (if (v_M_isSwitchedOn u m (8 : Int32)) = true then (if (v_M_isOn u m 0) = true then false else true) else false) | 10 => (if (v_M_isSwitchedOn u m (16 : Int32)) = true then (if (v_M_isOn u m 0) = true then true else false) else false) | 11 => (if (v_M_isSwitchedOn u m (16 : Int32)) = true then (if (v_M_isOn u m 1) = true then false else true) else false) | 12 => (if (v_M_isSwitchedOn u m (1 : Int32)) = true then (if (v_M_isOn u m 4) = true then false else true) else false) | 13 => (if (v_M_isSwitchedOn u m (1 : Int32)) = true then false else (if (v_M_isOn u m 4) = true then true else false)) | 15 => (v_M_isOn u m 5) | _ => false)
set_option maxRecDepth 100000 in
set_option maxHeartbeats 4000000 in
theorem c_M_conditionHolds {l : Launch} {D : va_G} {dk : Nat → ClassId} {a : Nat → Nat} {A : Nat → Prop} {lt : Nat} {u : gm_St} {m : Nat} {kn : Nat} (hm : m < 2) (h_kn : 6 ≤ kn ∧ kn < 16) : gm_I l D (gm_ty dk) (gm_W dk a) A lt y_M_conditionHolds b_M_conditionHolds 2 (some .boolean) rm_M_conditionHolds [.ref (a (3 + m)), .int (nI kn)] u (gm_b (v_M_conditionHolds u m kn)) u := by
  refine gm_enterZ (by decide) (Nat.le_of_ble_eq_true rfl) ?_
  intro p e s mm args below meth c ls Q H locs hF hM hl hQ
  have hx := hF.1
  have hb := hF.2.1
  have hml := hF.2.2.1
  have hown := hF.2.2.2.1
  have hts := hF.2.2.2.2.1
  have hl : lv_has ls 2 [(0, .ref (a (3 + m))), (1, .int (nI kn))] := hl
  refine lv_iload_n hx hb d_M_conditionHolds_0 rfl (lv_at hl 1 rfl) ?_
  rcases (by omega : kn = 6 ∨ kn = 7 ∨ kn = 8 ∨ kn = 9 ∨ kn = 10 ∨ kn = 11 ∨ kn = 12 ∨ kn = 13 ∨ kn = 14 ∨ kn = 15) with rfl | rfl | rfl | rfl | rfl | rfl | rfl | rfl | rfl | rfl
  · refine lv_tableIn (off := 55) (tgt := 56) hx hb d_M_conditionHolds_1 (by decide) (by decide) (by decide +kernel) rfl ?_
    refine lv_aload_n hx hb d_M_conditionHolds_56 rfl (lv_at hl 0 rfl) ?_
    refine lv_iconst (v := 2) hx hb d_M_conditionHolds_57 (by decide) ?_
    refine gm_Vi (As := [.int (2 : Int32)]) (rest := []) hF hM (c_M_isSwitchedOn (u := u) (m := m) (vn := (2 : Int32)) (by omega)) (gk_M_99 hts ⟨by decide, by decide⟩) (gv_M hF hM (by omega) rfl) rfl hl.1 rfl (Nat.le_of_ble_eq_true rfl) ⟨Nat.zero_le _, Nat.zero_le _⟩ d_M_conditionHolds_58 (fun H locs hM => ?_)
    have J2 : ∀ (ls : Array Slot) (H : Heap) (locs : List Loc), lv_has ls 2 [(0, .ref (a (3 + m))), (1, .int (nI 6))] → gm_M D A s (gm_W dk a) u H locs → W p l e rm_M_conditionHolds s mm args below meth c H locs 0 0 Q (F0 mm 77 ls [.int (gm_b (if (v_M_isSwitchedOn u m (2 : Int32)) = true then (if (v_M_isOn u m 2) = true then false else true) else false))]) := by
      intro ls H locs hl hM
      have hq := hQ H locs 77 ls
      simp only [v_M_conditionHolds] at hq
      exact hq hM d_M_conditionHolds_77
    refine gm_ifz (b := (v_M_isSwitchedOn u m (2 : Int32))) (tgt := 76) hx hb d_M_conditionHolds_61 rfl (fun h1 => ?_) (fun h1 => ?_)
    · refine lv_iconst (v := 0) hx hb d_M_conditionHolds_76 (by decide) ?_
      have hJ := J2
      try simp only [if_neg (gm_nf h1)] at hJ
      exact hJ ls H locs hl hM
    · refine lv_aload_n hx hb d_M_conditionHolds_64 rfl (lv_at hl 0 rfl) ?_
      refine lv_iconst (v := 2) hx hb d_M_conditionHolds_65 (by decide) ?_
      refine gm_Vi (As := [.int (nI 2)]) (rest := []) hF hM (c_M_isOn (u := u) (m := m) (sn := 2) (by omega) (by omega)) (gk_M_78 hts ⟨by decide, by decide⟩) (gv_M hF hM (by omega) rfl) rfl hl.1 rfl (Nat.le_of_ble_eq_true rfl) ⟨Nat.zero_le _, Nat.zero_le _⟩ d_M_conditionHolds_66 (fun H locs hM => ?_)
      refine gm_ifn (b := (v_M_isOn u m 2)) (tgt := 76) hx hb d_M_conditionHolds_69 rfl (fun h3 => ?_) (fun h3 => ?_)
      · refine lv_iconst (v := 0) hx hb d_M_conditionHolds_76 (by decide) ?_
        have hJ := J2
        try simp only [if_pos h1, if_pos h3] at hJ
        exact hJ ls H locs hl hM
      · refine lv_iconst (v := 1) hx hb d_M_conditionHolds_72 (by decide) ?_
        refine lv_goto (tgt := 77) hx hb d_M_conditionHolds_73 rfl ?_
        have hJ := J2
        try simp only [if_pos h1, if_neg (gm_nf h3)] at hJ
        exact hJ ls H locs hl hM
  · refine lv_tableIn (off := 77) (tgt := 78) hx hb d_M_conditionHolds_1 (by decide) (by decide) (by decide +kernel) rfl ?_
    refine lv_aload_n hx hb d_M_conditionHolds_78 rfl (lv_at hl 0 rfl) ?_
    refine lv_iconst (v := 4) hx hb d_M_conditionHolds_79 (by decide) ?_
    refine gm_Vi (As := [.int (4 : Int32)]) (rest := []) hF hM (c_M_isSwitchedOn (u := u) (m := m) (vn := (4 : Int32)) (by omega)) (gk_M_99 hts ⟨by decide, by decide⟩) (gv_M hF hM (by omega) rfl) rfl hl.1 rfl (Nat.le_of_ble_eq_true rfl) ⟨Nat.zero_le _, Nat.zero_le _⟩ d_M_conditionHolds_80 (fun H locs hM => ?_)
    have J5 : ∀ (ls : Array Slot) (H : Heap) (locs : List Loc), lv_has ls 2 [(0, .ref (a (3 + m))), (1, .int (nI 7))] → gm_M D A s (gm_W dk a) u H locs → W p l e rm_M_conditionHolds s mm args below meth c H locs 0 0 Q (F0 mm 99 ls [.int (gm_b (if (v_M_isSwitchedOn u m (4 : Int32)) = true then (if (v_M_isOn u m 3) = true then false else true) else false))]) := by
      intro ls H locs hl hM
      have hq := hQ H locs 99 ls
      simp only [v_M_conditionHolds] at hq
      exact hq hM d_M_conditionHolds_99
    refine gm_ifz (b := (v_M_isSwitchedOn u m (4 : Int32))) (tgt := 98) hx hb d_M_conditionHolds_83 rfl (fun h4 => ?_) (fun h4 => ?_)
    · refine lv_iconst (v := 0) hx hb d_M_conditionHolds_98 (by decide) ?_
      have hJ := J5
      try simp only [if_neg (gm_nf h4)] at hJ
      exact hJ ls H locs hl hM
    · refine lv_aload_n hx hb d_M_conditionHolds_86 rfl (lv_at hl 0 rfl) ?_
      refine lv_iconst (v := 3) hx hb d_M_conditionHolds_87 (by decide) ?_
      refine gm_Vi (As := [.int (nI 3)]) (rest := []) hF hM (c_M_isOn (u := u) (m := m) (sn := 3) (by omega) (by omega)) (gk_M_78 hts ⟨by decide, by decide⟩) (gv_M hF hM (by omega) rfl) rfl hl.1 rfl (Nat.le_of_ble_eq_true rfl) ⟨Nat.zero_le _, Nat.zero_le _⟩ d_M_conditionHolds_88 (fun H locs hM => ?_)
      refine gm_ifn (b := (v_M_isOn u m 3)) (tgt := 98) hx hb d_M_conditionHolds_91 rfl (fun h6 => ?_) (fun h6 => ?_)
      · refine lv_iconst (v := 0) hx hb d_M_conditionHolds_98 (by decide) ?_
        have hJ := J5
        try simp only [if_pos h4, if_pos h6] at hJ
        exact hJ ls H locs hl hM
      · refine lv_iconst (v := 1) hx hb d_M_conditionHolds_94 (by decide) ?_
        refine lv_goto (tgt := 99) hx hb d_M_conditionHolds_95 rfl ?_
        have hJ := J5
        try simp only [if_pos h4, if_neg (gm_nf h6)] at hJ
        exact hJ ls H locs hl hM
  · refine lv_tableIn (off := 99) (tgt := 100) hx hb d_M_conditionHolds_1 (by decide) (by decide) (by decide +kernel) rfl ?_
    refine lv_aload_n hx hb d_M_conditionHolds_100 rfl (lv_at hl 0 rfl) ?_
    refine lv_bipush (v := 8) hx hb d_M_conditionHolds_101 (by decide) ?_
    refine gm_Vi (As := [.int (8 : Int32)]) (rest := []) hF hM (c_M_isSwitchedOn (u := u) (m := m) (vn := (8 : Int32)) (by omega)) (gk_M_99 hts ⟨by decide, by decide⟩) (gv_M hF hM (by omega) rfl) rfl hl.1 rfl (Nat.le_of_ble_eq_true rfl) ⟨Nat.zero_le _, Nat.zero_le _⟩ d_M_conditionHolds_103 (fun H locs hM => ?_)
    have J8 : ∀ (ls : Array Slot) (H : Heap) (locs : List Loc), lv_has ls 2 [(0, .ref (a (3 + m))), (1, .int (nI 8))] → gm_M D A s (gm_W dk a) u H locs → W p l e rm_M_conditionHolds s mm args below meth c H locs 0 0 Q (F0 mm 122 ls [.int (gm_b (if (v_M_isSwitchedOn u m (8 : Int32)) = true then (if (v_M_isOn u m 1) = true then true else false) else false))]) := by
      intro ls H locs hl hM
      have hq := hQ H locs 122 ls
      simp only [v_M_conditionHolds] at hq
      exact hq hM d_M_conditionHolds_122
    refine gm_ifz (b := (v_M_isSwitchedOn u m (8 : Int32))) (tgt := 121) hx hb d_M_conditionHolds_106 rfl (fun h7 => ?_) (fun h7 => ?_)
    · refine lv_iconst (v := 0) hx hb d_M_conditionHolds_121 (by decide) ?_
      have hJ := J8
      try simp only [if_neg (gm_nf h7)] at hJ
      exact hJ ls H locs hl hM
    · refine lv_aload_n hx hb d_M_conditionHolds_109 rfl (lv_at hl 0 rfl) ?_
      refine lv_iconst (v := 1) hx hb d_M_conditionHolds_110 (by decide) ?_
      refine gm_Vi (As := [.int (nI 1)]) (rest := []) hF hM (c_M_isOn (u := u) (m := m) (sn := 1) (by omega) (by omega)) (gk_M_78 hts ⟨by decide, by decide⟩) (gv_M hF hM (by omega) rfl) rfl hl.1 rfl (Nat.le_of_ble_eq_true rfl) ⟨Nat.zero_le _, Nat.zero_le _⟩ d_M_conditionHolds_111 (fun H locs hM => ?_)
      refine gm_ifz (b := (v_M_isOn u m 1)) (tgt := 121) hx hb d_M_conditionHolds_114 rfl (fun h9 => ?_) (fun h9 => ?_)
      · refine lv_iconst (v := 0) hx hb d_M_conditionHolds_121 (by decide) ?_
        have hJ := J8
        try simp only [if_pos h7, if_neg (gm_nf h9)] at hJ
        exact hJ ls H locs hl hM
      · refine lv_iconst (v := 1) hx hb d_M_conditionHolds_117 (by decide) ?_
        refine lv_goto (tgt := 122) hx hb d_M_conditionHolds_118 rfl ?_
        have hJ := J8
        try simp only [if_pos h7, if_pos h9] at hJ
        exact hJ ls H locs hl hM
  · refine lv_tableIn (off := 122) (tgt := 123) hx hb d_M_conditionHolds_1 (by decide) (by decide) (by decide +kernel) rfl ?_
    refine lv_aload_n hx hb d_M_conditionHolds_123 rfl (lv_at hl 0 rfl) ?_
    refine lv_bipush (v := 8) hx hb d_M_conditionHolds_124 (by decide) ?_
    refine gm_Vi (As := [.int (8 : Int32)]) (rest := []) hF hM (c_M_isSwitchedOn (u := u) (m := m) (vn := (8 : Int32)) (by omega)) (gk_M_99 hts ⟨by decide, by decide⟩) (gv_M hF hM (by omega) rfl) rfl hl.1 rfl (Nat.le_of_ble_eq_true rfl) ⟨Nat.zero_le _, Nat.zero_le _⟩ d_M_conditionHolds_126 (fun H locs hM => ?_)
    have J11 : ∀ (ls : Array Slot) (H : Heap) (locs : List Loc), lv_has ls 2 [(0, .ref (a (3 + m))), (1, .int (nI 9))] → gm_M D A s (gm_W dk a) u H locs → W p l e rm_M_conditionHolds s mm args below meth c H locs 0 0 Q (F0 mm 145 ls [.int (gm_b (if (v_M_isSwitchedOn u m (8 : Int32)) = true then (if (v_M_isOn u m 0) = true then false else true) else false))]) := by
      intro ls H locs hl hM
      have hq := hQ H locs 145 ls
      simp only [v_M_conditionHolds] at hq
      exact hq hM d_M_conditionHolds_145
    refine gm_ifz (b := (v_M_isSwitchedOn u m (8 : Int32))) (tgt := 144) hx hb d_M_conditionHolds_129 rfl (fun h10 => ?_) (fun h10 => ?_)
    · refine lv_iconst (v := 0) hx hb d_M_conditionHolds_144 (by decide) ?_
      have hJ := J11
      try simp only [if_neg (gm_nf h10)] at hJ
      exact hJ ls H locs hl hM
    · refine lv_aload_n hx hb d_M_conditionHolds_132 rfl (lv_at hl 0 rfl) ?_
      refine lv_iconst (v := 0) hx hb d_M_conditionHolds_133 (by decide) ?_
      refine gm_Vi (As := [.int (nI 0)]) (rest := []) hF hM (c_M_isOn (u := u) (m := m) (sn := 0) (by omega) (by omega)) (gk_M_78 hts ⟨by decide, by decide⟩) (gv_M hF hM (by omega) rfl) rfl hl.1 rfl (Nat.le_of_ble_eq_true rfl) ⟨Nat.zero_le _, Nat.zero_le _⟩ d_M_conditionHolds_134 (fun H locs hM => ?_)
      refine gm_ifn (b := (v_M_isOn u m 0)) (tgt := 144) hx hb d_M_conditionHolds_137 rfl (fun h12 => ?_) (fun h12 => ?_)
      · refine lv_iconst (v := 0) hx hb d_M_conditionHolds_144 (by decide) ?_
        have hJ := J11
        try simp only [if_pos h10, if_pos h12] at hJ
        exact hJ ls H locs hl hM
      · refine lv_iconst (v := 1) hx hb d_M_conditionHolds_140 (by decide) ?_
        refine lv_goto (tgt := 145) hx hb d_M_conditionHolds_141 rfl ?_
        have hJ := J11
        try simp only [if_pos h10, if_neg (gm_nf h12)] at hJ
        exact hJ ls H locs hl hM
  · refine lv_tableIn (off := 145) (tgt := 146) hx hb d_M_conditionHolds_1 (by decide) (by decide) (by decide +kernel) rfl ?_
    refine lv_aload_n hx hb d_M_conditionHolds_146 rfl (lv_at hl 0 rfl) ?_
    refine lv_bipush (v := 16) hx hb d_M_conditionHolds_147 (by decide) ?_
    refine gm_Vi (As := [.int (16 : Int32)]) (rest := []) hF hM (c_M_isSwitchedOn (u := u) (m := m) (vn := (16 : Int32)) (by omega)) (gk_M_99 hts ⟨by decide, by decide⟩) (gv_M hF hM (by omega) rfl) rfl hl.1 rfl (Nat.le_of_ble_eq_true rfl) ⟨Nat.zero_le _, Nat.zero_le _⟩ d_M_conditionHolds_149 (fun H locs hM => ?_)
    have J14 : ∀ (ls : Array Slot) (H : Heap) (locs : List Loc), lv_has ls 2 [(0, .ref (a (3 + m))), (1, .int (nI 10))] → gm_M D A s (gm_W dk a) u H locs → W p l e rm_M_conditionHolds s mm args below meth c H locs 0 0 Q (F0 mm 168 ls [.int (gm_b (if (v_M_isSwitchedOn u m (16 : Int32)) = true then (if (v_M_isOn u m 0) = true then true else false) else false))]) := by
      intro ls H locs hl hM
      have hq := hQ H locs 168 ls
      simp only [v_M_conditionHolds] at hq
      exact hq hM d_M_conditionHolds_168
    refine gm_ifz (b := (v_M_isSwitchedOn u m (16 : Int32))) (tgt := 167) hx hb d_M_conditionHolds_152 rfl (fun h13 => ?_) (fun h13 => ?_)
    · refine lv_iconst (v := 0) hx hb d_M_conditionHolds_167 (by decide) ?_
      have hJ := J14
      try simp only [if_neg (gm_nf h13)] at hJ
      exact hJ ls H locs hl hM
    · refine lv_aload_n hx hb d_M_conditionHolds_155 rfl (lv_at hl 0 rfl) ?_
      refine lv_iconst (v := 0) hx hb d_M_conditionHolds_156 (by decide) ?_
      refine gm_Vi (As := [.int (nI 0)]) (rest := []) hF hM (c_M_isOn (u := u) (m := m) (sn := 0) (by omega) (by omega)) (gk_M_78 hts ⟨by decide, by decide⟩) (gv_M hF hM (by omega) rfl) rfl hl.1 rfl (Nat.le_of_ble_eq_true rfl) ⟨Nat.zero_le _, Nat.zero_le _⟩ d_M_conditionHolds_157 (fun H locs hM => ?_)
      refine gm_ifz (b := (v_M_isOn u m 0)) (tgt := 167) hx hb d_M_conditionHolds_160 rfl (fun h15 => ?_) (fun h15 => ?_)
      · refine lv_iconst (v := 0) hx hb d_M_conditionHolds_167 (by decide) ?_
        have hJ := J14
        try simp only [if_pos h13, if_neg (gm_nf h15)] at hJ
        exact hJ ls H locs hl hM
      · refine lv_iconst (v := 1) hx hb d_M_conditionHolds_163 (by decide) ?_
        refine lv_goto (tgt := 168) hx hb d_M_conditionHolds_164 rfl ?_
        have hJ := J14
        try simp only [if_pos h13, if_pos h15] at hJ
        exact hJ ls H locs hl hM
  · refine lv_tableIn (off := 168) (tgt := 169) hx hb d_M_conditionHolds_1 (by decide) (by decide) (by decide +kernel) rfl ?_
    refine lv_aload_n hx hb d_M_conditionHolds_169 rfl (lv_at hl 0 rfl) ?_
    refine lv_bipush (v := 16) hx hb d_M_conditionHolds_170 (by decide) ?_
    refine gm_Vi (As := [.int (16 : Int32)]) (rest := []) hF hM (c_M_isSwitchedOn (u := u) (m := m) (vn := (16 : Int32)) (by omega)) (gk_M_99 hts ⟨by decide, by decide⟩) (gv_M hF hM (by omega) rfl) rfl hl.1 rfl (Nat.le_of_ble_eq_true rfl) ⟨Nat.zero_le _, Nat.zero_le _⟩ d_M_conditionHolds_172 (fun H locs hM => ?_)
    have J17 : ∀ (ls : Array Slot) (H : Heap) (locs : List Loc), lv_has ls 2 [(0, .ref (a (3 + m))), (1, .int (nI 11))] → gm_M D A s (gm_W dk a) u H locs → W p l e rm_M_conditionHolds s mm args below meth c H locs 0 0 Q (F0 mm 191 ls [.int (gm_b (if (v_M_isSwitchedOn u m (16 : Int32)) = true then (if (v_M_isOn u m 1) = true then false else true) else false))]) := by
      intro ls H locs hl hM
      have hq := hQ H locs 191 ls
      simp only [v_M_conditionHolds] at hq
      exact hq hM d_M_conditionHolds_191
    refine gm_ifz (b := (v_M_isSwitchedOn u m (16 : Int32))) (tgt := 190) hx hb d_M_conditionHolds_175 rfl (fun h16 => ?_) (fun h16 => ?_)
    · refine lv_iconst (v := 0) hx hb d_M_conditionHolds_190 (by decide) ?_
      have hJ := J17
      try simp only [if_neg (gm_nf h16)] at hJ
      exact hJ ls H locs hl hM
    · refine lv_aload_n hx hb d_M_conditionHolds_178 rfl (lv_at hl 0 rfl) ?_
      refine lv_iconst (v := 1) hx hb d_M_conditionHolds_179 (by decide) ?_
      refine gm_Vi (As := [.int (nI 1)]) (rest := []) hF hM (c_M_isOn (u := u) (m := m) (sn := 1) (by omega) (by omega)) (gk_M_78 hts ⟨by decide, by decide⟩) (gv_M hF hM (by omega) rfl) rfl hl.1 rfl (Nat.le_of_ble_eq_true rfl) ⟨Nat.zero_le _, Nat.zero_le _⟩ d_M_conditionHolds_180 (fun H locs hM => ?_)
      refine gm_ifn (b := (v_M_isOn u m 1)) (tgt := 190) hx hb d_M_conditionHolds_183 rfl (fun h18 => ?_) (fun h18 => ?_)
      · refine lv_iconst (v := 0) hx hb d_M_conditionHolds_190 (by decide) ?_
        have hJ := J17
        try simp only [if_pos h16, if_pos h18] at hJ
        exact hJ ls H locs hl hM
      · refine lv_iconst (v := 1) hx hb d_M_conditionHolds_186 (by decide) ?_
        refine lv_goto (tgt := 191) hx hb d_M_conditionHolds_187 rfl ?_
        have hJ := J17
        try simp only [if_pos h16, if_neg (gm_nf h18)] at hJ
        exact hJ ls H locs hl hM
  · refine lv_tableIn (off := 191) (tgt := 192) hx hb d_M_conditionHolds_1 (by decide) (by decide) (by decide +kernel) rfl ?_
    refine lv_aload_n hx hb d_M_conditionHolds_192 rfl (lv_at hl 0 rfl) ?_
    refine lv_iconst (v := 1) hx hb d_M_conditionHolds_193 (by decide) ?_
    refine gm_Vi (As := [.int (1 : Int32)]) (rest := []) hF hM (c_M_isSwitchedOn (u := u) (m := m) (vn := (1 : Int32)) (by omega)) (gk_M_99 hts ⟨by decide, by decide⟩) (gv_M hF hM (by omega) rfl) rfl hl.1 rfl (Nat.le_of_ble_eq_true rfl) ⟨Nat.zero_le _, Nat.zero_le _⟩ d_M_conditionHolds_194 (fun H locs hM => ?_)
    have J20 : ∀ (ls : Array Slot) (H : Heap) (locs : List Loc), lv_has ls 2 [(0, .ref (a (3 + m))), (1, .int (nI 12))] → gm_M D A s (gm_W dk a) u H locs → W p l e rm_M_conditionHolds s mm args below meth c H locs 0 0 Q (F0 mm 213 ls [.int (gm_b (if (v_M_isSwitchedOn u m (1 : Int32)) = true then (if (v_M_isOn u m 4) = true then false else true) else false))]) := by
      intro ls H locs hl hM
      have hq := hQ H locs 213 ls
      simp only [v_M_conditionHolds] at hq
      exact hq hM d_M_conditionHolds_213
    refine gm_ifz (b := (v_M_isSwitchedOn u m (1 : Int32))) (tgt := 212) hx hb d_M_conditionHolds_197 rfl (fun h19 => ?_) (fun h19 => ?_)
    · refine lv_iconst (v := 0) hx hb d_M_conditionHolds_212 (by decide) ?_
      have hJ := J20
      try simp only [if_neg (gm_nf h19)] at hJ
      exact hJ ls H locs hl hM
    · refine lv_aload_n hx hb d_M_conditionHolds_200 rfl (lv_at hl 0 rfl) ?_
      refine lv_iconst (v := 4) hx hb d_M_conditionHolds_201 (by decide) ?_
      refine gm_Vi (As := [.int (nI 4)]) (rest := []) hF hM (c_M_isOn (u := u) (m := m) (sn := 4) (by omega) (by omega)) (gk_M_78 hts ⟨by decide, by decide⟩) (gv_M hF hM (by omega) rfl) rfl hl.1 rfl (Nat.le_of_ble_eq_true rfl) ⟨Nat.zero_le _, Nat.zero_le _⟩ d_M_conditionHolds_202 (fun H locs hM => ?_)
      refine gm_ifn (b := (v_M_isOn u m 4)) (tgt := 212) hx hb d_M_conditionHolds_205 rfl (fun h21 => ?_) (fun h21 => ?_)
      · refine lv_iconst (v := 0) hx hb d_M_conditionHolds_212 (by decide) ?_
        have hJ := J20
        try simp only [if_pos h19, if_pos h21] at hJ
        exact hJ ls H locs hl hM
      · refine lv_iconst (v := 1) hx hb d_M_conditionHolds_208 (by decide) ?_
        refine lv_goto (tgt := 213) hx hb d_M_conditionHolds_209 rfl ?_
        have hJ := J20
        try simp only [if_pos h19, if_neg (gm_nf h21)] at hJ
        exact hJ ls H locs hl hM
  · refine lv_tableIn (off := 213) (tgt := 214) hx hb d_M_conditionHolds_1 (by decide) (by decide) (by decide +kernel) rfl ?_
    refine lv_aload_n hx hb d_M_conditionHolds_214 rfl (lv_at hl 0 rfl) ?_
    refine lv_iconst (v := 1) hx hb d_M_conditionHolds_215 (by decide) ?_
    refine gm_Vi (As := [.int (1 : Int32)]) (rest := []) hF hM (c_M_isSwitchedOn (u := u) (m := m) (vn := (1 : Int32)) (by omega)) (gk_M_99 hts ⟨by decide, by decide⟩) (gv_M hF hM (by omega) rfl) rfl hl.1 rfl (Nat.le_of_ble_eq_true rfl) ⟨Nat.zero_le _, Nat.zero_le _⟩ d_M_conditionHolds_216 (fun H locs hM => ?_)
    have J23 : ∀ (ls : Array Slot) (H : Heap) (locs : List Loc), lv_has ls 2 [(0, .ref (a (3 + m))), (1, .int (nI 13))] → gm_M D A s (gm_W dk a) u H locs → W p l e rm_M_conditionHolds s mm args below meth c H locs 0 0 Q (F0 mm 235 ls [.int (gm_b (if (v_M_isSwitchedOn u m (1 : Int32)) = true then false else (if (v_M_isOn u m 4) = true then true else false)))]) := by
      intro ls H locs hl hM
      have hq := hQ H locs 235 ls
      simp only [v_M_conditionHolds] at hq
      exact hq hM d_M_conditionHolds_235
    refine gm_ifn (b := (v_M_isSwitchedOn u m (1 : Int32))) (tgt := 234) hx hb d_M_conditionHolds_219 rfl (fun h22 => ?_) (fun h22 => ?_)
    · refine lv_iconst (v := 0) hx hb d_M_conditionHolds_234 (by decide) ?_
      have hJ := J23
      try simp only [if_pos h22] at hJ
      exact hJ ls H locs hl hM
    · refine lv_aload_n hx hb d_M_conditionHolds_222 rfl (lv_at hl 0 rfl) ?_
      refine lv_iconst (v := 4) hx hb d_M_conditionHolds_223 (by decide) ?_
      refine gm_Vi (As := [.int (nI 4)]) (rest := []) hF hM (c_M_isOn (u := u) (m := m) (sn := 4) (by omega) (by omega)) (gk_M_78 hts ⟨by decide, by decide⟩) (gv_M hF hM (by omega) rfl) rfl hl.1 rfl (Nat.le_of_ble_eq_true rfl) ⟨Nat.zero_le _, Nat.zero_le _⟩ d_M_conditionHolds_224 (fun H locs hM => ?_)
      refine gm_ifz (b := (v_M_isOn u m 4)) (tgt := 234) hx hb d_M_conditionHolds_227 rfl (fun h24 => ?_) (fun h24 => ?_)
      · refine lv_iconst (v := 0) hx hb d_M_conditionHolds_234 (by decide) ?_
        have hJ := J23
        try simp only [if_neg (gm_nf h22), if_neg (gm_nf h24)] at hJ
        exact hJ ls H locs hl hM
      · refine lv_iconst (v := 1) hx hb d_M_conditionHolds_230 (by decide) ?_
        refine lv_goto (tgt := 235) hx hb d_M_conditionHolds_231 rfl ?_
        have hJ := J23
        try simp only [if_neg (gm_nf h22), if_pos h24] at hJ
        exact hJ ls H locs hl hM
  · refine lv_tableIn (off := 241) (tgt := 242) hx hb d_M_conditionHolds_1 (by decide) (by decide) (by decide +kernel) rfl ?_
    refine lv_iconst (v := 0) hx hb d_M_conditionHolds_242 (by decide) ?_
    have hq := hQ H locs 243 ls
    simp only [v_M_conditionHolds] at hq
    exact hq hM d_M_conditionHolds_243
  · refine lv_tableIn (off := 235) (tgt := 236) hx hb d_M_conditionHolds_1 (by decide) (by decide) (by decide +kernel) rfl ?_
    refine lv_aload_n hx hb d_M_conditionHolds_236 rfl (lv_at hl 0 rfl) ?_
    refine lv_iconst (v := 5) hx hb d_M_conditionHolds_237 (by decide) ?_
    refine gm_Vi (As := [.int (nI 5)]) (rest := []) hF hM (c_M_isOn (u := u) (m := m) (sn := 5) (by omega) (by omega)) (gk_M_78 hts ⟨by decide, by decide⟩) (gv_M hF hM (by omega) rfl) rfl hl.1 rfl (Nat.le_of_ble_eq_true rfl) ⟨Nat.zero_le _, Nat.zero_le _⟩ d_M_conditionHolds_238 (fun H locs hM => ?_)
    have hq := hQ H locs 241 ls
    simp only [v_M_conditionHolds] at hq
    exact hq hM d_M_conditionHolds_241
theorem d_M_watchConditions_0 : decode b_M_watchConditions 0 = .ok (.iconst 0, 1) := by decide +kernel
theorem d_M_watchConditions_1 : decode b_M_watchConditions 1 = .ok (.istore_n 1, 1) := by decide +kernel
theorem d_M_watchConditions_2 : decode b_M_watchConditions 2 = .ok (.bipush 6, 2) := by decide +kernel
theorem d_M_watchConditions_4 : decode b_M_watchConditions 4 = .ok (.istore_n 2, 1) := by decide +kernel
theorem d_M_watchConditions_5 : decode b_M_watchConditions 5 = .ok (.iload_n 2, 1) := by decide +kernel
theorem d_M_watchConditions_6 : decode b_M_watchConditions 6 = .ok (.bipush 16, 2) := by decide +kernel
theorem d_M_watchConditions_8 : decode b_M_watchConditions 8 = .ok (.if_icmp .ge 69, 3) := by decide +kernel
theorem d_M_watchConditions_11 : decode b_M_watchConditions 11 = .ok (.iload_n 2, 1) := by decide +kernel
theorem d_M_watchConditions_12 : decode b_M_watchConditions 12 = .ok (.bipush 14, 2) := by decide +kernel
theorem d_M_watchConditions_14 : decode b_M_watchConditions 14 = .ok (.if_icmp .eq 57, 3) := by decide +kernel
theorem d_M_watchConditions_17 : decode b_M_watchConditions 17 = .ok (.aload_n 0, 1) := by decide +kernel
theorem d_M_watchConditions_18 : decode b_M_watchConditions 18 = .ok (.getfield 17, 3) := by decide +kernel
theorem d_M_watchConditions_21 : decode b_M_watchConditions 21 = .ok (.iload_n 2, 1) := by decide +kernel
theorem d_M_watchConditions_22 : decode b_M_watchConditions 22 = .ok (.aload_n 0, 1) := by decide +kernel
theorem d_M_watchConditions_23 : decode b_M_watchConditions 23 = .ok (.iload_n 2, 1) := by decide +kernel
theorem d_M_watchConditions_24 : decode b_M_watchConditions 24 = .ok (.invokevirtual 90, 3) := by decide +kernel
theorem d_M_watchConditions_27 : decode b_M_watchConditions 27 = .ok (.ifCond .eq 22, 3) := by decide +kernel
theorem d_M_watchConditions_30 : decode b_M_watchConditions 30 = .ok (.aload_n 0, 1) := by decide +kernel
theorem d_M_watchConditions_31 : decode b_M_watchConditions 31 = .ok (.getfield 17, 3) := by decide +kernel
theorem d_M_watchConditions_34 : decode b_M_watchConditions 34 = .ok (.iload_n 2, 1) := by decide +kernel
theorem d_M_watchConditions_35 : decode b_M_watchConditions 35 = .ok (.iaload, 1) := by decide +kernel
theorem d_M_watchConditions_36 : decode b_M_watchConditions 36 = .ok (.iconst 1, 1) := by decide +kernel
theorem d_M_watchConditions_37 : decode b_M_watchConditions 37 = .ok (.iadd, 1) := by decide +kernel
theorem d_M_watchConditions_38 : decode b_M_watchConditions 38 = .ok (.getstatic 93, 3) := by decide +kernel
theorem d_M_watchConditions_41 : decode b_M_watchConditions 41 = .ok (.iload_n 2, 1) := by decide +kernel
theorem d_M_watchConditions_42 : decode b_M_watchConditions 42 = .ok (.iaload, 1) := by decide +kernel
theorem d_M_watchConditions_43 : decode b_M_watchConditions 43 = .ok (.invokestatic 96, 3) := by decide +kernel
theorem d_M_watchConditions_46 : decode b_M_watchConditions 46 = .ok (.goto 4, 3) := by decide +kernel
theorem d_M_watchConditions_49 : decode b_M_watchConditions 49 = .ok (.iconst 0, 1) := by decide +kernel
theorem d_M_watchConditions_50 : decode b_M_watchConditions 50 = .ok (.iastore, 1) := by decide +kernel
theorem d_M_watchConditions_51 : decode b_M_watchConditions 51 = .ok (.aload_n 0, 1) := by decide +kernel
theorem d_M_watchConditions_52 : decode b_M_watchConditions 52 = .ok (.getfield 17, 3) := by decide +kernel
theorem d_M_watchConditions_55 : decode b_M_watchConditions 55 = .ok (.iload_n 2, 1) := by decide +kernel
theorem d_M_watchConditions_56 : decode b_M_watchConditions 56 = .ok (.iaload, 1) := by decide +kernel
theorem d_M_watchConditions_57 : decode b_M_watchConditions 57 = .ok (.getstatic 93, 3) := by decide +kernel
theorem d_M_watchConditions_60 : decode b_M_watchConditions 60 = .ok (.iload_n 2, 1) := by decide +kernel
theorem d_M_watchConditions_61 : decode b_M_watchConditions 61 = .ok (.iaload, 1) := by decide +kernel
theorem d_M_watchConditions_62 : decode b_M_watchConditions 62 = .ok (.if_icmp .ne 9, 3) := by decide +kernel
theorem d_M_watchConditions_65 : decode b_M_watchConditions 65 = .ok (.iload_n 1, 1) := by decide +kernel
theorem d_M_watchConditions_66 : decode b_M_watchConditions 66 = .ok (.iconst 1, 1) := by decide +kernel
theorem d_M_watchConditions_67 : decode b_M_watchConditions 67 = .ok (.iload_n 2, 1) := by decide +kernel
theorem d_M_watchConditions_68 : decode b_M_watchConditions 68 = .ok (.ishl, 1) := by decide +kernel
theorem d_M_watchConditions_69 : decode b_M_watchConditions 69 = .ok (.ior, 1) := by decide +kernel
theorem d_M_watchConditions_70 : decode b_M_watchConditions 70 = .ok (.istore_n 1, 1) := by decide +kernel
theorem d_M_watchConditions_71 : decode b_M_watchConditions 71 = .ok (.iinc 2 1, 3) := by decide +kernel
theorem d_M_watchConditions_74 : decode b_M_watchConditions 74 = .ok (.goto (-69), 3) := by decide +kernel
theorem d_M_watchConditions_77 : decode b_M_watchConditions 77 = .ok (.iload_n 1, 1) := by decide +kernel
theorem d_M_watchConditions_78 : decode b_M_watchConditions 78 = .ok (.ireturn, 1) := by decide +kernel
def lp_M_watchC (m : Nat) : Nat → Nat → Int32 → gm_St → Int32 × gm_St
  | 0, _, x, u => (x, u)
  | k + 1, i, x, u => lp_M_watchC m k (i + 1) (if (nI i) = (14 : Int32) then x else (if ((gm_sG u (1 + m) i (if (v_M_conditionHolds u m i) = true then (if (gm_lim i) < ((u.2.1 (1 + m) i) + (1 : Int32)) then (gm_lim i) else ((u.2.1 (1 + m) i) + (1 : Int32))) else (0 : Int32))).2.1 (1 + m) i) = (gm_lim i) then (x ||| ((1 : Int32) <<< ((nI i) &&& 31))) else x)) (if (nI i) = (14 : Int32) then u else (if ((gm_sG u (1 + m) i (if (v_M_conditionHolds u m i) = true then (if (gm_lim i) < ((u.2.1 (1 + m) i) + (1 : Int32)) then (gm_lim i) else ((u.2.1 (1 + m) i) + (1 : Int32))) else (0 : Int32))).2.1 (1 + m) i) = (gm_lim i) then (gm_sG u (1 + m) i (if (v_M_conditionHolds u m i) = true then (if (gm_lim i) < ((u.2.1 (1 + m) i) + (1 : Int32)) then (gm_lim i) else ((u.2.1 (1 + m) i) + (1 : Int32))) else (0 : Int32))) else (gm_sG u (1 + m) i (if (v_M_conditionHolds u m i) = true then (if (gm_lim i) < ((u.2.1 (1 + m) i) + (1 : Int32)) then (gm_lim i) else ((u.2.1 (1 + m) i) + (1 : Int32))) else (0 : Int32)))))
def v_M_watchConditions (u : gm_St) (m : Nat) : Int32 := ((lp_M_watchC m 10 6 (0 : Int32) u).1)
def s_M_watchConditions (u : gm_St) (m : Nat) : gm_St := ((lp_M_watchC m 10 6 (0 : Int32) u).2)
set_option maxRecDepth 100000 in
set_option maxHeartbeats 4000000 in
theorem c_M_watchConditions {l : Launch} {D : va_G} {dk : Nat → ClassId} {a : Nat → Nat} {A : Nat → Prop} {lt : Nat} {u : gm_St} {m : Nat} (hm : m < 2) : gm_I l D (gm_ty dk) (gm_W dk a) A lt y_M_watchConditions b_M_watchConditions 3 (some .int) rm_M_watchConditions [.ref (a (3 + m))] u (v_M_watchConditions u m) (s_M_watchConditions u m) := by
  refine gm_enterI (by decide) (Nat.le_of_ble_eq_true rfl) ?_
  intro p e s mm args below meth c ls Q H locs hF hM hl hQ
  have hx := hF.1
  have hb := hF.2.1
  have hml := hF.2.2.1
  have hown := hF.2.2.2.1
  have hts := hF.2.2.2.2.1
  have hl : lv_has ls 3 [(0, .ref (a (3 + m)))] := hl
  refine lv_iconst (v := 0) hx hb d_M_watchConditions_0 (by decide) ?_
  refine lv_istore_n (lv' := [(1, .int (0 : Int32)), (0, .ref (a (3 + m)))]) hx hb d_M_watchConditions_1 rfl hl (by decide) rfl (fun ls hl => ?_)
  refine lv_bipush (v := 6) hx hb d_M_watchConditions_2 (by decide) ?_
  refine lv_istore_n (lv' := [(2, .int (6 : Int32)), (1, .int (0 : Int32)), (0, .ref (a (3 + m)))]) hx hb d_M_watchConditions_4 rfl hl (by decide) rfl (fun ls hl => ?_)
  have L1 : ∀ (k1 i1 : Nat) (x1 : Int32) (w1 : gm_St) (ls : Array Slot) (H : Heap) (locs : List Loc), i1 + k1 = 16 → 6 ≤ i1 → lv_has ls 3 [(2, .int (nI i1)), (1, .int x1), (0, .ref (a (3 + m)))] → gm_M D A s (gm_W dk a) w1 H locs → (∀ (ls : Array Slot) (H : Heap) (locs : List Loc), lv_has ls 3 [(2, .int (nI 16)), (1, .int ((lp_M_watchC m k1 i1 x1 w1).1)), (0, .ref (a (3 + m)))] → gm_M D A s (gm_W dk a) ((lp_M_watchC m k1 i1 x1 w1).2) H locs → W p l e rm_M_watchConditions s mm args below meth c H locs 0 0 Q (F0 mm 77 ls [])) → W p l e rm_M_watchConditions s mm args below meth c H locs 0 0 Q (F0 mm 5 ls []) := by
    intro k1
    induction k1 with
    | zero =>
      intro i1 x1 w1 ls H locs hk1 hI1 hl hM kk
      obtain rfl : i1 = 16 := by omega
      refine lv_iload_n hx hb d_M_watchConditions_5 rfl (lv_at hl 0 rfl) ?_
      refine lv_bipush (v := 16) hx hb d_M_watchConditions_6 (by decide) ?_
      refine lv_icmp_ge (tgt := 77) hx hb d_M_watchConditions_8 rfl (fun _ => ?_) (fun h => absurd (by decide) h)
      exact kk ls H locs hl hM
    | succ k1 ih =>
      intro i1 x1 w1 ls H locs hk1 hI1 hl hM kk
      refine lv_iload_n hx hb d_M_watchConditions_5 rfl (lv_at hl 0 rfl) ?_
      refine lv_bipush (v := 16) hx hb d_M_watchConditions_6 (by decide) ?_
      refine lv_icmp_ge (tgt := 77) hx hb d_M_watchConditions_8 rfl (fun h => absurd h (nI_ge (a := i1) (b := 16) (by omega) (by first | decide | omega))) (fun _ => ?_)
      refine lv_iload_n hx hb d_M_watchConditions_11 rfl (lv_at hl 0 rfl) ?_
      refine lv_bipush (v := 14) hx hb d_M_watchConditions_12 (by decide) ?_
      have J3 : ∀ (ls : Array Slot) (H : Heap) (locs : List Loc), lv_has ls 3 [(0, .ref (a (3 + m))), (1, .int (if (nI i1) = (14 : Int32) then x1 else (if ((gm_sG w1 (1 + m) i1 (if (v_M_conditionHolds w1 m i1) = true then (if (gm_lim i1) < ((w1.2.1 (1 + m) i1) + (1 : Int32)) then (gm_lim i1) else ((w1.2.1 (1 + m) i1) + (1 : Int32))) else (0 : Int32))).2.1 (1 + m) i1) = (gm_lim i1) then (x1 ||| ((1 : Int32) <<< ((nI i1) &&& 31))) else x1))), (2, .int (nI i1))] → gm_M D A s (gm_W dk a) (if (nI i1) = (14 : Int32) then w1 else (if ((gm_sG w1 (1 + m) i1 (if (v_M_conditionHolds w1 m i1) = true then (if (gm_lim i1) < ((w1.2.1 (1 + m) i1) + (1 : Int32)) then (gm_lim i1) else ((w1.2.1 (1 + m) i1) + (1 : Int32))) else (0 : Int32))).2.1 (1 + m) i1) = (gm_lim i1) then (gm_sG w1 (1 + m) i1 (if (v_M_conditionHolds w1 m i1) = true then (if (gm_lim i1) < ((w1.2.1 (1 + m) i1) + (1 : Int32)) then (gm_lim i1) else ((w1.2.1 (1 + m) i1) + (1 : Int32))) else (0 : Int32))) else (gm_sG w1 (1 + m) i1 (if (v_M_conditionHolds w1 m i1) = true then (if (gm_lim i1) < ((w1.2.1 (1 + m) i1) + (1 : Int32)) then (gm_lim i1) else ((w1.2.1 (1 + m) i1) + (1 : Int32))) else (0 : Int32))))) H locs → W p l e rm_M_watchConditions s mm args below meth c H locs 0 0 Q (F0 mm 71 ls []) := by
        intro ls H locs hl hM
        refine lv_iinc (k := 2) (v := (nI (i1 + 1))) (lv' := [(2, .int (nI (i1 + 1))), (0, .ref (a (3 + m))), (1, .int (if (nI i1) = (14 : Int32) then x1 else (if ((gm_sG w1 (1 + m) i1 (if (v_M_conditionHolds w1 m i1) = true then (if (gm_lim i1) < ((w1.2.1 (1 + m) i1) + (1 : Int32)) then (gm_lim i1) else ((w1.2.1 (1 + m) i1) + (1 : Int32))) else (0 : Int32))).2.1 (1 + m) i1) = (gm_lim i1) then (x1 ||| ((1 : Int32) <<< ((nI i1) &&& 31))) else x1)))]) hx hb d_M_watchConditions_71 hl rfl (nI_1 _) (by decide) rfl (fun ls hl => ?_)
        refine lv_goto (tgt := 5) hx hb d_M_watchConditions_74 rfl ?_
        have hK := kk
        simp only [lp_M_watchC] at hK
        exact ih (i1 + 1) (if (nI i1) = (14 : Int32) then x1 else (if ((gm_sG w1 (1 + m) i1 (if (v_M_conditionHolds w1 m i1) = true then (if (gm_lim i1) < ((w1.2.1 (1 + m) i1) + (1 : Int32)) then (gm_lim i1) else ((w1.2.1 (1 + m) i1) + (1 : Int32))) else (0 : Int32))).2.1 (1 + m) i1) = (gm_lim i1) then (x1 ||| ((1 : Int32) <<< ((nI i1) &&& 31))) else x1)) (if (nI i1) = (14 : Int32) then w1 else (if ((gm_sG w1 (1 + m) i1 (if (v_M_conditionHolds w1 m i1) = true then (if (gm_lim i1) < ((w1.2.1 (1 + m) i1) + (1 : Int32)) then (gm_lim i1) else ((w1.2.1 (1 + m) i1) + (1 : Int32))) else (0 : Int32))).2.1 (1 + m) i1) = (gm_lim i1) then (gm_sG w1 (1 + m) i1 (if (v_M_conditionHolds w1 m i1) = true then (if (gm_lim i1) < ((w1.2.1 (1 + m) i1) + (1 : Int32)) then (gm_lim i1) else ((w1.2.1 (1 + m) i1) + (1 : Int32))) else (0 : Int32))) else (gm_sG w1 (1 + m) i1 (if (v_M_conditionHolds w1 m i1) = true then (if (gm_lim i1) < ((w1.2.1 (1 + m) i1) + (1 : Int32)) then (gm_lim i1) else ((w1.2.1 (1 + m) i1) + (1 : Int32))) else (0 : Int32))))) ls H locs (by omega) (by first | omega | assumption) (lv_sub hl [0, 2, 1] rfl) hM hK
      refine lv_icmp_eq (tgt := 71) hx hb d_M_watchConditions_14 rfl (fun h2 => ?_) (fun h2 => ?_)
      · have hJ := J3
        try simp only [if_pos h2] at hJ
        exact hJ ls H locs (lv_sub hl [2, 1, 0] rfl) hM
      · refine lv_aload_n hx hb d_M_watchConditions_17 rfl (lv_at hl 2 rfl) ?_
        refine gf_M_17 hF hM (by omega) d_M_watchConditions_18 ?_
        refine lv_iload_n hx hb d_M_watchConditions_21 rfl (lv_at hl 0 rfl) ?_
        refine lv_aload_n hx hb d_M_watchConditions_22 rfl (lv_at hl 2 rfl) ?_
        refine lv_iload_n hx hb d_M_watchConditions_23 rfl (lv_at hl 0 rfl) ?_
        refine gm_Vi (As := [.int (nI i1)]) (rest := [.int (nI i1), .ref (a (7 + m))]) hF hM (c_M_conditionHolds (u := w1) (m := m) (kn := i1) (by omega) (by omega)) (gk_M_90 hts ⟨by decide, by decide⟩) (gv_M hF hM (by omega) rfl) rfl hl.1 rfl (Nat.le_of_ble_eq_true rfl) ⟨Nat.zero_le _, Nat.zero_le _⟩ d_M_watchConditions_24 (fun H locs hM => ?_)
        have J5 : ∀ (ls : Array Slot) (H : Heap) (locs : List Loc), lv_has ls 3 [(0, .ref (a (3 + m))), (1, .int x1), (2, .int (nI i1))] → gm_M D A s (gm_W dk a) w1 H locs → W p l e rm_M_watchConditions s mm args below meth c H locs 0 0 Q (F0 mm 50 ls [.int (if (v_M_conditionHolds w1 m i1) = true then (if (gm_lim i1) < ((w1.2.1 (1 + m) i1) + (1 : Int32)) then (gm_lim i1) else ((w1.2.1 (1 + m) i1) + (1 : Int32))) else (0 : Int32)), .int (nI i1), .ref (a (7 + m))]) := by
          intro ls H locs hl hM
          refine gq_cnt (k := i1) hF hM (by omega) rfl (by omega) d_M_watchConditions_50 (fun H locs hM => ?_)
          refine lv_aload_n hx hb d_M_watchConditions_51 rfl (lv_at hl 0 rfl) ?_
          refine gf_M_17 hF hM (by omega) d_M_watchConditions_52 ?_
          refine lv_iload_n hx hb d_M_watchConditions_55 rfl (lv_at hl 2 rfl) ?_
          refine ga_cnt (k := i1) hF hM (by omega) rfl (by omega) d_M_watchConditions_56 ?_
          refine gf_M_93 hF hM d_M_watchConditions_57 ?_
          refine lv_iload_n hx hb d_M_watchConditions_60 rfl (lv_at hl 2 rfl) ?_
          refine ga_lim (k := i1) hF hM rfl (by omega) d_M_watchConditions_61 ?_
          refine lv_icmp_ne (tgt := 71) hx hb d_M_watchConditions_62 rfl (fun h6 => ?_) (fun h6 => ?_)
          · have hJ := J3
            try simp only [if_neg h2, if_neg h6] at hJ
            exact hJ ls H locs hl hM
          · refine lv_iload_n hx hb d_M_watchConditions_65 rfl (lv_at hl 1 rfl) ?_
            refine lv_iconst (v := 1) hx hb d_M_watchConditions_66 (by decide) ?_
            refine lv_iload_n hx hb d_M_watchConditions_67 rfl (lv_at hl 2 rfl) ?_
            refine lv_ishl hx hb d_M_watchConditions_68 ?_
            refine lv_ior hx hb d_M_watchConditions_69 ?_
            refine lv_istore_n (lv' := [(1, .int (x1 ||| ((1 : Int32) <<< ((nI i1) &&& 31)))), (0, .ref (a (3 + m))), (2, .int (nI i1))]) hx hb d_M_watchConditions_70 rfl hl (by decide) rfl (fun ls hl => ?_)
            have hJ := J3
            try simp only [if_neg h2, if_pos h6] at hJ
            exact hJ ls H locs (lv_sub hl [1, 0, 2] rfl) hM
        refine gm_ifz (b := (v_M_conditionHolds w1 m i1)) (tgt := 49) hx hb d_M_watchConditions_27 rfl (fun h4 => ?_) (fun h4 => ?_)
        · refine lv_iconst (v := 0) hx hb d_M_watchConditions_49 (by decide) ?_
          have hJ := J5
          try simp only [if_neg (gm_nf h4)] at hJ
          exact hJ ls H locs (lv_sub hl [2, 1, 0] rfl) hM
        · refine lv_aload_n hx hb d_M_watchConditions_30 rfl (lv_at hl 2 rfl) ?_
          refine gf_M_17 hF hM (by omega) d_M_watchConditions_31 ?_
          refine lv_iload_n hx hb d_M_watchConditions_34 rfl (lv_at hl 0 rfl) ?_
          refine ga_cnt (k := i1) hF hM (by omega) rfl (by omega) d_M_watchConditions_35 ?_
          refine lv_iconst (v := 1) hx hb d_M_watchConditions_36 (by decide) ?_
          refine lv_iadd hx hb d_M_watchConditions_37 ?_
          refine gf_M_93 hF hM d_M_watchConditions_38 ?_
          refine lv_iload_n hx hb d_M_watchConditions_41 rfl (lv_at hl 0 rfl) ?_
          refine ga_lim (k := i1) hF hM rfl (by omega) d_M_watchConditions_42 ?_
          refine va_mmin hx hb (by rw [hml]; exact hl.1.symm) hown (hts _ gw_ml_M_96) (hts _ gw_mst_min) (hts _ gw_mini) (hts _ gw_mcode_min) (Nat.le_of_ble_eq_true rfl) (Nat.le_of_ble_eq_true rfl) (Nat.zero_le _) (Nat.zero_le _) d_M_watchConditions_43 ?_
          refine lv_goto (tgt := 50) hx hb d_M_watchConditions_46 rfl ?_
          have hJ := J5
          try simp only [if_pos h4] at hJ
          exact hJ ls H locs (lv_sub hl [2, 1, 0] rfl) hM
  refine L1 10 6 (0 : Int32) u ls H locs (by omega) (by first | omega | assumption) hl hM (fun ls H locs hl hM => ?_)
  refine lv_iload_n hx hb d_M_watchConditions_77 rfl (lv_at hl 1 rfl) ?_
  have hq := hQ H locs 78 ls
  simp only [v_M_watchConditions, s_M_watchConditions] at hq
  exact hq hM d_M_watchConditions_78
theorem d_M_watchSwitch_0 : decode b_M_watchSwitch 0 = .ok (.aload_n 0, 1) := by decide +kernel
theorem d_M_watchSwitch_1 : decode b_M_watchSwitch 1 = .ok (.getfield 29, 3) := by decide +kernel
theorem d_M_watchSwitch_4 : decode b_M_watchSwitch 4 = .ok (.ifCond .ne 5, 3) := by decide +kernel
theorem d_M_watchSwitch_7 : decode b_M_watchSwitch 7 = .ok (.iconst 0, 1) := by decide +kernel
theorem d_M_watchSwitch_8 : decode b_M_watchSwitch 8 = .ok (.ireturn, 1) := by decide +kernel
theorem d_M_watchSwitch_9 : decode b_M_watchSwitch 9 = .ok (.aload_n 0, 1) := by decide +kernel
theorem d_M_watchSwitch_10 : decode b_M_watchSwitch 10 = .ok (.iconst 5, 1) := by decide +kernel
theorem d_M_watchSwitch_11 : decode b_M_watchSwitch 11 = .ok (.invokevirtual 78, 3) := by decide +kernel
theorem d_M_watchSwitch_14 : decode b_M_watchSwitch 14 = .ok (.ifCond .eq 9, 3) := by decide +kernel
theorem d_M_watchSwitch_17 : decode b_M_watchSwitch 17 = .ok (.aload_n 0, 1) := by decide +kernel
theorem d_M_watchSwitch_18 : decode b_M_watchSwitch 18 = .ok (.invokevirtual 45, 3) := by decide +kernel
theorem d_M_watchSwitch_21 : decode b_M_watchSwitch 21 = .ok (.iconst 0, 1) := by decide +kernel
theorem d_M_watchSwitch_22 : decode b_M_watchSwitch 22 = .ok (.ireturn, 1) := by decide +kernel
theorem d_M_watchSwitch_23 : decode b_M_watchSwitch 23 = .ok (.aload_n 0, 1) := by decide +kernel
theorem d_M_watchSwitch_24 : decode b_M_watchSwitch 24 = .ok (.getfield 17, 3) := by decide +kernel
theorem d_M_watchSwitch_27 : decode b_M_watchSwitch 27 = .ok (.bipush 14, 2) := by decide +kernel
theorem d_M_watchSwitch_29 : decode b_M_watchSwitch 29 = .ok (.dup2, 1) := by decide +kernel
theorem d_M_watchSwitch_30 : decode b_M_watchSwitch 30 = .ok (.iaload, 1) := by decide +kernel
theorem d_M_watchSwitch_31 : decode b_M_watchSwitch 31 = .ok (.iconst 1, 1) := by decide +kernel
theorem d_M_watchSwitch_32 : decode b_M_watchSwitch 32 = .ok (.iadd, 1) := by decide +kernel
theorem d_M_watchSwitch_33 : decode b_M_watchSwitch 33 = .ok (.iastore, 1) := by decide +kernel
theorem d_M_watchSwitch_34 : decode b_M_watchSwitch 34 = .ok (.aload_n 0, 1) := by decide +kernel
theorem d_M_watchSwitch_35 : decode b_M_watchSwitch 35 = .ok (.getfield 17, 3) := by decide +kernel
theorem d_M_watchSwitch_38 : decode b_M_watchSwitch 38 = .ok (.bipush 14, 2) := by decide +kernel
theorem d_M_watchSwitch_40 : decode b_M_watchSwitch 40 = .ok (.iaload, 1) := by decide +kernel
theorem d_M_watchSwitch_41 : decode b_M_watchSwitch 41 = .ok (.getstatic 93, 3) := by decide +kernel
theorem d_M_watchSwitch_44 : decode b_M_watchSwitch 44 = .ok (.bipush 14, 2) := by decide +kernel
theorem d_M_watchSwitch_46 : decode b_M_watchSwitch 46 = .ok (.iaload, 1) := by decide +kernel
theorem d_M_watchSwitch_47 : decode b_M_watchSwitch 47 = .ok (.if_icmp .ge 5, 3) := by decide +kernel
theorem d_M_watchSwitch_50 : decode b_M_watchSwitch 50 = .ok (.iconst 0, 1) := by decide +kernel
theorem d_M_watchSwitch_51 : decode b_M_watchSwitch 51 = .ok (.ireturn, 1) := by decide +kernel
theorem d_M_watchSwitch_52 : decode b_M_watchSwitch 52 = .ok (.aload_n 0, 1) := by decide +kernel
theorem d_M_watchSwitch_53 : decode b_M_watchSwitch 53 = .ok (.invokevirtual 45, 3) := by decide +kernel
theorem d_M_watchSwitch_56 : decode b_M_watchSwitch 56 = .ok (.sipush 16384, 3) := by decide +kernel
theorem d_M_watchSwitch_59 : decode b_M_watchSwitch 59 = .ok (.ireturn, 1) := by decide +kernel
def v_M_watchSwitch (u : gm_St) (m : Nat) : Int32 := (if (u.1 3 m) = true then (if (v_M_isOn u m 5) = true then (0 : Int32) else (if (gm_lim 14) ≤ ((gm_sG u (1 + m) 14 ((u.2.1 (1 + m) 14) + (1 : Int32))).2.1 (1 + m) 14) then (16384 : Int32) else (0 : Int32))) else (0 : Int32))
def s_M_watchSwitch (u : gm_St) (m : Nat) : gm_St := (if (u.1 3 m) = true then (if (v_M_isOn u m 5) = true then (s_M_endWait u m) else (if (gm_lim 14) ≤ ((gm_sG u (1 + m) 14 ((u.2.1 (1 + m) 14) + (1 : Int32))).2.1 (1 + m) 14) then (s_M_endWait (gm_sG u (1 + m) 14 ((u.2.1 (1 + m) 14) + (1 : Int32))) m) else (gm_sG u (1 + m) 14 ((u.2.1 (1 + m) 14) + (1 : Int32))))) else u)
set_option maxRecDepth 100000 in
set_option maxHeartbeats 4000000 in
theorem c_M_watchSwitch {l : Launch} {D : va_G} {dk : Nat → ClassId} {a : Nat → Nat} {A : Nat → Prop} {lt : Nat} {u : gm_St} {m : Nat} (hm : m < 2) : gm_I l D (gm_ty dk) (gm_W dk a) A lt y_M_watchSwitch b_M_watchSwitch 1 (some .int) rm_M_watchSwitch [.ref (a (3 + m))] u (v_M_watchSwitch u m) (s_M_watchSwitch u m) := by
  refine gm_enterI (by decide) (Nat.le_of_ble_eq_true rfl) ?_
  intro p e s mm args below meth c ls Q H locs hF hM hl hQ
  have hx := hF.1
  have hb := hF.2.1
  have hml := hF.2.2.1
  have hown := hF.2.2.2.1
  have hts := hF.2.2.2.2.1
  have hl : lv_has ls 1 [(0, .ref (a (3 + m)))] := hl
  refine lv_aload_n hx hb d_M_watchSwitch_0 rfl (lv_at hl 0 rfl) ?_
  refine gf_M_29 hF hM (by omega) d_M_watchSwitch_1 ?_
  refine gm_ifn (b := (u.1 3 m)) (tgt := 9) hx hb d_M_watchSwitch_4 rfl (fun h1 => ?_) (fun h1 => ?_)
  · refine lv_aload_n hx hb d_M_watchSwitch_9 rfl (lv_at hl 0 rfl) ?_
    refine lv_iconst (v := 5) hx hb d_M_watchSwitch_10 (by decide) ?_
    refine gm_Vi (As := [.int (nI 5)]) (rest := []) hF hM (c_M_isOn (u := u) (m := m) (sn := 5) (by omega) (by omega)) (gk_M_78 hts ⟨by decide, by decide⟩) (gv_M hF hM (by omega) rfl) rfl hl.1 rfl (Nat.le_of_ble_eq_true rfl) ⟨Nat.zero_le _, Nat.zero_le _⟩ d_M_watchSwitch_11 (fun H locs hM => ?_)
    refine gm_ifz (b := (v_M_isOn u m 5)) (tgt := 23) hx hb d_M_watchSwitch_14 rfl (fun h2 => ?_) (fun h2 => ?_)
    · refine lv_aload_n hx hb d_M_watchSwitch_23 rfl (lv_at hl 0 rfl) ?_
      refine gf_M_17 hF hM (by omega) d_M_watchSwitch_24 ?_
      refine lv_bipush (v := 14) hx hb d_M_watchSwitch_27 (by decide) ?_
      refine lv_dup2_11 hx hb d_M_watchSwitch_29 rfl rfl ?_
      refine ga_cnt (k := 14) hF hM (by omega) rfl (by omega) d_M_watchSwitch_30 ?_
      refine lv_iconst (v := 1) hx hb d_M_watchSwitch_31 (by decide) ?_
      refine lv_iadd hx hb d_M_watchSwitch_32 ?_
      refine gq_cnt (k := 14) hF hM (by omega) rfl (by omega) d_M_watchSwitch_33 (fun H locs hM => ?_)
      refine lv_aload_n hx hb d_M_watchSwitch_34 rfl (lv_at hl 0 rfl) ?_
      refine gf_M_17 hF hM (by omega) d_M_watchSwitch_35 ?_
      refine lv_bipush (v := 14) hx hb d_M_watchSwitch_38 (by decide) ?_
      refine ga_cnt (k := 14) hF hM (by omega) rfl (by omega) d_M_watchSwitch_40 ?_
      refine gf_M_93 hF hM d_M_watchSwitch_41 ?_
      refine lv_bipush (v := 14) hx hb d_M_watchSwitch_44 (by decide) ?_
      refine ga_lim (k := 14) hF hM rfl (by omega) d_M_watchSwitch_46 ?_
      refine lv_icmp_ge (tgt := 52) hx hb d_M_watchSwitch_47 rfl (fun h3 => ?_) (fun h3 => ?_)
      · refine lv_aload_n hx hb d_M_watchSwitch_52 rfl (lv_at hl 0 rfl) ?_
        refine gm_Vv (As := []) (rest := []) hF hM (c_M_endWait (u := (gm_sG u (1 + m) 14 ((u.2.1 (1 + m) 14) + (1 : Int32)))) (m := m) (by omega)) (gk_M_45 hts ⟨by decide, by decide⟩) (gv_M hF hM (by omega) rfl) rfl hl.1 rfl (Nat.le_of_ble_eq_true rfl) ⟨Nat.zero_le _, Nat.zero_le _⟩ d_M_watchSwitch_53 (fun H locs hM => ?_)
        refine lv_sipush (v := 16384) hx hb d_M_watchSwitch_56 (by decide) ?_
        have hq := hQ H locs 59 ls
        simp only [v_M_watchSwitch, s_M_watchSwitch, if_pos h1, if_neg (gm_nf h2), if_pos h3] at hq
        exact hq hM d_M_watchSwitch_59
      · refine lv_iconst (v := 0) hx hb d_M_watchSwitch_50 (by decide) ?_
        have hq := hQ H locs 51 ls
        simp only [v_M_watchSwitch, s_M_watchSwitch, if_pos h1, if_neg (gm_nf h2), if_neg h3] at hq
        exact hq hM d_M_watchSwitch_51
    · refine lv_aload_n hx hb d_M_watchSwitch_17 rfl (lv_at hl 0 rfl) ?_
      refine gm_Vv (As := []) (rest := []) hF hM (c_M_endWait (u := u) (m := m) (by omega)) (gk_M_45 hts ⟨by decide, by decide⟩) (gv_M hF hM (by omega) rfl) rfl hl.1 rfl (Nat.le_of_ble_eq_true rfl) ⟨Nat.zero_le _, Nat.zero_le _⟩ d_M_watchSwitch_18 (fun H locs hM => ?_)
      refine lv_iconst (v := 0) hx hb d_M_watchSwitch_21 (by decide) ?_
      have hq := hQ H locs 22 ls
      simp only [v_M_watchSwitch, s_M_watchSwitch, if_pos h1, if_pos h2] at hq
      exact hq hM d_M_watchSwitch_22
  · refine lv_iconst (v := 0) hx hb d_M_watchSwitch_7 (by decide) ?_
    have hq := hQ H locs 8 ls
    simp only [v_M_watchSwitch, s_M_watchSwitch, if_neg (gm_nf h1)] at hq
    exact hq hM d_M_watchSwitch_8
theorem d_M_step_0 : decode b_M_step 0 = .ok (.aload_n 0, 1) := by decide +kernel
theorem d_M_step_1 : decode b_M_step 1 = .ok (.getfield 21, 3) := by decide +kernel
theorem d_M_step_4 : decode b_M_step 4 = .ok (.ifCond .ne 5, 3) := by decide +kernel
theorem d_M_step_7 : decode b_M_step 7 = .ok (.iconst 0, 1) := by decide +kernel
theorem d_M_step_8 : decode b_M_step 8 = .ok (.ireturn, 1) := by decide +kernel
theorem d_M_step_9 : decode b_M_step 9 = .ok (.aload_n 0, 1) := by decide +kernel
theorem d_M_step_10 : decode b_M_step 10 = .ok (.iload_n 1, 1) := by decide +kernel
theorem d_M_step_11 : decode b_M_step 11 = .ok (.invokevirtual 48, 3) := by decide +kernel
theorem d_M_step_14 : decode b_M_step 14 = .ok (.istore_n 3, 1) := by decide +kernel
theorem d_M_step_15 : decode b_M_step 15 = .ok (.aload_n 0, 1) := by decide +kernel
theorem d_M_step_16 : decode b_M_step 16 = .ok (.aload_n 0, 1) := by decide +kernel
theorem d_M_step_17 : decode b_M_step 17 = .ok (.iload_n 2, 1) := by decide +kernel
theorem d_M_step_18 : decode b_M_step 18 = .ok (.invokevirtual 52, 3) := by decide +kernel
theorem d_M_step_21 : decode b_M_step 21 = .ok (.invokevirtual 56, 3) := by decide +kernel
theorem d_M_step_24 : decode b_M_step 24 = .ok (.iload_n 3, 1) := by decide +kernel
theorem d_M_step_25 : decode b_M_step 25 = .ok (.aload_n 0, 1) := by decide +kernel
theorem d_M_step_26 : decode b_M_step 26 = .ok (.invokevirtual 60, 3) := by decide +kernel
theorem d_M_step_29 : decode b_M_step 29 = .ok (.ior, 1) := by decide +kernel
theorem d_M_step_30 : decode b_M_step 30 = .ok (.istore_n 3, 1) := by decide +kernel
theorem d_M_step_31 : decode b_M_step 31 = .ok (.iload_n 3, 1) := by decide +kernel
theorem d_M_step_32 : decode b_M_step 32 = .ok (.aload_n 0, 1) := by decide +kernel
theorem d_M_step_33 : decode b_M_step 33 = .ok (.invokevirtual 64, 3) := by decide +kernel
theorem d_M_step_36 : decode b_M_step 36 = .ok (.ior, 1) := by decide +kernel
theorem d_M_step_37 : decode b_M_step 37 = .ok (.istore_n 3, 1) := by decide +kernel
theorem d_M_step_38 : decode b_M_step 38 = .ok (.iload_n 3, 1) := by decide +kernel
theorem d_M_step_39 : decode b_M_step 39 = .ok (.aload_n 0, 1) := by decide +kernel
theorem d_M_step_40 : decode b_M_step 40 = .ok (.getfield 42, 3) := by decide +kernel
theorem d_M_step_43 : decode b_M_step 43 = .ok (.iconst (-1), 1) := by decide +kernel
theorem d_M_step_44 : decode b_M_step 44 = .ok (.ixor, 1) := by decide +kernel
theorem d_M_step_45 : decode b_M_step 45 = .ok (.iand, 1) := by decide +kernel
theorem d_M_step_46 : decode b_M_step 46 = .ok (.istore 4, 2) := by decide +kernel
theorem d_M_step_48 : decode b_M_step 48 = .ok (.aload_n 0, 1) := by decide +kernel
theorem d_M_step_49 : decode b_M_step 49 = .ok (.dup, 1) := by decide +kernel
theorem d_M_step_50 : decode b_M_step 50 = .ok (.getfield 42, 3) := by decide +kernel
theorem d_M_step_53 : decode b_M_step 53 = .ok (.iload 4, 2) := by decide +kernel
theorem d_M_step_55 : decode b_M_step 55 = .ok (.ior, 1) := by decide +kernel
theorem d_M_step_56 : decode b_M_step 56 = .ok (.putfield 42, 3) := by decide +kernel
theorem d_M_step_59 : decode b_M_step 59 = .ok (.iload 4, 2) := by decide +kernel
theorem d_M_step_61 : decode b_M_step 61 = .ok (.ireturn, 1) := by decide +kernel
def v_M_step (u : gm_St) (m : Nat) (ch : Int32) (dw : Bool) : Int32 := (if (u.1 2 m) = true then ((((v_M_voteAll u m ch) ||| (v_M_watchConditions (s_M_switchValves (s_M_voteAll u m ch) m (v_M_wantedValves (s_M_voteAll u m ch) m dw)) m)) ||| (v_M_watchSwitch (s_M_watchConditions (s_M_switchValves (s_M_voteAll u m ch) m (v_M_wantedValves (s_M_voteAll u m ch) m dw)) m) m)) &&& (((s_M_watchSwitch (s_M_watchConditions (s_M_switchValves (s_M_voteAll u m ch) m (v_M_wantedValves (s_M_voteAll u m ch) m dw)) m) m).2.1 5 m) ^^^ (-1 : Int32))) else (0 : Int32))
def s_M_step (u : gm_St) (m : Nat) (ch : Int32) (dw : Bool) : gm_St := (if (u.1 2 m) = true then (gm_sG (s_M_watchSwitch (s_M_watchConditions (s_M_switchValves (s_M_voteAll u m ch) m (v_M_wantedValves (s_M_voteAll u m ch) m dw)) m) m) 5 m (((s_M_watchSwitch (s_M_watchConditions (s_M_switchValves (s_M_voteAll u m ch) m (v_M_wantedValves (s_M_voteAll u m ch) m dw)) m) m).2.1 5 m) ||| ((((v_M_voteAll u m ch) ||| (v_M_watchConditions (s_M_switchValves (s_M_voteAll u m ch) m (v_M_wantedValves (s_M_voteAll u m ch) m dw)) m)) ||| (v_M_watchSwitch (s_M_watchConditions (s_M_switchValves (s_M_voteAll u m ch) m (v_M_wantedValves (s_M_voteAll u m ch) m dw)) m) m)) &&& (((s_M_watchSwitch (s_M_watchConditions (s_M_switchValves (s_M_voteAll u m ch) m (v_M_wantedValves (s_M_voteAll u m ch) m dw)) m) m).2.1 5 m) ^^^ (-1 : Int32))))) else u)
set_option maxRecDepth 100000 in
set_option maxHeartbeats 4000000 in
theorem c_M_step {l : Launch} {D : va_G} {dk : Nat → ClassId} {a : Nat → Nat} {A : Nat → Prop} {lt : Nat} {u : gm_St} {m : Nat} {ch : Int32} {dw : Bool} (hm : m < 2) : gm_I l D (gm_ty dk) (gm_W dk a) A lt y_M_step b_M_step 5 (some .int) rm_M_step [.ref (a (3 + m)), .int ch, .int (gm_b dw)] u (v_M_step u m ch dw) (s_M_step u m ch dw) := by
  refine gm_enterI (by decide) (Nat.le_of_ble_eq_true rfl) ?_
  intro p e s mm args below meth c ls Q H locs hF hM hl hQ
  have hx := hF.1
  have hb := hF.2.1
  have hml := hF.2.2.1
  have hown := hF.2.2.2.1
  have hts := hF.2.2.2.2.1
  have hl : lv_has ls 5 [(0, .ref (a (3 + m))), (1, .int ch), (2, .int (gm_b dw))] := hl
  refine lv_aload_n hx hb d_M_step_0 rfl (lv_at hl 0 rfl) ?_
  refine gf_M_21 hF hM (by omega) d_M_step_1 ?_
  refine gm_ifn (b := (u.1 2 m)) (tgt := 9) hx hb d_M_step_4 rfl (fun h1 => ?_) (fun h1 => ?_)
  · refine lv_aload_n hx hb d_M_step_9 rfl (lv_at hl 0 rfl) ?_
    refine lv_iload_n hx hb d_M_step_10 rfl (lv_at hl 1 rfl) ?_
    refine gm_Vi (As := [.int ch]) (rest := []) hF hM (c_M_voteAll (u := u) (m := m) (ch := ch) (by omega)) (gk_M_48 hts ⟨by decide, by decide⟩) (gv_M hF hM (by omega) rfl) rfl hl.1 rfl (Nat.le_of_ble_eq_true rfl) ⟨Nat.zero_le _, Nat.zero_le _⟩ d_M_step_11 (fun H locs hM => ?_)
    refine lv_istore_n (lv' := [(3, .int (v_M_voteAll u m ch)), (0, .ref (a (3 + m))), (1, .int ch), (2, .int (gm_b dw))]) hx hb d_M_step_14 rfl hl (by decide) rfl (fun ls hl => ?_)
    refine lv_aload_n hx hb d_M_step_15 rfl (lv_at hl 1 rfl) ?_
    refine lv_aload_n hx hb d_M_step_16 rfl (lv_at hl 1 rfl) ?_
    refine lv_iload_n hx hb d_M_step_17 rfl (lv_at hl 3 rfl) ?_
    refine gm_Vi (As := [.int (gm_b dw)]) (rest := [.ref (a (3 + m))]) hF hM (c_M_wantedValves (u := (s_M_voteAll u m ch)) (m := m) (dw := dw) (by omega)) (gk_M_52 hts ⟨by decide, by decide⟩) (gv_M hF hM (by omega) rfl) rfl hl.1 rfl (Nat.le_of_ble_eq_true rfl) ⟨Nat.zero_le _, Nat.zero_le _⟩ d_M_step_18 (fun H locs hM => ?_)
    refine gm_Vv (As := [.int (v_M_wantedValves (s_M_voteAll u m ch) m dw)]) (rest := []) hF hM (c_M_switchValves (u := (s_M_voteAll u m ch)) (m := m) (wn := (v_M_wantedValves (s_M_voteAll u m ch) m dw)) (by omega)) (gk_M_56 hts ⟨by decide, by decide⟩) (gv_M hF hM (by omega) rfl) rfl hl.1 rfl (Nat.le_of_ble_eq_true rfl) ⟨Nat.zero_le _, Nat.zero_le _⟩ d_M_step_21 (fun H locs hM => ?_)
    refine lv_iload_n hx hb d_M_step_24 rfl (lv_at hl 0 rfl) ?_
    refine lv_aload_n hx hb d_M_step_25 rfl (lv_at hl 1 rfl) ?_
    refine gm_Vi (As := []) (rest := [.int (v_M_voteAll u m ch)]) hF hM (c_M_watchConditions (u := (s_M_switchValves (s_M_voteAll u m ch) m (v_M_wantedValves (s_M_voteAll u m ch) m dw))) (m := m) (by omega)) (gk_M_60 hts ⟨by decide, by decide⟩) (gv_M hF hM (by omega) rfl) rfl hl.1 rfl (Nat.le_of_ble_eq_true rfl) ⟨Nat.zero_le _, Nat.zero_le _⟩ d_M_step_26 (fun H locs hM => ?_)
    refine lv_ior hx hb d_M_step_29 ?_
    refine lv_istore_n (lv' := [(3, .int ((v_M_voteAll u m ch) ||| (v_M_watchConditions (s_M_switchValves (s_M_voteAll u m ch) m (v_M_wantedValves (s_M_voteAll u m ch) m dw)) m))), (0, .ref (a (3 + m))), (1, .int ch), (2, .int (gm_b dw))]) hx hb d_M_step_30 rfl hl (by decide) rfl (fun ls hl => ?_)
    refine lv_iload_n hx hb d_M_step_31 rfl (lv_at hl 0 rfl) ?_
    refine lv_aload_n hx hb d_M_step_32 rfl (lv_at hl 1 rfl) ?_
    refine gm_Vi (As := []) (rest := [.int ((v_M_voteAll u m ch) ||| (v_M_watchConditions (s_M_switchValves (s_M_voteAll u m ch) m (v_M_wantedValves (s_M_voteAll u m ch) m dw)) m))]) hF hM (c_M_watchSwitch (u := (s_M_watchConditions (s_M_switchValves (s_M_voteAll u m ch) m (v_M_wantedValves (s_M_voteAll u m ch) m dw)) m)) (m := m) (by omega)) (gk_M_64 hts ⟨by decide, by decide⟩) (gv_M hF hM (by omega) rfl) rfl hl.1 rfl (Nat.le_of_ble_eq_true rfl) ⟨Nat.zero_le _, Nat.zero_le _⟩ d_M_step_33 (fun H locs hM => ?_)
    refine lv_ior hx hb d_M_step_36 ?_
    refine lv_istore_n (lv' := [(3, .int (((v_M_voteAll u m ch) ||| (v_M_watchConditions (s_M_switchValves (s_M_voteAll u m ch) m (v_M_wantedValves (s_M_voteAll u m ch) m dw)) m)) ||| (v_M_watchSwitch (s_M_watchConditions (s_M_switchValves (s_M_voteAll u m ch) m (v_M_wantedValves (s_M_voteAll u m ch) m dw)) m) m))), (0, .ref (a (3 + m))), (1, .int ch), (2, .int (gm_b dw))]) hx hb d_M_step_37 rfl hl (by decide) rfl (fun ls hl => ?_)
    refine lv_iload_n hx hb d_M_step_38 rfl (lv_at hl 0 rfl) ?_
    refine lv_aload_n hx hb d_M_step_39 rfl (lv_at hl 1 rfl) ?_
    refine gf_M_42 hF hM (by omega) d_M_step_40 ?_
    refine lv_iconst (v := -1) hx hb d_M_step_43 (by decide) ?_
    refine lv_ixor hx hb d_M_step_44 ?_
    refine lv_iand hx hb d_M_step_45 ?_
    refine lv_istore (lv' := [(4, .int ((((v_M_voteAll u m ch) ||| (v_M_watchConditions (s_M_switchValves (s_M_voteAll u m ch) m (v_M_wantedValves (s_M_voteAll u m ch) m dw)) m)) ||| (v_M_watchSwitch (s_M_watchConditions (s_M_switchValves (s_M_voteAll u m ch) m (v_M_wantedValves (s_M_voteAll u m ch) m dw)) m) m)) &&& (((s_M_watchSwitch (s_M_watchConditions (s_M_switchValves (s_M_voteAll u m ch) m (v_M_wantedValves (s_M_voteAll u m ch) m dw)) m) m).2.1 5 m) ^^^ (-1 : Int32)))), (3, .int (((v_M_voteAll u m ch) ||| (v_M_watchConditions (s_M_switchValves (s_M_voteAll u m ch) m (v_M_wantedValves (s_M_voteAll u m ch) m dw)) m)) ||| (v_M_watchSwitch (s_M_watchConditions (s_M_switchValves (s_M_voteAll u m ch) m (v_M_wantedValves (s_M_voteAll u m ch) m dw)) m) m))), (0, .ref (a (3 + m))), (1, .int ch), (2, .int (gm_b dw))]) hx hb d_M_step_46 hl (by decide) rfl (fun ls hl => ?_)
    refine lv_aload_n hx hb d_M_step_48 rfl (lv_at hl 2 rfl) ?_
    refine lv_dup hx hb d_M_step_49 rfl ?_
    refine gf_M_42 hF hM (by omega) d_M_step_50 ?_
    refine lv_iload hx hb d_M_step_53 (lv_at hl 0 rfl) ?_
    refine lv_ior hx hb d_M_step_55 ?_
    refine gp_M_42 hF hM (by omega) d_M_step_56 (fun H locs hM => ?_)
    refine lv_iload hx hb d_M_step_59 (lv_at hl 0 rfl) ?_
    have hq := hQ H locs 61 ls
    simp only [v_M_step, s_M_step, if_pos h1] at hq
    exact hq hM d_M_step_61
  · refine lv_iconst (v := 0) hx hb d_M_step_7 (by decide) ?_
    have hq := hQ H locs 8 ls
    simp only [v_M_step, s_M_step, if_neg (gm_nf h1)] at hq
    exact hq hM d_M_step_8
theorem d_M_sensorsOn_0 : decode b_M_sensorsOn 0 = .ok (.iconst 0, 1) := by decide +kernel
theorem d_M_sensorsOn_1 : decode b_M_sensorsOn 1 = .ok (.istore_n 1, 1) := by decide +kernel
theorem d_M_sensorsOn_2 : decode b_M_sensorsOn 2 = .ok (.iconst 0, 1) := by decide +kernel
theorem d_M_sensorsOn_3 : decode b_M_sensorsOn 3 = .ok (.istore_n 2, 1) := by decide +kernel
theorem d_M_sensorsOn_4 : decode b_M_sensorsOn 4 = .ok (.iload_n 2, 1) := by decide +kernel
theorem d_M_sensorsOn_5 : decode b_M_sensorsOn 5 = .ok (.bipush 6, 2) := by decide +kernel
theorem d_M_sensorsOn_7 : decode b_M_sensorsOn 7 = .ok (.if_icmp .ge 31, 3) := by decide +kernel
theorem d_M_sensorsOn_10 : decode b_M_sensorsOn 10 = .ok (.iload_n 1, 1) := by decide +kernel
theorem d_M_sensorsOn_11 : decode b_M_sensorsOn 11 = .ok (.aload_n 0, 1) := by decide +kernel
theorem d_M_sensorsOn_12 : decode b_M_sensorsOn 12 = .ok (.getfield 11, 3) := by decide +kernel
theorem d_M_sensorsOn_15 : decode b_M_sensorsOn 15 = .ok (.iload_n 2, 1) := by decide +kernel
theorem d_M_sensorsOn_16 : decode b_M_sensorsOn 16 = .ok (.aaload, 1) := by decide +kernel
theorem d_M_sensorsOn_17 : decode b_M_sensorsOn 17 = .ok (.getfield 102, 3) := by decide +kernel
theorem d_M_sensorsOn_20 : decode b_M_sensorsOn 20 = .ok (.ifCond .eq 9, 3) := by decide +kernel
theorem d_M_sensorsOn_23 : decode b_M_sensorsOn 23 = .ok (.iconst 1, 1) := by decide +kernel
theorem d_M_sensorsOn_24 : decode b_M_sensorsOn 24 = .ok (.iload_n 2, 1) := by decide +kernel
theorem d_M_sensorsOn_25 : decode b_M_sensorsOn 25 = .ok (.ishl, 1) := by decide +kernel
theorem d_M_sensorsOn_26 : decode b_M_sensorsOn 26 = .ok (.goto 4, 3) := by decide +kernel
theorem d_M_sensorsOn_29 : decode b_M_sensorsOn 29 = .ok (.iconst 0, 1) := by decide +kernel
theorem d_M_sensorsOn_30 : decode b_M_sensorsOn 30 = .ok (.ior, 1) := by decide +kernel
theorem d_M_sensorsOn_31 : decode b_M_sensorsOn 31 = .ok (.istore_n 1, 1) := by decide +kernel
theorem d_M_sensorsOn_32 : decode b_M_sensorsOn 32 = .ok (.iinc 2 1, 3) := by decide +kernel
theorem d_M_sensorsOn_35 : decode b_M_sensorsOn 35 = .ok (.goto (-31), 3) := by decide +kernel
theorem d_M_sensorsOn_38 : decode b_M_sensorsOn 38 = .ok (.iload_n 1, 1) := by decide +kernel
theorem d_M_sensorsOn_39 : decode b_M_sensorsOn 39 = .ok (.ireturn, 1) := by decide +kernel
def lp_M_sensorsOn (u : gm_St) (m : Nat) : Nat → Nat → Int32 → Int32
  | 0, _, x => x
  | k + 1, i, x => lp_M_sensorsOn u m k (i + 1) (x ||| (if (u.1 0 (6 * m + i)) = true then ((1 : Int32) <<< ((nI i) &&& 31)) else (0 : Int32)))
def v_M_sensorsOn (u : gm_St) (m : Nat) : Int32 := (lp_M_sensorsOn u m 6 0 (0 : Int32))
set_option maxRecDepth 100000 in
set_option maxHeartbeats 4000000 in
theorem c_M_sensorsOn {l : Launch} {D : va_G} {dk : Nat → ClassId} {a : Nat → Nat} {A : Nat → Prop} {lt : Nat} {u : gm_St} {m : Nat} (hm : m < 2) : gm_I l D (gm_ty dk) (gm_W dk a) A lt y_M_sensorsOn b_M_sensorsOn 3 (some .int) rm_M_sensorsOn [.ref (a (3 + m))] u (v_M_sensorsOn u m) u := by
  refine gm_enterI (by decide) (Nat.le_of_ble_eq_true rfl) ?_
  intro p e s mm args below meth c ls Q H locs hF hM hl hQ
  have hx := hF.1
  have hb := hF.2.1
  have hml := hF.2.2.1
  have hown := hF.2.2.2.1
  have hts := hF.2.2.2.2.1
  have hl : lv_has ls 3 [(0, .ref (a (3 + m)))] := hl
  refine lv_iconst (v := 0) hx hb d_M_sensorsOn_0 (by decide) ?_
  refine lv_istore_n (lv' := [(1, .int (0 : Int32)), (0, .ref (a (3 + m)))]) hx hb d_M_sensorsOn_1 rfl hl (by decide) rfl (fun ls hl => ?_)
  refine lv_iconst (v := 0) hx hb d_M_sensorsOn_2 (by decide) ?_
  refine lv_istore_n (lv' := [(2, .int (0 : Int32)), (1, .int (0 : Int32)), (0, .ref (a (3 + m)))]) hx hb d_M_sensorsOn_3 rfl hl (by decide) rfl (fun ls hl => ?_)
  have L1 : ∀ (k1 i1 : Nat) (x1 : Int32) (ls : Array Slot) (H : Heap) (locs : List Loc), i1 + k1 = 6 → lv_has ls 3 [(2, .int (nI i1)), (1, .int x1), (0, .ref (a (3 + m)))] → gm_M D A s (gm_W dk a) u H locs → (∀ (ls : Array Slot) (H : Heap) (locs : List Loc), lv_has ls 3 [(2, .int (nI 6)), (1, .int (lp_M_sensorsOn u m k1 i1 x1)), (0, .ref (a (3 + m)))] → gm_M D A s (gm_W dk a) u H locs → W p l e rm_M_sensorsOn s mm args below meth c H locs 0 0 Q (F0 mm 38 ls [])) → W p l e rm_M_sensorsOn s mm args below meth c H locs 0 0 Q (F0 mm 4 ls []) := by
    intro k1
    induction k1 with
    | zero =>
      intro i1 x1 ls H locs hk1 hl hM kk
      obtain rfl : i1 = 6 := by omega
      refine lv_iload_n hx hb d_M_sensorsOn_4 rfl (lv_at hl 0 rfl) ?_
      refine lv_bipush (v := 6) hx hb d_M_sensorsOn_5 (by decide) ?_
      refine lv_icmp_ge (tgt := 38) hx hb d_M_sensorsOn_7 rfl (fun _ => ?_) (fun h => absurd (by decide) h)
      exact kk ls H locs hl hM
    | succ k1 ih =>
      intro i1 x1 ls H locs hk1 hl hM kk
      refine lv_iload_n hx hb d_M_sensorsOn_4 rfl (lv_at hl 0 rfl) ?_
      refine lv_bipush (v := 6) hx hb d_M_sensorsOn_5 (by decide) ?_
      refine lv_icmp_ge (tgt := 38) hx hb d_M_sensorsOn_7 rfl (fun h => absurd h (nI_ge (a := i1) (b := 6) (by omega) (by first | decide | omega))) (fun _ => ?_)
      refine lv_iload_n hx hb d_M_sensorsOn_10 rfl (lv_at hl 1 rfl) ?_
      refine lv_aload_n hx hb d_M_sensorsOn_11 rfl (lv_at hl 2 rfl) ?_
      refine gf_M_11 hF hM (by omega) d_M_sensorsOn_12 ?_
      refine lv_iload_n hx hb d_M_sensorsOn_15 rfl (lv_at hl 0 rfl) ?_
      refine ga_sens (k := i1) hF hM (by omega) rfl (by omega) d_M_sensorsOn_16 ?_
      refine gf_M_102 hF hM (by omega) d_M_sensorsOn_17 ?_
      have J3 : ∀ (ls : Array Slot) (H : Heap) (locs : List Loc), lv_has ls 3 [(0, .ref (a (3 + m))), (1, .int x1), (2, .int (nI i1))] → gm_M D A s (gm_W dk a) u H locs → W p l e rm_M_sensorsOn s mm args below meth c H locs 0 0 Q (F0 mm 30 ls [.int (if (u.1 0 (6 * m + i1)) = true then ((1 : Int32) <<< ((nI i1) &&& 31)) else (0 : Int32)), .int x1]) := by
        intro ls H locs hl hM
        refine lv_ior hx hb d_M_sensorsOn_30 ?_
        refine lv_istore_n (lv' := [(1, .int (x1 ||| (if (u.1 0 (6 * m + i1)) = true then ((1 : Int32) <<< ((nI i1) &&& 31)) else (0 : Int32)))), (0, .ref (a (3 + m))), (2, .int (nI i1))]) hx hb d_M_sensorsOn_31 rfl hl (by decide) rfl (fun ls hl => ?_)
        refine lv_iinc (k := 2) (v := (nI (i1 + 1))) (lv' := [(2, .int (nI (i1 + 1))), (1, .int (x1 ||| (if (u.1 0 (6 * m + i1)) = true then ((1 : Int32) <<< ((nI i1) &&& 31)) else (0 : Int32)))), (0, .ref (a (3 + m)))]) hx hb d_M_sensorsOn_32 hl rfl (nI_1 _) (by decide) rfl (fun ls hl => ?_)
        refine lv_goto (tgt := 4) hx hb d_M_sensorsOn_35 rfl ?_
        have hK := kk
        simp only [lp_M_sensorsOn] at hK
        exact ih (i1 + 1) (x1 ||| (if (u.1 0 (6 * m + i1)) = true then ((1 : Int32) <<< ((nI i1) &&& 31)) else (0 : Int32))) ls H locs (by omega) hl hM hK
      refine gm_ifz (b := (u.1 0 (6 * m + i1))) (tgt := 29) hx hb d_M_sensorsOn_20 rfl (fun h2 => ?_) (fun h2 => ?_)
      · refine lv_iconst (v := 0) hx hb d_M_sensorsOn_29 (by decide) ?_
        have hJ := J3
        try simp only [if_neg (gm_nf h2)] at hJ
        exact hJ ls H locs (lv_sub hl [2, 1, 0] rfl) hM
      · refine lv_iconst (v := 1) hx hb d_M_sensorsOn_23 (by decide) ?_
        refine lv_iload_n hx hb d_M_sensorsOn_24 rfl (lv_at hl 0 rfl) ?_
        refine lv_ishl hx hb d_M_sensorsOn_25 ?_
        refine lv_goto (tgt := 30) hx hb d_M_sensorsOn_26 rfl ?_
        have hJ := J3
        try simp only [if_pos h2] at hJ
        exact hJ ls H locs (lv_sub hl [2, 1, 0] rfl) hM
  refine L1 6 0 (0 : Int32) ls H locs (by omega) hl hM (fun ls H locs hl hM => ?_)
  refine lv_iload_n hx hb d_M_sensorsOn_38 rfl (lv_at hl 1 rfl) ?_
  have hq := hQ H locs 39 ls
  simp only [v_M_sensorsOn] at hq
  exact hq hM d_M_sensorsOn_39
theorem d_M_sensorsBroken_0 : decode b_M_sensorsBroken 0 = .ok (.iconst 0, 1) := by decide +kernel
theorem d_M_sensorsBroken_1 : decode b_M_sensorsBroken 1 = .ok (.istore_n 1, 1) := by decide +kernel
theorem d_M_sensorsBroken_2 : decode b_M_sensorsBroken 2 = .ok (.iconst 0, 1) := by decide +kernel
theorem d_M_sensorsBroken_3 : decode b_M_sensorsBroken 3 = .ok (.istore_n 2, 1) := by decide +kernel
theorem d_M_sensorsBroken_4 : decode b_M_sensorsBroken 4 = .ok (.iload_n 2, 1) := by decide +kernel
theorem d_M_sensorsBroken_5 : decode b_M_sensorsBroken 5 = .ok (.bipush 6, 2) := by decide +kernel
theorem d_M_sensorsBroken_7 : decode b_M_sensorsBroken 7 = .ok (.if_icmp .ge 31, 3) := by decide +kernel
theorem d_M_sensorsBroken_10 : decode b_M_sensorsBroken 10 = .ok (.iload_n 1, 1) := by decide +kernel
theorem d_M_sensorsBroken_11 : decode b_M_sensorsBroken 11 = .ok (.aload_n 0, 1) := by decide +kernel
theorem d_M_sensorsBroken_12 : decode b_M_sensorsBroken 12 = .ok (.getfield 11, 3) := by decide +kernel
theorem d_M_sensorsBroken_15 : decode b_M_sensorsBroken 15 = .ok (.iload_n 2, 1) := by decide +kernel
theorem d_M_sensorsBroken_16 : decode b_M_sensorsBroken 16 = .ok (.aaload, 1) := by decide +kernel
theorem d_M_sensorsBroken_17 : decode b_M_sensorsBroken 17 = .ok (.getfield 105, 3) := by decide +kernel
theorem d_M_sensorsBroken_20 : decode b_M_sensorsBroken 20 = .ok (.ifCond .eq 9, 3) := by decide +kernel
theorem d_M_sensorsBroken_23 : decode b_M_sensorsBroken 23 = .ok (.iconst 1, 1) := by decide +kernel
theorem d_M_sensorsBroken_24 : decode b_M_sensorsBroken 24 = .ok (.iload_n 2, 1) := by decide +kernel
theorem d_M_sensorsBroken_25 : decode b_M_sensorsBroken 25 = .ok (.ishl, 1) := by decide +kernel
theorem d_M_sensorsBroken_26 : decode b_M_sensorsBroken 26 = .ok (.goto 4, 3) := by decide +kernel
theorem d_M_sensorsBroken_29 : decode b_M_sensorsBroken 29 = .ok (.iconst 0, 1) := by decide +kernel
theorem d_M_sensorsBroken_30 : decode b_M_sensorsBroken 30 = .ok (.ior, 1) := by decide +kernel
theorem d_M_sensorsBroken_31 : decode b_M_sensorsBroken 31 = .ok (.istore_n 1, 1) := by decide +kernel
theorem d_M_sensorsBroken_32 : decode b_M_sensorsBroken 32 = .ok (.iinc 2 1, 3) := by decide +kernel
theorem d_M_sensorsBroken_35 : decode b_M_sensorsBroken 35 = .ok (.goto (-31), 3) := by decide +kernel
theorem d_M_sensorsBroken_38 : decode b_M_sensorsBroken 38 = .ok (.iload_n 1, 1) := by decide +kernel
theorem d_M_sensorsBroken_39 : decode b_M_sensorsBroken 39 = .ok (.ireturn, 1) := by decide +kernel
def lp_M_sensorsBroken (u : gm_St) (m : Nat) : Nat → Nat → Int32 → Int32
  | 0, _, x => x
  | k + 1, i, x => lp_M_sensorsBroken u m k (i + 1) (x ||| (if (u.1 1 (6 * m + i)) = true then ((1 : Int32) <<< ((nI i) &&& 31)) else (0 : Int32)))
def v_M_sensorsBroken (u : gm_St) (m : Nat) : Int32 := (lp_M_sensorsBroken u m 6 0 (0 : Int32))
set_option maxRecDepth 100000 in
set_option maxHeartbeats 4000000 in
theorem c_M_sensorsBroken {l : Launch} {D : va_G} {dk : Nat → ClassId} {a : Nat → Nat} {A : Nat → Prop} {lt : Nat} {u : gm_St} {m : Nat} (hm : m < 2) : gm_I l D (gm_ty dk) (gm_W dk a) A lt y_M_sensorsBroken b_M_sensorsBroken 3 (some .int) rm_M_sensorsBroken [.ref (a (3 + m))] u (v_M_sensorsBroken u m) u := by
  refine gm_enterI (by decide) (Nat.le_of_ble_eq_true rfl) ?_
  intro p e s mm args below meth c ls Q H locs hF hM hl hQ
  have hx := hF.1
  have hb := hF.2.1
  have hml := hF.2.2.1
  have hown := hF.2.2.2.1
  have hts := hF.2.2.2.2.1
  have hl : lv_has ls 3 [(0, .ref (a (3 + m)))] := hl
  refine lv_iconst (v := 0) hx hb d_M_sensorsBroken_0 (by decide) ?_
  refine lv_istore_n (lv' := [(1, .int (0 : Int32)), (0, .ref (a (3 + m)))]) hx hb d_M_sensorsBroken_1 rfl hl (by decide) rfl (fun ls hl => ?_)
  refine lv_iconst (v := 0) hx hb d_M_sensorsBroken_2 (by decide) ?_
  refine lv_istore_n (lv' := [(2, .int (0 : Int32)), (1, .int (0 : Int32)), (0, .ref (a (3 + m)))]) hx hb d_M_sensorsBroken_3 rfl hl (by decide) rfl (fun ls hl => ?_)
  have L1 : ∀ (k1 i1 : Nat) (x1 : Int32) (ls : Array Slot) (H : Heap) (locs : List Loc), i1 + k1 = 6 → lv_has ls 3 [(2, .int (nI i1)), (1, .int x1), (0, .ref (a (3 + m)))] → gm_M D A s (gm_W dk a) u H locs → (∀ (ls : Array Slot) (H : Heap) (locs : List Loc), lv_has ls 3 [(2, .int (nI 6)), (1, .int (lp_M_sensorsBroken u m k1 i1 x1)), (0, .ref (a (3 + m)))] → gm_M D A s (gm_W dk a) u H locs → W p l e rm_M_sensorsBroken s mm args below meth c H locs 0 0 Q (F0 mm 38 ls [])) → W p l e rm_M_sensorsBroken s mm args below meth c H locs 0 0 Q (F0 mm 4 ls []) := by
    intro k1
    induction k1 with
    | zero =>
      intro i1 x1 ls H locs hk1 hl hM kk
      obtain rfl : i1 = 6 := by omega
      refine lv_iload_n hx hb d_M_sensorsBroken_4 rfl (lv_at hl 0 rfl) ?_
      refine lv_bipush (v := 6) hx hb d_M_sensorsBroken_5 (by decide) ?_
      refine lv_icmp_ge (tgt := 38) hx hb d_M_sensorsBroken_7 rfl (fun _ => ?_) (fun h => absurd (by decide) h)
      exact kk ls H locs hl hM
    | succ k1 ih =>
      intro i1 x1 ls H locs hk1 hl hM kk
      refine lv_iload_n hx hb d_M_sensorsBroken_4 rfl (lv_at hl 0 rfl) ?_
      refine lv_bipush (v := 6) hx hb d_M_sensorsBroken_5 (by decide) ?_
      refine lv_icmp_ge (tgt := 38) hx hb d_M_sensorsBroken_7 rfl (fun h => absurd h (nI_ge (a := i1) (b := 6) (by omega) (by first | decide | omega))) (fun _ => ?_)
      refine lv_iload_n hx hb d_M_sensorsBroken_10 rfl (lv_at hl 1 rfl) ?_
      refine lv_aload_n hx hb d_M_sensorsBroken_11 rfl (lv_at hl 2 rfl) ?_
      refine gf_M_11 hF hM (by omega) d_M_sensorsBroken_12 ?_
      refine lv_iload_n hx hb d_M_sensorsBroken_15 rfl (lv_at hl 0 rfl) ?_
      refine ga_sens (k := i1) hF hM (by omega) rfl (by omega) d_M_sensorsBroken_16 ?_
      refine gf_M_105 hF hM (by omega) d_M_sensorsBroken_17 ?_
      have J3 : ∀ (ls : Array Slot) (H : Heap) (locs : List Loc), lv_has ls 3 [(0, .ref (a (3 + m))), (1, .int x1), (2, .int (nI i1))] → gm_M D A s (gm_W dk a) u H locs → W p l e rm_M_sensorsBroken s mm args below meth c H locs 0 0 Q (F0 mm 30 ls [.int (if (u.1 1 (6 * m + i1)) = true then ((1 : Int32) <<< ((nI i1) &&& 31)) else (0 : Int32)), .int x1]) := by
        intro ls H locs hl hM
        refine lv_ior hx hb d_M_sensorsBroken_30 ?_
        refine lv_istore_n (lv' := [(1, .int (x1 ||| (if (u.1 1 (6 * m + i1)) = true then ((1 : Int32) <<< ((nI i1) &&& 31)) else (0 : Int32)))), (0, .ref (a (3 + m))), (2, .int (nI i1))]) hx hb d_M_sensorsBroken_31 rfl hl (by decide) rfl (fun ls hl => ?_)
        refine lv_iinc (k := 2) (v := (nI (i1 + 1))) (lv' := [(2, .int (nI (i1 + 1))), (1, .int (x1 ||| (if (u.1 1 (6 * m + i1)) = true then ((1 : Int32) <<< ((nI i1) &&& 31)) else (0 : Int32)))), (0, .ref (a (3 + m)))]) hx hb d_M_sensorsBroken_32 hl rfl (nI_1 _) (by decide) rfl (fun ls hl => ?_)
        refine lv_goto (tgt := 4) hx hb d_M_sensorsBroken_35 rfl ?_
        have hK := kk
        simp only [lp_M_sensorsBroken] at hK
        exact ih (i1 + 1) (x1 ||| (if (u.1 1 (6 * m + i1)) = true then ((1 : Int32) <<< ((nI i1) &&& 31)) else (0 : Int32))) ls H locs (by omega) hl hM hK
      refine gm_ifz (b := (u.1 1 (6 * m + i1))) (tgt := 29) hx hb d_M_sensorsBroken_20 rfl (fun h2 => ?_) (fun h2 => ?_)
      · refine lv_iconst (v := 0) hx hb d_M_sensorsBroken_29 (by decide) ?_
        have hJ := J3
        try simp only [if_neg (gm_nf h2)] at hJ
        exact hJ ls H locs (lv_sub hl [2, 1, 0] rfl) hM
      · refine lv_iconst (v := 1) hx hb d_M_sensorsBroken_23 (by decide) ?_
        refine lv_iload_n hx hb d_M_sensorsBroken_24 rfl (lv_at hl 0 rfl) ?_
        refine lv_ishl hx hb d_M_sensorsBroken_25 ?_
        refine lv_goto (tgt := 30) hx hb d_M_sensorsBroken_26 rfl ?_
        have hJ := J3
        try simp only [if_pos h2] at hJ
        exact hJ ls H locs (lv_sub hl [2, 1, 0] rfl) hM
  refine L1 6 0 (0 : Int32) ls H locs (by omega) hl hM (fun ls H locs hl hM => ?_)
  refine lv_iload_n hx hb d_M_sensorsBroken_38 rfl (lv_at hl 1 rfl) ?_
  have hq := hQ H locs 39 ls
  simp only [v_M_sensorsBroken] at hq
  exact hq hM d_M_sensorsBroken_39
theorem d_M_status_0 : decode b_M_status 0 = .ok (.aload_n 0, 1) := by decide +kernel
theorem d_M_status_1 : decode b_M_status 1 = .ok (.getfield 21, 3) := by decide +kernel
theorem d_M_status_4 : decode b_M_status 4 = .ok (.ifCond .ne 5, 3) := by decide +kernel
theorem d_M_status_7 : decode b_M_status 7 = .ok (.iconst 0, 1) := by decide +kernel
theorem d_M_status_8 : decode b_M_status 8 = .ok (.ireturn, 1) := by decide +kernel
theorem d_M_status_9 : decode b_M_status 9 = .ok (.aload_n 0, 1) := by decide +kernel
theorem d_M_status_10 : decode b_M_status 10 = .ok (.getfield 42, 3) := by decide +kernel
theorem d_M_status_13 : decode b_M_status 13 = .ok (.ifCond .eq 7, 3) := by decide +kernel
theorem d_M_status_16 : decode b_M_status 16 = .ok (.iconst 1, 1) := by decide +kernel
theorem d_M_status_17 : decode b_M_status 17 = .ok (.goto 4, 3) := by decide +kernel
theorem d_M_status_20 : decode b_M_status 20 = .ok (.iconst 3, 1) := by decide +kernel
theorem d_M_status_21 : decode b_M_status 21 = .ok (.ireturn, 1) := by decide +kernel
def v_M_status (u : gm_St) (m : Nat) : Int32 := (if (u.1 2 m) = true then (if (u.2.1 5 m) = 0 then (3 : Int32) else (1 : Int32)) else (0 : Int32))
set_option maxRecDepth 100000 in
set_option maxHeartbeats 4000000 in
theorem c_M_status {l : Launch} {D : va_G} {dk : Nat → ClassId} {a : Nat → Nat} {A : Nat → Prop} {lt : Nat} {u : gm_St} {m : Nat} (hm : m < 2) : gm_I l D (gm_ty dk) (gm_W dk a) A lt y_M_status b_M_status 1 (some .int) rm_M_status [.ref (a (3 + m))] u (v_M_status u m) u := by
  refine gm_enterI (by decide) (Nat.le_of_ble_eq_true rfl) ?_
  intro p e s mm args below meth c ls Q H locs hF hM hl hQ
  have hx := hF.1
  have hb := hF.2.1
  have hml := hF.2.2.1
  have hown := hF.2.2.2.1
  have hts := hF.2.2.2.2.1
  have hl : lv_has ls 1 [(0, .ref (a (3 + m)))] := hl
  refine lv_aload_n hx hb d_M_status_0 rfl (lv_at hl 0 rfl) ?_
  refine gf_M_21 hF hM (by omega) d_M_status_1 ?_
  refine gm_ifn (b := (u.1 2 m)) (tgt := 9) hx hb d_M_status_4 rfl (fun h1 => ?_) (fun h1 => ?_)
  · refine lv_aload_n hx hb d_M_status_9 rfl (lv_at hl 0 rfl) ?_
    refine gf_M_42 hF hM (by omega) d_M_status_10 ?_
    have J3 : ∀ (ls : Array Slot) (H : Heap) (locs : List Loc), lv_has ls 1 [(0, .ref (a (3 + m)))] → gm_M D A s (gm_W dk a) u H locs → W p l e rm_M_status s mm args below meth c H locs 0 0 Q (F0 mm 21 ls [.int (if (u.2.1 5 m) = 0 then (3 : Int32) else (1 : Int32))]) := by
      intro ls H locs hl hM
      have hq := hQ H locs 21 ls
      simp only [v_M_status, if_pos h1] at hq
      exact hq hM d_M_status_21
    refine lv_if_eq (tgt := 20) hx hb d_M_status_13 rfl (fun h2 => ?_) (fun h2 => ?_)
    · refine lv_iconst (v := 3) hx hb d_M_status_20 (by decide) ?_
      have hJ := J3
      try simp only [if_pos h2] at hJ
      exact hJ ls H locs hl hM
    · refine lv_iconst (v := 1) hx hb d_M_status_16 (by decide) ?_
      refine lv_goto (tgt := 21) hx hb d_M_status_17 rfl ?_
      have hJ := J3
      try simp only [if_neg h2] at hJ
      exact hJ ls H locs hl hM
  · refine lv_iconst (v := 0) hx hb d_M_status_7 (by decide) ?_
    have hq := hQ H locs 8 ls
    simp only [v_M_status, if_neg (gm_nf h1)] at hq
    exact hq hM d_M_status_8
end
section
-- what the module's methods leave as it is: the numbers
section GMN
variable {u : gm_St} {m i : Nat} {ch wn : Int32} {dw : Bool}
theorem nN_vote : (s_S_vote u i ch).2.2.1 = u.2.2.1 := by
  unfold s_S_vote s_S_voteOfThree s_S_voteOfTwo
  repeat' split
  all_goals rfl
theorem nN_voteAll : ∀ (k i : Nat) (x : Int32) (u : gm_St), (lp_M_voteAll m ch k i x u).2.2.2.1 = u.2.2.1 := by
  intro k
  induction k with
  | zero => intro i x u; rfl
  | succ k ih => intro i x u; simp only [lp_M_voteAll]; rw [ih]; exact nN_vote
theorem nN_watchC : ∀ (k i : Nat) (x : Int32) (u : gm_St), (lp_M_watchC m k i x u).2.2.2.1 = u.2.2.1 := by
  intro k
  induction k with
  | zero => intro i x u; rfl
  | succ k ih =>
    intro i x u; simp only [lp_M_watchC]; rw [ih]
    repeat' split
    all_goals rfl
theorem nN_watchS : (s_M_watchSwitch u m).2.2.1 = u.2.2.1 := by
  unfold s_M_watchSwitch s_M_endWait
  repeat' split
  all_goals rfl
theorem nN_step : (s_M_step u m ch dw).2.2.1 = u.2.2.1 := by
  unfold s_M_step
  split
  · show (s_M_watchSwitch _ m).2.2.1 = _
    rw [nN_watchS]
    unfold s_M_watchConditions
    rw [nN_watchC]
    show (s_M_voteAll u m ch).2.2.1 = _
    exact nN_voteAll 6 0 0 u
  · rfl
end GMN
def gm_ok (u : gm_St) : Prop := u.2.2.1 1 < 16 ∧ u.2.2.1 0 ≤ 16
theorem gm_ok_step {u : gm_St} {m : Nat} {ch : Int32} {dw : Bool} (h : gm_ok u) : gm_ok (s_M_step u m ch dw) := by
  unfold gm_ok
  rw [nN_step]
  exact h
theorem gm_min {x : Int32} {n : Nat} (hx : x = nI n) (hn : n < 2 ^ 31) : (if (16 : Int32) < x then (16 : Int32) else x) = nI (min n 16) := by
  subst hx
  show (if nI 16 < nI n then nI 16 else nI n) = _
  by_cases h : 16 < n
  · rw [if_pos (nI_lt (a := 16) h hn), Nat.min_eq_right (by omega)]
  · rw [if_neg (nI_nlt (b := n) (a := 16) (by omega) (by decide)), Nat.min_eq_left (by omega)]
theorem gm_ring {x : Int32} {a b : Nat} (hx : x = nI b) (h : b ≤ a + 16) : (nI a - x) + (16 : Int32) = nI (a + 16 - b) := by
  subst hx
  rw [← pk_sub h, ← nI_add]
  show nI a - nI b + nI 16 = _
  rw [Int32.sub_eq_add_neg, Int32.sub_eq_add_neg, Int32.add_assoc, Int32.add_assoc, Int32.add_comm (-nI b)]
theorem gm_ixE {x : Int32} {lo n : Nat} (h0 : ¬ x < nI lo) (h1 : x < nI n) (hl : lo ≤ n) (hn : n < 2 ^ 31) : ∃ j : Nat, (lo ≤ j ∧ j < n) ∧ x = nI j := by
  rcases pk_ix x hn with h | h | ⟨j, hj, rfl⟩
  · exact absurd (Int32.lt_of_lt_of_le h (nI_pos' (n := lo) (by omega))) h0
  · exact absurd h1 (Int32.not_lt.mpr h)
  · refine ⟨j, ⟨?_, hj⟩, rfl⟩
    apply Nat.le_of_not_lt
    intro hc
    exact h0 (nI_lt hc (by omega))
theorem gm_ixL {x : Int32} {lo n : Nat} (h0 : ¬ x < nI lo) (h1 : x ≤ nI n) (hl : lo ≤ n) (hn : n + 1 < 2 ^ 31) : ∃ j : Nat, (lo ≤ j ∧ j ≤ n) ∧ x = nI j := by
  have h2 : x < nI (n + 1) := Int32.lt_of_le_of_lt h1 (nI_lt (Nat.lt_succ_self n) hn)
  obtain ⟨j, hj, e⟩ := gm_ixE h0 h2 (by omega) hn
  exact ⟨j, ⟨hj.1, by omega⟩, e⟩
theorem gm_ix {x : Int32} {lo n : Nat} (h0 : ¬ x < nI lo) (h1 : x < nI n) (hl : lo ≤ n) (hn : n < 2 ^ 31) : (lo ≤ x.toNatClampNeg ∧ x.toNatClampNeg < n) ∧ x = nI x.toNatClampNeg := by
  obtain ⟨j, hj, rfl⟩ := gm_ixE h0 h1 hl hn
  rw [nI_clamp (by omega)]
  exact ⟨hj, rfl⟩
end
section
theorem d_G_isModule_0 : decode b_G_isModule 0 = .ok (.iload_n 0, 1) := by decide +kernel
theorem d_G_isModule_1 : decode b_G_isModule 1 = .ok (.ifCond .lt 12, 3) := by decide +kernel
theorem d_G_isModule_4 : decode b_G_isModule 4 = .ok (.iload_n 0, 1) := by decide +kernel
theorem d_G_isModule_5 : decode b_G_isModule 5 = .ok (.iconst 2, 1) := by decide +kernel
theorem d_G_isModule_6 : decode b_G_isModule 6 = .ok (.if_icmp .ge 7, 3) := by decide +kernel
theorem d_G_isModule_9 : decode b_G_isModule 9 = .ok (.iconst 1, 1) := by decide +kernel
theorem d_G_isModule_10 : decode b_G_isModule 10 = .ok (.goto 4, 3) := by decide +kernel
theorem d_G_isModule_13 : decode b_G_isModule 13 = .ok (.iconst 0, 1) := by decide +kernel
theorem d_G_isModule_14 : decode b_G_isModule 14 = .ok (.ireturn, 1) := by decide +kernel
def v_G_isModule (x : Int32) : Bool := (if x < 0 then false else (if (2 : Int32) ≤ x then false else true))
set_option maxRecDepth 100000 in
set_option maxHeartbeats 4000000 in
theorem c_G_isModule {l : Launch} {D : va_G} {dk : Nat → ClassId} {Wd : gm_St → va_W} {A : Nat → Prop} {lt : Nat} {u : gm_St} {x : Int32} : gm_I l D (gm_ty dk) Wd A lt y_G_isModule b_G_isModule 1 (some .boolean) rm_G_isModule [.int x] u (gm_b (v_G_isModule x)) u := by
  refine gm_enterZ (by decide) (Nat.le_of_ble_eq_true rfl) ?_
  intro p e s m args below meth c ls Q H locs hF hM hl hQ
  have hx := hF.1
  have hb := hF.2.1
  have hml := hF.2.2.1
  have hown := hF.2.2.2.1
  have hts := hF.2.2.2.2.1
  have hl : lv_has ls 1 [(0, .int x)] := hl
  refine lv_iload_n hx hb d_G_isModule_0 rfl (lv_at hl 0 rfl) ?_
  have J2 : ∀ (ls : Array Slot) (H : Heap) (locs : List Loc), lv_has ls 1 [(0, .int x)] → gm_M D A s Wd u H locs → W p l e rm_G_isModule s m args below meth c H locs 0 0 Q (F0 m 14 ls [.int (gm_b (if x < 0 then false else (if (2 : Int32) ≤ x then false else true)))]) := by
    intro ls H locs hl hM
    have hq := hQ H locs 14 ls
    simp only [v_G_isModule] at hq
    exact hq hM d_G_isModule_14
  refine lv_if_lt (tgt := 13) hx hb d_G_isModule_1 rfl (fun h1 => ?_) (fun h1 => ?_)
  · refine lv_iconst (v := 0) hx hb d_G_isModule_13 (by decide) ?_
    have hJ := J2
    try simp only [if_pos h1] at hJ
    exact hJ ls H locs hl hM
  · refine lv_iload_n hx hb d_G_isModule_4 rfl (lv_at hl 0 rfl) ?_
    refine lv_iconst (v := 2) hx hb d_G_isModule_5 (by decide) ?_
    refine lv_icmp_ge (tgt := 13) hx hb d_G_isModule_6 rfl (fun h3 => ?_) (fun h3 => ?_)
    · refine lv_iconst (v := 0) hx hb d_G_isModule_13 (by decide) ?_
      have hJ := J2
      try simp only [if_neg h1, if_pos h3] at hJ
      exact hJ ls H locs hl hM
    · refine lv_iconst (v := 1) hx hb d_G_isModule_9 (by decide) ?_
      refine lv_goto (tgt := 14) hx hb d_G_isModule_10 rfl ?_
      have hJ := J2
      try simp only [if_neg h1, if_neg h3] at hJ
      exact hJ ls H locs hl hM
theorem gm_isM {x : Int32} (h : v_G_isModule x = true) : x.toNatClampNeg < 2 ∧ x = nI x.toNatClampNeg := by
  unfold v_G_isModule at h
  by_cases h0 : x < 0
  · rw [if_pos h0] at h; cases h
  · rw [if_neg h0] at h
    by_cases h2 : (2 : Int32) ≤ x
    · rw [if_pos h2] at h; cases h
    · have q := gm_ix (lo := 0) (n := 2) h0 (Int32.not_le.mp h2) (by decide) (by decide)
      exact ⟨q.1.2, q.2⟩
theorem d_G_hasOddParity_0 : decode b_G_hasOddParity 0 = .ok (.iload_n 0, 1) := by decide +kernel
theorem d_G_hasOddParity_1 : decode b_G_hasOddParity 1 = .ok (.invokestatic 100, 3) := by decide +kernel
theorem d_G_hasOddParity_4 : decode b_G_hasOddParity 4 = .ok (.iconst 1, 1) := by decide +kernel
theorem d_G_hasOddParity_5 : decode b_G_hasOddParity 5 = .ok (.iand, 1) := by decide +kernel
theorem d_G_hasOddParity_6 : decode b_G_hasOddParity 6 = .ok (.iconst 1, 1) := by decide +kernel
theorem d_G_hasOddParity_7 : decode b_G_hasOddParity 7 = .ok (.if_icmp .ne 7, 3) := by decide +kernel
theorem d_G_hasOddParity_10 : decode b_G_hasOddParity 10 = .ok (.iconst 1, 1) := by decide +kernel
theorem d_G_hasOddParity_11 : decode b_G_hasOddParity 11 = .ok (.goto 4, 3) := by decide +kernel
theorem d_G_hasOddParity_14 : decode b_G_hasOddParity 14 = .ok (.iconst 0, 1) := by decide +kernel
theorem d_G_hasOddParity_15 : decode b_G_hasOddParity 15 = .ok (.ireturn, 1) := by decide +kernel
def v_G_hasOddParity (x : Int32) : Bool := (if ((v_I_bitCount x) &&& (1 : Int32)) = (1 : Int32) then true else false)
set_option maxRecDepth 100000 in
set_option maxHeartbeats 4000000 in
theorem c_G_hasOddParity {l : Launch} {D : va_G} {dk : Nat → ClassId} {Wd : gm_St → va_W} {A : Nat → Prop} {lt : Nat} {u : gm_St} {x : Int32} : gm_I l D (gm_ty dk) Wd A lt y_G_hasOddParity b_G_hasOddParity 1 (some .boolean) rm_G_hasOddParity [.int x] u (gm_b (v_G_hasOddParity x)) u := by
  refine gm_enterZ (by decide) (Nat.le_of_ble_eq_true rfl) ?_
  intro p e s m args below meth c ls Q H locs hF hM hl hQ
  have hx := hF.1
  have hb := hF.2.1
  have hml := hF.2.2.1
  have hown := hF.2.2.2.1
  have hts := hF.2.2.2.2.1
  have hl : lv_has ls 1 [(0, .int x)] := hl
  refine lv_iload_n hx hb d_G_hasOddParity_0 rfl (lv_at hl 0 rfl) ?_
  refine gm_Si (As := [.int x]) (rest := []) hF hM (c_I_bitCount (u := u) (x := x) ) (gk_G_100 hts ⟨by decide, by decide⟩) rfl hl.1 rfl (Nat.le_of_ble_eq_true rfl) ⟨Nat.zero_le _, Nat.zero_le _⟩ d_G_hasOddParity_1 (fun H locs hM => ?_)
  refine lv_iconst (v := 1) hx hb d_G_hasOddParity_4 (by decide) ?_
  refine lv_iand hx hb d_G_hasOddParity_5 ?_
  refine lv_iconst (v := 1) hx hb d_G_hasOddParity_6 (by decide) ?_
  have J2 : ∀ (ls : Array Slot) (H : Heap) (locs : List Loc), lv_has ls 1 [(0, .int x)] → gm_M D A s Wd u H locs → W p l e rm_G_hasOddParity s m args below meth c H locs 0 0 Q (F0 m 15 ls [.int (gm_b (if ((v_I_bitCount x) &&& (1 : Int32)) = (1 : Int32) then true else false))]) := by
    intro ls H locs hl hM
    have hq := hQ H locs 15 ls
    simp only [v_G_hasOddParity] at hq
    exact hq hM d_G_hasOddParity_15
  refine lv_icmp_ne (tgt := 14) hx hb d_G_hasOddParity_7 rfl (fun h1 => ?_) (fun h1 => ?_)
  · refine lv_iconst (v := 0) hx hb d_G_hasOddParity_14 (by decide) ?_
    have hJ := J2
    try simp only [if_neg h1] at hJ
    exact hJ ls H locs hl hM
  · refine lv_iconst (v := 1) hx hb d_G_hasOddParity_10 (by decide) ?_
    refine lv_goto (tgt := 15) hx hb d_G_hasOddParity_11 rfl ?_
    have hJ := J2
    try simp only [if_pos h1] at hJ
    exact hJ ls H locs hl hM
theorem d_G_time_0 : decode b_G_time 0 = .ok (.aload_n 0, 1) := by decide +kernel
theorem d_G_time_1 : decode b_G_time 1 = .ok (.getfield 27, 3) := by decide +kernel
theorem d_G_time_4 : decode b_G_time 4 = .ok (.ireturn, 1) := by decide +kernel
def v_G_time (u : gm_St) : Int32 := (u.2.1 6 2)
set_option maxRecDepth 100000 in
set_option maxHeartbeats 4000000 in
theorem c_G_time {l : Launch} {D : va_G} {dk : Nat → ClassId} {a : Nat → Nat} {A : Nat → Prop} {lt : Nat} {u : gm_St} : gm_I l D (gm_ty dk) (gm_W dk a) A lt y_G_time b_G_time 1 (some .int) rm_G_time [.ref (a 0)] u (v_G_time u) u := by
  refine gm_enterI (by decide) (Nat.le_of_ble_eq_true rfl) ?_
  intro p e s m args below meth c ls Q H locs hF hM hl hQ
  have hx := hF.1
  have hb := hF.2.1
  have hml := hF.2.2.1
  have hown := hF.2.2.2.1
  have hts := hF.2.2.2.2.1
  have hl : lv_has ls 1 [(0, .ref (a 0))] := hl
  refine lv_aload_n hx hb d_G_time_0 rfl (lv_at hl 0 rfl) ?_
  refine gf_G_27 hF hM d_G_time_1 ?_
  have hq := hQ H locs 4 ls
  simp only [v_G_time] at hq
  exact hq hM d_G_time_4
theorem d_G_fail_0 : decode b_G_fail 0 = .ok (.iload_n 1, 1) := by decide +kernel
theorem d_G_fail_1 : decode b_G_fail 1 = .ok (.invokestatic 39, 3) := by decide +kernel
theorem d_G_fail_4 : decode b_G_fail 4 = .ok (.ifCond .eq 19, 3) := by decide +kernel
theorem d_G_fail_7 : decode b_G_fail 7 = .ok (.aload_n 0, 1) := by decide +kernel
theorem d_G_fail_8 : decode b_G_fail 8 = .ok (.getfield 11, 3) := by decide +kernel
theorem d_G_fail_11 : decode b_G_fail 11 = .ok (.iload_n 1, 1) := by decide +kernel
theorem d_G_fail_12 : decode b_G_fail 12 = .ok (.aaload, 1) := by decide +kernel
theorem d_G_fail_13 : decode b_G_fail 13 = .ok (.invokevirtual 43, 3) := by decide +kernel
theorem d_G_fail_16 : decode b_G_fail 16 = .ok (.ifCond .eq 7, 3) := by decide +kernel
theorem d_G_fail_19 : decode b_G_fail 19 = .ok (.iconst 1, 1) := by decide +kernel
theorem d_G_fail_20 : decode b_G_fail 20 = .ok (.goto 4, 3) := by decide +kernel
theorem d_G_fail_23 : decode b_G_fail 23 = .ok (.iconst 0, 1) := by decide +kernel
theorem d_G_fail_24 : decode b_G_fail 24 = .ok (.ireturn, 1) := by decide +kernel
def v_G_fail (u : gm_St) (x : Int32) : Bool := (if (v_G_isModule x) = true then (if (v_M_stop u x.toNatClampNeg) = true then true else false) else false)
def s_G_fail (u : gm_St) (x : Int32) : gm_St := (if (v_G_isModule x) = true then (if (v_M_stop u x.toNatClampNeg) = true then (s_M_stop u x.toNatClampNeg) else (s_M_stop u x.toNatClampNeg)) else u)
set_option maxRecDepth 100000 in
set_option maxHeartbeats 4000000 in
theorem c_G_fail {l : Launch} {D : va_G} {dk : Nat → ClassId} {a : Nat → Nat} {A : Nat → Prop} {lt : Nat} {u : gm_St} {x : Int32} : gm_I l D (gm_ty dk) (gm_W dk a) A lt y_G_fail b_G_fail 2 (some .boolean) rm_G_fail [.ref (a 0), .int x] u (gm_b (v_G_fail u x)) (s_G_fail u x) := by
  refine gm_enterZ (by decide) (Nat.le_of_ble_eq_true rfl) ?_
  intro p e s m args below meth c ls Q H locs hF hM hl hQ
  have hx := hF.1
  have hb := hF.2.1
  have hml := hF.2.2.1
  have hown := hF.2.2.2.1
  have hts := hF.2.2.2.2.1
  have hl : lv_has ls 2 [(0, .ref (a 0)), (1, .int x)] := hl
  refine lv_iload_n hx hb d_G_fail_0 rfl (lv_at hl 1 rfl) ?_
  refine gm_Si (As := [.int x]) (rest := []) hF hM (c_G_isModule (u := u) (x := x) ) (gk_G_39 hts ⟨by decide, by decide⟩) rfl hl.1 rfl (Nat.le_of_ble_eq_true rfl) ⟨Nat.zero_le _, Nat.zero_le _⟩ d_G_fail_1 (fun H locs hM => ?_)
  have J2 : ∀ (ls : Array Slot) (H : Heap) (locs : List Loc), lv_has ls 2 [(0, .ref (a 0)), (1, .int x)] → gm_M D A s (gm_W dk a) (if (v_G_isModule x) = true then (if (v_M_stop u x.toNatClampNeg) = true then (s_M_stop u x.toNatClampNeg) else (s_M_stop u x.toNatClampNeg)) else u) H locs → W p l e rm_G_fail s m args below meth c H locs 0 0 Q (F0 m 24 ls [.int (gm_b (if (v_G_isModule x) = true then (if (v_M_stop u x.toNatClampNeg) = true then true else false) else false))]) := by
    intro ls H locs hl hM
    have hq := hQ H locs 24 ls
    simp only [v_G_fail, s_G_fail] at hq
    exact hq hM d_G_fail_24
  refine gm_ifz (b := (v_G_isModule x)) (tgt := 23) hx hb d_G_fail_4 rfl (fun h1 => ?_) (fun h1 => ?_)
  · refine lv_iconst (v := 0) hx hb d_G_fail_23 (by decide) ?_
    have hJ := J2
    try simp only [if_neg (gm_nf h1)] at hJ
    exact hJ ls H locs hl hM
  · have hm_x := (gm_isM h1).1
    have ex_x := (gm_isM h1).2
    refine lv_aload_n hx hb d_G_fail_7 rfl (lv_at hl 0 rfl) ?_
    refine gf_G_11 hF hM d_G_fail_8 ?_
    refine lv_iload_n hx hb d_G_fail_11 rfl (lv_at hl 1 rfl) ?_
    refine ga_mods (k := x.toNatClampNeg) hF hM ex_x (by first | omega | exact Nat.mod_lt _ (by decide)) d_G_fail_12 ?_
    refine gm_Vi (As := []) (rest := []) hF hM (c_M_stop (u := u) (m := x.toNatClampNeg) (by omega)) (gk_G_43 hts ⟨by decide, by decide⟩) (gv_M hF hM (by omega) rfl) rfl hl.1 rfl (Nat.le_of_ble_eq_true rfl) ⟨Nat.zero_le _, Nat.zero_le _⟩ d_G_fail_13 (fun H locs hM => ?_)
    refine gm_ifz (b := (v_M_stop u x.toNatClampNeg)) (tgt := 23) hx hb d_G_fail_16 rfl (fun h3 => ?_) (fun h3 => ?_)
    · refine lv_iconst (v := 0) hx hb d_G_fail_23 (by decide) ?_
      have hJ := J2
      try simp only [if_pos h1, if_neg (gm_nf h3)] at hJ
      exact hJ ls H locs hl hM
    · refine lv_iconst (v := 1) hx hb d_G_fail_19 (by decide) ?_
      refine lv_goto (tgt := 24) hx hb d_G_fail_20 rfl ?_
      have hJ := J2
      try simp only [if_pos h1, if_pos h3] at hJ
      exact hJ ls H locs hl hM
theorem d_G_replace_0 : decode b_G_replace 0 = .ok (.iload_n 1, 1) := by decide +kernel
theorem d_G_replace_1 : decode b_G_replace 1 = .ok (.invokestatic 39, 3) := by decide +kernel
theorem d_G_replace_4 : decode b_G_replace 4 = .ok (.ifCond .ne 5, 3) := by decide +kernel
theorem d_G_replace_7 : decode b_G_replace 7 = .ok (.iconst 0, 1) := by decide +kernel
theorem d_G_replace_8 : decode b_G_replace 8 = .ok (.ireturn, 1) := by decide +kernel
theorem d_G_replace_9 : decode b_G_replace 9 = .ok (.aload_n 0, 1) := by decide +kernel
theorem d_G_replace_10 : decode b_G_replace 10 = .ok (.getfield 11, 3) := by decide +kernel
theorem d_G_replace_13 : decode b_G_replace 13 = .ok (.iload_n 1, 1) := by decide +kernel
theorem d_G_replace_14 : decode b_G_replace 14 = .ok (.aaload, 1) := by decide +kernel
theorem d_G_replace_15 : decode b_G_replace 15 = .ok (.invokevirtual 47, 3) := by decide +kernel
theorem d_G_replace_18 : decode b_G_replace 18 = .ok (.iconst 1, 1) := by decide +kernel
theorem d_G_replace_19 : decode b_G_replace 19 = .ok (.ireturn, 1) := by decide +kernel
def v_G_replace (u : gm_St) (x : Int32) : Bool := (if (v_G_isModule x) = true then true else false)
def s_G_replace (u : gm_St) (x : Int32) : gm_St := (if (v_G_isModule x) = true then (s_M_renew u x.toNatClampNeg) else u)
set_option maxRecDepth 100000 in
set_option maxHeartbeats 4000000 in
theorem c_G_replace {l : Launch} {D : va_G} {dk : Nat → ClassId} {a : Nat → Nat} {A : Nat → Prop} {lt : Nat} {u : gm_St} {x : Int32} : gm_I l D (gm_ty dk) (gm_W dk a) A lt y_G_replace b_G_replace 2 (some .boolean) rm_G_replace [.ref (a 0), .int x] u (gm_b (v_G_replace u x)) (s_G_replace u x) := by
  refine gm_enterZ (by decide) (Nat.le_of_ble_eq_true rfl) ?_
  intro p e s m args below meth c ls Q H locs hF hM hl hQ
  have hx := hF.1
  have hb := hF.2.1
  have hml := hF.2.2.1
  have hown := hF.2.2.2.1
  have hts := hF.2.2.2.2.1
  have hl : lv_has ls 2 [(0, .ref (a 0)), (1, .int x)] := hl
  refine lv_iload_n hx hb d_G_replace_0 rfl (lv_at hl 1 rfl) ?_
  refine gm_Si (As := [.int x]) (rest := []) hF hM (c_G_isModule (u := u) (x := x) ) (gk_G_39 hts ⟨by decide, by decide⟩) rfl hl.1 rfl (Nat.le_of_ble_eq_true rfl) ⟨Nat.zero_le _, Nat.zero_le _⟩ d_G_replace_1 (fun H locs hM => ?_)
  refine gm_ifn (b := (v_G_isModule x)) (tgt := 9) hx hb d_G_replace_4 rfl (fun h1 => ?_) (fun h1 => ?_)
  · have hm_x := (gm_isM h1).1
    have ex_x := (gm_isM h1).2
    refine lv_aload_n hx hb d_G_replace_9 rfl (lv_at hl 0 rfl) ?_
    refine gf_G_11 hF hM d_G_replace_10 ?_
    refine lv_iload_n hx hb d_G_replace_13 rfl (lv_at hl 1 rfl) ?_
    refine ga_mods (k := x.toNatClampNeg) hF hM ex_x (by first | omega | exact Nat.mod_lt _ (by decide)) d_G_replace_14 ?_
    refine gm_Vv (As := []) (rest := []) hF hM (c_M_renew (u := u) (m := x.toNatClampNeg) (by omega)) (gk_G_47 hts ⟨by decide, by decide⟩) (gv_M hF hM (by omega) rfl) rfl hl.1 rfl (Nat.le_of_ble_eq_true rfl) ⟨Nat.zero_le _, Nat.zero_le _⟩ d_G_replace_15 (fun H locs hM => ?_)
    refine lv_iconst (v := 1) hx hb d_G_replace_18 (by decide) ?_
    have hq := hQ H locs 19 ls
    simp only [v_G_replace, s_G_replace, if_pos h1] at hq
    exact hq hM d_G_replace_19
  · refine lv_iconst (v := 0) hx hb d_G_replace_7 (by decide) ?_
    have hq := hQ H locs 8 ls
    simp only [v_G_replace, s_G_replace, if_neg (gm_nf h1)] at hq
    exact hq hM d_G_replace_8
theorem d_G_works_0 : decode b_G_works 0 = .ok (.iload_n 1, 1) := by decide +kernel
theorem d_G_works_1 : decode b_G_works 1 = .ok (.invokestatic 39, 3) := by decide +kernel
theorem d_G_works_4 : decode b_G_works 4 = .ok (.ifCond .eq 19, 3) := by decide +kernel
theorem d_G_works_7 : decode b_G_works 7 = .ok (.aload_n 0, 1) := by decide +kernel
theorem d_G_works_8 : decode b_G_works 8 = .ok (.getfield 11, 3) := by decide +kernel
theorem d_G_works_11 : decode b_G_works 11 = .ok (.iload_n 1, 1) := by decide +kernel
theorem d_G_works_12 : decode b_G_works 12 = .ok (.aaload, 1) := by decide +kernel
theorem d_G_works_13 : decode b_G_works 13 = .ok (.getfield 50, 3) := by decide +kernel
theorem d_G_works_16 : decode b_G_works 16 = .ok (.ifCond .eq 7, 3) := by decide +kernel
theorem d_G_works_19 : decode b_G_works 19 = .ok (.iconst 1, 1) := by decide +kernel
theorem d_G_works_20 : decode b_G_works 20 = .ok (.goto 4, 3) := by decide +kernel
theorem d_G_works_23 : decode b_G_works 23 = .ok (.iconst 0, 1) := by decide +kernel
theorem d_G_works_24 : decode b_G_works 24 = .ok (.ireturn, 1) := by decide +kernel
def v_G_works (u : gm_St) (x : Int32) : Bool := (if (v_G_isModule x) = true then (if (u.1 2 x.toNatClampNeg) = true then true else false) else false)
set_option maxRecDepth 100000 in
set_option maxHeartbeats 4000000 in
theorem c_G_works {l : Launch} {D : va_G} {dk : Nat → ClassId} {a : Nat → Nat} {A : Nat → Prop} {lt : Nat} {u : gm_St} {x : Int32} : gm_I l D (gm_ty dk) (gm_W dk a) A lt y_G_works b_G_works 2 (some .boolean) rm_G_works [.ref (a 0), .int x] u (gm_b (v_G_works u x)) u := by
  refine gm_enterZ (by decide) (Nat.le_of_ble_eq_true rfl) ?_
  intro p e s m args below meth c ls Q H locs hF hM hl hQ
  have hx := hF.1
  have hb := hF.2.1
  have hml := hF.2.2.1
  have hown := hF.2.2.2.1
  have hts := hF.2.2.2.2.1
  have hl : lv_has ls 2 [(0, .ref (a 0)), (1, .int x)] := hl
  refine lv_iload_n hx hb d_G_works_0 rfl (lv_at hl 1 rfl) ?_
  refine gm_Si (As := [.int x]) (rest := []) hF hM (c_G_isModule (u := u) (x := x) ) (gk_G_39 hts ⟨by decide, by decide⟩) rfl hl.1 rfl (Nat.le_of_ble_eq_true rfl) ⟨Nat.zero_le _, Nat.zero_le _⟩ d_G_works_1 (fun H locs hM => ?_)
  have J2 : ∀ (ls : Array Slot) (H : Heap) (locs : List Loc), lv_has ls 2 [(0, .ref (a 0)), (1, .int x)] → gm_M D A s (gm_W dk a) u H locs → W p l e rm_G_works s m args below meth c H locs 0 0 Q (F0 m 24 ls [.int (gm_b (if (v_G_isModule x) = true then (if (u.1 2 x.toNatClampNeg) = true then true else false) else false))]) := by
    intro ls H locs hl hM
    have hq := hQ H locs 24 ls
    simp only [v_G_works] at hq
    exact hq hM d_G_works_24
  refine gm_ifz (b := (v_G_isModule x)) (tgt := 23) hx hb d_G_works_4 rfl (fun h1 => ?_) (fun h1 => ?_)
  · refine lv_iconst (v := 0) hx hb d_G_works_23 (by decide) ?_
    have hJ := J2
    try simp only [if_neg (gm_nf h1)] at hJ
    exact hJ ls H locs hl hM
  · have hm_x := (gm_isM h1).1
    have ex_x := (gm_isM h1).2
    refine lv_aload_n hx hb d_G_works_7 rfl (lv_at hl 0 rfl) ?_
    refine gf_G_11 hF hM d_G_works_8 ?_
    refine lv_iload_n hx hb d_G_works_11 rfl (lv_at hl 1 rfl) ?_
    refine ga_mods (k := x.toNatClampNeg) hF hM ex_x (by first | omega | exact Nat.mod_lt _ (by decide)) d_G_works_12 ?_
    refine gf_G_50 hF hM (by omega) d_G_works_13 ?_
    refine gm_ifz (b := (u.1 2 x.toNatClampNeg)) (tgt := 23) hx hb d_G_works_16 rfl (fun h3 => ?_) (fun h3 => ?_)
    · refine lv_iconst (v := 0) hx hb d_G_works_23 (by decide) ?_
      have hJ := J2
      try simp only [if_pos h1, if_neg (gm_nf h3)] at hJ
      exact hJ ls H locs hl hM
    · refine lv_iconst (v := 1) hx hb d_G_works_19 (by decide) ?_
      refine lv_goto (tgt := 24) hx hb d_G_works_20 rfl ?_
      have hJ := J2
      try simp only [if_pos h1, if_pos h3] at hJ
      exact hJ ls H locs hl hM
theorem d_G_valvesOfEither_0 : decode b_G_valvesOfEither 0 = .ok (.iconst 0, 1) := by decide +kernel
theorem d_G_valvesOfEither_1 : decode b_G_valvesOfEither 1 = .ok (.istore_n 1, 1) := by decide +kernel
theorem d_G_valvesOfEither_2 : decode b_G_valvesOfEither 2 = .ok (.iconst 0, 1) := by decide +kernel
theorem d_G_valvesOfEither_3 : decode b_G_valvesOfEither 3 = .ok (.istore_n 2, 1) := by decide +kernel
theorem d_G_valvesOfEither_4 : decode b_G_valvesOfEither 4 = .ok (.iload_n 2, 1) := by decide +kernel
theorem d_G_valvesOfEither_5 : decode b_G_valvesOfEither 5 = .ok (.iconst 2, 1) := by decide +kernel
theorem d_G_valvesOfEither_6 : decode b_G_valvesOfEither 6 = .ok (.if_icmp .ge 21, 3) := by decide +kernel
theorem d_G_valvesOfEither_9 : decode b_G_valvesOfEither 9 = .ok (.iload_n 1, 1) := by decide +kernel
theorem d_G_valvesOfEither_10 : decode b_G_valvesOfEither 10 = .ok (.aload_n 0, 1) := by decide +kernel
theorem d_G_valvesOfEither_11 : decode b_G_valvesOfEither 11 = .ok (.getfield 11, 3) := by decide +kernel
theorem d_G_valvesOfEither_14 : decode b_G_valvesOfEither 14 = .ok (.iload_n 2, 1) := by decide +kernel
theorem d_G_valvesOfEither_15 : decode b_G_valvesOfEither 15 = .ok (.aaload, 1) := by decide +kernel
theorem d_G_valvesOfEither_16 : decode b_G_valvesOfEither 16 = .ok (.getfield 57, 3) := by decide +kernel
theorem d_G_valvesOfEither_19 : decode b_G_valvesOfEither 19 = .ok (.ior, 1) := by decide +kernel
theorem d_G_valvesOfEither_20 : decode b_G_valvesOfEither 20 = .ok (.istore_n 1, 1) := by decide +kernel
theorem d_G_valvesOfEither_21 : decode b_G_valvesOfEither 21 = .ok (.iinc 2 1, 3) := by decide +kernel
theorem d_G_valvesOfEither_24 : decode b_G_valvesOfEither 24 = .ok (.goto (-20), 3) := by decide +kernel
theorem d_G_valvesOfEither_27 : decode b_G_valvesOfEither 27 = .ok (.iload_n 1, 1) := by decide +kernel
theorem d_G_valvesOfEither_28 : decode b_G_valvesOfEither 28 = .ok (.ireturn, 1) := by decide +kernel
def lp_G_vE (u : gm_St) : Nat → Nat → Int32 → Int32
  | 0, _, x => x
  | k + 1, i, x => lp_G_vE u k (i + 1) (x ||| (u.2.1 3 i))
def v_G_valvesOfEither (u : gm_St) : Int32 := (lp_G_vE u 2 0 (0 : Int32))
set_option maxRecDepth 100000 in
set_option maxHeartbeats 4000000 in
theorem c_G_valvesOfEither {l : Launch} {D : va_G} {dk : Nat → ClassId} {a : Nat → Nat} {A : Nat → Prop} {lt : Nat} {u : gm_St} : gm_I l D (gm_ty dk) (gm_W dk a) A lt y_G_valvesOfEither b_G_valvesOfEither 3 (some .int) rm_G_valvesOfEither [.ref (a 0)] u (v_G_valvesOfEither u) u := by
  refine gm_enterI (by decide) (Nat.le_of_ble_eq_true rfl) ?_
  intro p e s m args below meth c ls Q H locs hF hM hl hQ
  have hx := hF.1
  have hb := hF.2.1
  have hml := hF.2.2.1
  have hown := hF.2.2.2.1
  have hts := hF.2.2.2.2.1
  have hl : lv_has ls 3 [(0, .ref (a 0))] := hl
  refine lv_iconst (v := 0) hx hb d_G_valvesOfEither_0 (by decide) ?_
  refine lv_istore_n (lv' := [(1, .int (0 : Int32)), (0, .ref (a 0))]) hx hb d_G_valvesOfEither_1 rfl hl (by decide) rfl (fun ls hl => ?_)
  refine lv_iconst (v := 0) hx hb d_G_valvesOfEither_2 (by decide) ?_
  refine lv_istore_n (lv' := [(2, .int (0 : Int32)), (1, .int (0 : Int32)), (0, .ref (a 0))]) hx hb d_G_valvesOfEither_3 rfl hl (by decide) rfl (fun ls hl => ?_)
  have L1 : ∀ (k1 i1 : Nat) (x1 : Int32) (ls : Array Slot) (H : Heap) (locs : List Loc), i1 + k1 = 2 → lv_has ls 3 [(2, .int (nI i1)), (1, .int x1), (0, .ref (a 0))] → gm_M D A s (gm_W dk a) u H locs → (∀ (ls : Array Slot) (H : Heap) (locs : List Loc), lv_has ls 3 [(2, .int (nI 2)), (1, .int (lp_G_vE u k1 i1 x1)), (0, .ref (a 0))] → gm_M D A s (gm_W dk a) u H locs → W p l e rm_G_valvesOfEither s m args below meth c H locs 0 0 Q (F0 m 27 ls [])) → W p l e rm_G_valvesOfEither s m args below meth c H locs 0 0 Q (F0 m 4 ls []) := by
    intro k1
    induction k1 with
    | zero =>
      intro i1 x1 ls H locs hk1 hl hM kk
      obtain rfl : i1 = 2 := by omega
      refine lv_iload_n hx hb d_G_valvesOfEither_4 rfl (lv_at hl 0 rfl) ?_
      refine lv_iconst (v := 2) hx hb d_G_valvesOfEither_5 (by decide) ?_
      refine lv_icmp_ge (tgt := 27) hx hb d_G_valvesOfEither_6 rfl (fun _ => ?_) (fun h => absurd (by decide) h)
      exact kk ls H locs hl hM
    | succ k1 ih =>
      intro i1 x1 ls H locs hk1 hl hM kk
      refine lv_iload_n hx hb d_G_valvesOfEither_4 rfl (lv_at hl 0 rfl) ?_
      refine lv_iconst (v := 2) hx hb d_G_valvesOfEither_5 (by decide) ?_
      refine lv_icmp_ge (tgt := 27) hx hb d_G_valvesOfEither_6 rfl (fun h => absurd h (nI_ge (a := i1) (b := 2) (by omega) (by first | decide | omega))) (fun _ => ?_)
      refine lv_iload_n hx hb d_G_valvesOfEither_9 rfl (lv_at hl 1 rfl) ?_
      refine lv_aload_n hx hb d_G_valvesOfEither_10 rfl (lv_at hl 2 rfl) ?_
      refine gf_G_11 hF hM d_G_valvesOfEither_11 ?_
      refine lv_iload_n hx hb d_G_valvesOfEither_14 rfl (lv_at hl 0 rfl) ?_
      refine ga_mods (k := i1) hF hM rfl (by first | omega | exact Nat.mod_lt _ (by decide)) d_G_valvesOfEither_15 ?_
      refine gf_G_57 hF hM (by omega) d_G_valvesOfEither_16 ?_
      refine lv_ior hx hb d_G_valvesOfEither_19 ?_
      refine lv_istore_n (lv' := [(1, .int (x1 ||| (u.2.1 3 i1))), (2, .int (nI i1)), (0, .ref (a 0))]) hx hb d_G_valvesOfEither_20 rfl hl (by decide) rfl (fun ls hl => ?_)
      refine lv_iinc (k := 1) (v := (nI (i1 + 1))) (lv' := [(2, .int (nI (i1 + 1))), (1, .int (x1 ||| (u.2.1 3 i1))), (0, .ref (a 0))]) hx hb d_G_valvesOfEither_21 hl rfl (nI_1 _) (by decide) rfl (fun ls hl => ?_)
      refine lv_goto (tgt := 4) hx hb d_G_valvesOfEither_24 rfl ?_
      have hK := kk
      simp only [lp_G_vE] at hK
      exact ih (i1 + 1) (x1 ||| (u.2.1 3 i1)) ls H locs (by omega) hl hM hK
  refine L1 2 0 (0 : Int32) ls H locs (by omega) hl hM (fun ls H locs hl hM => ?_)
  refine lv_iload_n hx hb d_G_valvesOfEither_27 rfl (lv_at hl 1 rfl) ?_
  have hq := hQ H locs 28 ls
  simp only [v_G_valvesOfEither] at hq
  exact hq hM d_G_valvesOfEither_28
theorem d_G_valves_0 : decode b_G_valves 0 = .ok (.iload_n 1, 1) := by decide +kernel
theorem d_G_valves_1 : decode b_G_valves 1 = .ok (.iconst (-1), 1) := by decide +kernel
theorem d_G_valves_2 : decode b_G_valves 2 = .ok (.if_icmp .ne 8, 3) := by decide +kernel
theorem d_G_valves_5 : decode b_G_valves 5 = .ok (.aload_n 0, 1) := by decide +kernel
theorem d_G_valves_6 : decode b_G_valves 6 = .ok (.invokevirtual 53, 3) := by decide +kernel
theorem d_G_valves_9 : decode b_G_valves 9 = .ok (.ireturn, 1) := by decide +kernel
theorem d_G_valves_10 : decode b_G_valves 10 = .ok (.iload_n 1, 1) := by decide +kernel
theorem d_G_valves_11 : decode b_G_valves 11 = .ok (.invokestatic 39, 3) := by decide +kernel
theorem d_G_valves_14 : decode b_G_valves 14 = .ok (.ifCond .eq 15, 3) := by decide +kernel
theorem d_G_valves_17 : decode b_G_valves 17 = .ok (.aload_n 0, 1) := by decide +kernel
theorem d_G_valves_18 : decode b_G_valves 18 = .ok (.getfield 11, 3) := by decide +kernel
theorem d_G_valves_21 : decode b_G_valves 21 = .ok (.iload_n 1, 1) := by decide +kernel
theorem d_G_valves_22 : decode b_G_valves 22 = .ok (.aaload, 1) := by decide +kernel
theorem d_G_valves_23 : decode b_G_valves 23 = .ok (.getfield 57, 3) := by decide +kernel
theorem d_G_valves_26 : decode b_G_valves 26 = .ok (.goto 4, 3) := by decide +kernel
theorem d_G_valves_29 : decode b_G_valves 29 = .ok (.iconst (-1), 1) := by decide +kernel
theorem d_G_valves_30 : decode b_G_valves 30 = .ok (.ireturn, 1) := by decide +kernel
def v_G_valves (u : gm_St) (x : Int32) : Int32 := (if x = (-1 : Int32) then (v_G_valvesOfEither u ) else (if (v_G_isModule x) = true then (u.2.1 3 x.toNatClampNeg) else (-1 : Int32)))
set_option maxRecDepth 100000 in
set_option maxHeartbeats 4000000 in
theorem c_G_valves {l : Launch} {D : va_G} {dk : Nat → ClassId} {a : Nat → Nat} {A : Nat → Prop} {lt : Nat} {u : gm_St} {x : Int32} : gm_I l D (gm_ty dk) (gm_W dk a) A lt y_G_valves b_G_valves 2 (some .int) rm_G_valves [.ref (a 0), .int x] u (v_G_valves u x) u := by
  refine gm_enterI (by decide) (Nat.le_of_ble_eq_true rfl) ?_
  intro p e s m args below meth c ls Q H locs hF hM hl hQ
  have hx := hF.1
  have hb := hF.2.1
  have hml := hF.2.2.1
  have hown := hF.2.2.2.1
  have hts := hF.2.2.2.2.1
  have hl : lv_has ls 2 [(0, .ref (a 0)), (1, .int x)] := hl
  refine lv_iload_n hx hb d_G_valves_0 rfl (lv_at hl 1 rfl) ?_
  refine lv_iconst (v := -1) hx hb d_G_valves_1 (by decide) ?_
  refine lv_icmp_ne (tgt := 10) hx hb d_G_valves_2 rfl (fun h1 => ?_) (fun h1 => ?_)
  · refine lv_iload_n hx hb d_G_valves_10 rfl (lv_at hl 1 rfl) ?_
    refine gm_Si (As := [.int x]) (rest := []) hF hM (c_G_isModule (u := u) (x := x) ) (gk_G_39 hts ⟨by decide, by decide⟩) rfl hl.1 rfl (Nat.le_of_ble_eq_true rfl) ⟨Nat.zero_le _, Nat.zero_le _⟩ d_G_valves_11 (fun H locs hM => ?_)
    have J3 : ∀ (ls : Array Slot) (H : Heap) (locs : List Loc), lv_has ls 2 [(0, .ref (a 0)), (1, .int x)] → gm_M D A s (gm_W dk a) u H locs → W p l e rm_G_valves s m args below meth c H locs 0 0 Q (F0 m 30 ls [.int (if (v_G_isModule x) = true then (u.2.1 3 x.toNatClampNeg) else (-1 : Int32))]) := by
      intro ls H locs hl hM
      have hq := hQ H locs 30 ls
      simp only [v_G_valves, if_neg h1] at hq
      exact hq hM d_G_valves_30
    refine gm_ifz (b := (v_G_isModule x)) (tgt := 29) hx hb d_G_valves_14 rfl (fun h2 => ?_) (fun h2 => ?_)
    · refine lv_iconst (v := -1) hx hb d_G_valves_29 (by decide) ?_
      have hJ := J3
      try simp only [if_neg (gm_nf h2)] at hJ
      exact hJ ls H locs hl hM
    · have hm_x := (gm_isM h2).1
      have ex_x := (gm_isM h2).2
      refine lv_aload_n hx hb d_G_valves_17 rfl (lv_at hl 0 rfl) ?_
      refine gf_G_11 hF hM d_G_valves_18 ?_
      refine lv_iload_n hx hb d_G_valves_21 rfl (lv_at hl 1 rfl) ?_
      refine ga_mods (k := x.toNatClampNeg) hF hM ex_x (by first | omega | exact Nat.mod_lt _ (by decide)) d_G_valves_22 ?_
      refine gf_G_57 hF hM (by omega) d_G_valves_23 ?_
      refine lv_goto (tgt := 30) hx hb d_G_valves_26 rfl ?_
      have hJ := J3
      try simp only [if_pos h2] at hJ
      exact hJ ls H locs hl hM
  · refine lv_aload_n hx hb d_G_valves_5 rfl (lv_at hl 0 rfl) ?_
    refine gm_Vi (As := []) (rest := []) hF hM (c_G_valvesOfEither (u := u)  ) (gk_G_53 hts ⟨by decide, by decide⟩) (gv_G hF hM rfl) rfl hl.1 rfl (Nat.le_of_ble_eq_true rfl) ⟨Nat.zero_le _, Nat.zero_le _⟩ d_G_valves_6 (fun H locs hM => ?_)
    have hq := hQ H locs 9 ls
    simp only [v_G_valves, if_pos h1] at hq
    exact hq hM d_G_valves_9
theorem d_G_sensor_0 : decode b_G_sensor 0 = .ok (.iload_n 1, 1) := by decide +kernel
theorem d_G_sensor_1 : decode b_G_sensor 1 = .ok (.invokestatic 39, 3) := by decide +kernel
theorem d_G_sensor_4 : decode b_G_sensor 4 = .ok (.ifCond .eq 13, 3) := by decide +kernel
theorem d_G_sensor_7 : decode b_G_sensor 7 = .ok (.iload_n 2, 1) := by decide +kernel
theorem d_G_sensor_8 : decode b_G_sensor 8 = .ok (.ifCond .lt 9, 3) := by decide +kernel
theorem d_G_sensor_11 : decode b_G_sensor 11 = .ok (.iload_n 2, 1) := by decide +kernel
theorem d_G_sensor_12 : decode b_G_sensor 12 = .ok (.bipush 6, 2) := by decide +kernel
theorem d_G_sensor_14 : decode b_G_sensor 14 = .ok (.if_icmp .lt 5, 3) := by decide +kernel
theorem d_G_sensor_17 : decode b_G_sensor 17 = .ok (.iconst (-1), 1) := by decide +kernel
theorem d_G_sensor_18 : decode b_G_sensor 18 = .ok (.ireturn, 1) := by decide +kernel
theorem d_G_sensor_19 : decode b_G_sensor 19 = .ok (.aload_n 0, 1) := by decide +kernel
theorem d_G_sensor_20 : decode b_G_sensor 20 = .ok (.getfield 11, 3) := by decide +kernel
theorem d_G_sensor_23 : decode b_G_sensor 23 = .ok (.iload_n 1, 1) := by decide +kernel
theorem d_G_sensor_24 : decode b_G_sensor 24 = .ok (.aaload, 1) := by decide +kernel
theorem d_G_sensor_25 : decode b_G_sensor 25 = .ok (.getfield 60, 3) := by decide +kernel
theorem d_G_sensor_28 : decode b_G_sensor 28 = .ok (.iload_n 2, 1) := by decide +kernel
theorem d_G_sensor_29 : decode b_G_sensor 29 = .ok (.aaload, 1) := by decide +kernel
theorem d_G_sensor_30 : decode b_G_sensor 30 = .ok (.invokevirtual 64, 3) := by decide +kernel
theorem d_G_sensor_33 : decode b_G_sensor 33 = .ok (.ireturn, 1) := by decide +kernel
def v_G_sensor (u : gm_St) (x : Int32) (y : Int32) : Int32 := (if (v_G_isModule x) = true then (if y < 0 then (-1 : Int32) else (if y < (6 : Int32) then (v_S_summary u (6 * x.toNatClampNeg + y.toNatClampNeg)) else (-1 : Int32))) else (-1 : Int32))
set_option maxRecDepth 100000 in
set_option maxHeartbeats 4000000 in
theorem c_G_sensor {l : Launch} {D : va_G} {dk : Nat → ClassId} {a : Nat → Nat} {A : Nat → Prop} {lt : Nat} {u : gm_St} {x : Int32} {y : Int32} : gm_I l D (gm_ty dk) (gm_W dk a) A lt y_G_sensor b_G_sensor 3 (some .int) rm_G_sensor [.ref (a 0), .int x, .int y] u (v_G_sensor u x y) u := by
  refine gm_enterI (by decide) (Nat.le_of_ble_eq_true rfl) ?_
  intro p e s m args below meth c ls Q H locs hF hM hl hQ
  have hx := hF.1
  have hb := hF.2.1
  have hml := hF.2.2.1
  have hown := hF.2.2.2.1
  have hts := hF.2.2.2.2.1
  have hl : lv_has ls 3 [(0, .ref (a 0)), (1, .int x), (2, .int y)] := hl
  refine lv_iload_n hx hb d_G_sensor_0 rfl (lv_at hl 1 rfl) ?_
  refine gm_Si (As := [.int x]) (rest := []) hF hM (c_G_isModule (u := u) (x := x) ) (gk_G_39 hts ⟨by decide, by decide⟩) rfl hl.1 rfl (Nat.le_of_ble_eq_true rfl) ⟨Nat.zero_le _, Nat.zero_le _⟩ d_G_sensor_1 (fun H locs hM => ?_)
  refine gm_ifz (b := (v_G_isModule x)) (tgt := 17) hx hb d_G_sensor_4 rfl (fun h1 => ?_) (fun h1 => ?_)
  · refine lv_iconst (v := -1) hx hb d_G_sensor_17 (by decide) ?_
    have hq := hQ H locs 18 ls
    simp only [v_G_sensor, if_neg (gm_nf h1)] at hq
    exact hq hM d_G_sensor_18
  · have hm_x := (gm_isM h1).1
    have ex_x := (gm_isM h1).2
    refine lv_iload_n hx hb d_G_sensor_7 rfl (lv_at hl 2 rfl) ?_
    refine lv_if_lt (tgt := 17) hx hb d_G_sensor_8 rfl (fun h2 => ?_) (fun h2 => ?_)
    · refine lv_iconst (v := -1) hx hb d_G_sensor_17 (by decide) ?_
      have hq := hQ H locs 18 ls
      simp only [v_G_sensor, if_pos h1, if_pos h2] at hq
      exact hq hM d_G_sensor_18
    · refine lv_iload_n hx hb d_G_sensor_11 rfl (lv_at hl 2 rfl) ?_
      refine lv_bipush (v := 6) hx hb d_G_sensor_12 (by decide) ?_
      refine lv_icmp_lt (tgt := 19) hx hb d_G_sensor_14 rfl (fun h3 => ?_) (fun h3 => ?_)
      · have hq_y := gm_ix (lo := 0) (n := 6) h2 h3 (by omega) (by omega)
        have hm_y := hq_y.1
        have ex_y := hq_y.2
        refine lv_aload_n hx hb d_G_sensor_19 rfl (lv_at hl 0 rfl) ?_
        refine gf_G_11 hF hM d_G_sensor_20 ?_
        refine lv_iload_n hx hb d_G_sensor_23 rfl (lv_at hl 1 rfl) ?_
        refine ga_mods (k := x.toNatClampNeg) hF hM ex_x (by first | omega | exact Nat.mod_lt _ (by decide)) d_G_sensor_24 ?_
        refine gf_G_60 hF hM (by omega) d_G_sensor_25 ?_
        refine lv_iload_n hx hb d_G_sensor_28 rfl (lv_at hl 2 rfl) ?_
        refine ga_sens (k := y.toNatClampNeg) hF hM (by omega) ex_y (by first | omega | exact Nat.mod_lt _ (by decide)) d_G_sensor_29 ?_
        refine gm_Vi (As := []) (rest := []) hF hM (c_S_summary (u := u) (i := (6 * x.toNatClampNeg + y.toNatClampNeg)) (by omega)) (gk_G_64 hts ⟨by decide, by decide⟩) (gv_S hF hM (by omega) rfl) rfl hl.1 rfl (Nat.le_of_ble_eq_true rfl) ⟨Nat.zero_le _, Nat.zero_le _⟩ d_G_sensor_30 (fun H locs hM => ?_)
        have hq := hQ H locs 33 ls
        simp only [v_G_sensor, if_pos h1, if_neg h2, if_pos h3] at hq
        exact hq hM d_G_sensor_33
      · refine lv_iconst (v := -1) hx hb d_G_sensor_17 (by decide) ?_
        have hq := hQ H locs 18 ls
        simp only [v_G_sensor, if_pos h1, if_neg h2, if_neg h3] at hq
        exact hq hM d_G_sensor_18
theorem d_G_anomalies_0 : decode b_G_anomalies 0 = .ok (.iload_n 1, 1) := by decide +kernel
theorem d_G_anomalies_1 : decode b_G_anomalies 1 = .ok (.invokestatic 39, 3) := by decide +kernel
theorem d_G_anomalies_4 : decode b_G_anomalies 4 = .ok (.ifCond .eq 15, 3) := by decide +kernel
theorem d_G_anomalies_7 : decode b_G_anomalies 7 = .ok (.aload_n 0, 1) := by decide +kernel
theorem d_G_anomalies_8 : decode b_G_anomalies 8 = .ok (.getfield 11, 3) := by decide +kernel
theorem d_G_anomalies_11 : decode b_G_anomalies 11 = .ok (.iload_n 1, 1) := by decide +kernel
theorem d_G_anomalies_12 : decode b_G_anomalies 12 = .ok (.aaload, 1) := by decide +kernel
theorem d_G_anomalies_13 : decode b_G_anomalies 13 = .ok (.getfield 69, 3) := by decide +kernel
theorem d_G_anomalies_16 : decode b_G_anomalies 16 = .ok (.goto 4, 3) := by decide +kernel
theorem d_G_anomalies_19 : decode b_G_anomalies 19 = .ok (.iconst (-1), 1) := by decide +kernel
theorem d_G_anomalies_20 : decode b_G_anomalies 20 = .ok (.ireturn, 1) := by decide +kernel
def v_G_anomalies (u : gm_St) (x : Int32) : Int32 := (if (v_G_isModule x) = true then (u.2.1 5 x.toNatClampNeg) else (-1 : Int32))
set_option maxRecDepth 100000 in
set_option maxHeartbeats 4000000 in
theorem c_G_anomalies {l : Launch} {D : va_G} {dk : Nat → ClassId} {a : Nat → Nat} {A : Nat → Prop} {lt : Nat} {u : gm_St} {x : Int32} : gm_I l D (gm_ty dk) (gm_W dk a) A lt y_G_anomalies b_G_anomalies 2 (some .int) rm_G_anomalies [.ref (a 0), .int x] u (v_G_anomalies u x) u := by
  refine gm_enterI (by decide) (Nat.le_of_ble_eq_true rfl) ?_
  intro p e s m args below meth c ls Q H locs hF hM hl hQ
  have hx := hF.1
  have hb := hF.2.1
  have hml := hF.2.2.1
  have hown := hF.2.2.2.1
  have hts := hF.2.2.2.2.1
  have hl : lv_has ls 2 [(0, .ref (a 0)), (1, .int x)] := hl
  refine lv_iload_n hx hb d_G_anomalies_0 rfl (lv_at hl 1 rfl) ?_
  refine gm_Si (As := [.int x]) (rest := []) hF hM (c_G_isModule (u := u) (x := x) ) (gk_G_39 hts ⟨by decide, by decide⟩) rfl hl.1 rfl (Nat.le_of_ble_eq_true rfl) ⟨Nat.zero_le _, Nat.zero_le _⟩ d_G_anomalies_1 (fun H locs hM => ?_)
  have J2 : ∀ (ls : Array Slot) (H : Heap) (locs : List Loc), lv_has ls 2 [(0, .ref (a 0)), (1, .int x)] → gm_M D A s (gm_W dk a) u H locs → W p l e rm_G_anomalies s m args below meth c H locs 0 0 Q (F0 m 20 ls [.int (if (v_G_isModule x) = true then (u.2.1 5 x.toNatClampNeg) else (-1 : Int32))]) := by
    intro ls H locs hl hM
    have hq := hQ H locs 20 ls
    simp only [v_G_anomalies] at hq
    exact hq hM d_G_anomalies_20
  refine gm_ifz (b := (v_G_isModule x)) (tgt := 19) hx hb d_G_anomalies_4 rfl (fun h1 => ?_) (fun h1 => ?_)
  · refine lv_iconst (v := -1) hx hb d_G_anomalies_19 (by decide) ?_
    have hJ := J2
    try simp only [if_neg (gm_nf h1)] at hJ
    exact hJ ls H locs hl hM
  · have hm_x := (gm_isM h1).1
    have ex_x := (gm_isM h1).2
    refine lv_aload_n hx hb d_G_anomalies_7 rfl (lv_at hl 0 rfl) ?_
    refine gf_G_11 hF hM d_G_anomalies_8 ?_
    refine lv_iload_n hx hb d_G_anomalies_11 rfl (lv_at hl 1 rfl) ?_
    refine ga_mods (k := x.toNatClampNeg) hF hM ex_x (by first | omega | exact Nat.mod_lt _ (by decide)) d_G_anomalies_12 ?_
    refine gf_G_69 hF hM (by omega) d_G_anomalies_13 ?_
    refine lv_goto (tgt := 20) hx hb d_G_anomalies_16 rfl ?_
    have hJ := J2
    try simp only [if_pos h1] at hJ
    exact hJ ls H locs hl hM
theorem d_G_running_0 : decode b_G_running 0 = .ok (.iload_n 1, 1) := by decide +kernel
theorem d_G_running_1 : decode b_G_running 1 = .ok (.invokestatic 39, 3) := by decide +kernel
theorem d_G_running_4 : decode b_G_running 4 = .ok (.ifCond .eq 15, 3) := by decide +kernel
theorem d_G_running_7 : decode b_G_running 7 = .ok (.iload_n 2, 1) := by decide +kernel
theorem d_G_running_8 : decode b_G_running 8 = .ok (.bipush 6, 2) := by decide +kernel
theorem d_G_running_10 : decode b_G_running 10 = .ok (.if_icmp .lt 9, 3) := by decide +kernel
theorem d_G_running_13 : decode b_G_running 13 = .ok (.iload_n 2, 1) := by decide +kernel
theorem d_G_running_14 : decode b_G_running 14 = .ok (.bipush 16, 2) := by decide +kernel
theorem d_G_running_16 : decode b_G_running 16 = .ok (.if_icmp .lt 5, 3) := by decide +kernel
theorem d_G_running_19 : decode b_G_running 19 = .ok (.iconst (-1), 1) := by decide +kernel
theorem d_G_running_20 : decode b_G_running 20 = .ok (.ireturn, 1) := by decide +kernel
theorem d_G_running_21 : decode b_G_running 21 = .ok (.aload_n 0, 1) := by decide +kernel
theorem d_G_running_22 : decode b_G_running 22 = .ok (.getfield 11, 3) := by decide +kernel
theorem d_G_running_25 : decode b_G_running 25 = .ok (.iload_n 1, 1) := by decide +kernel
theorem d_G_running_26 : decode b_G_running 26 = .ok (.aaload, 1) := by decide +kernel
theorem d_G_running_27 : decode b_G_running 27 = .ok (.getfield 72, 3) := by decide +kernel
theorem d_G_running_30 : decode b_G_running 30 = .ok (.iload_n 2, 1) := by decide +kernel
theorem d_G_running_31 : decode b_G_running 31 = .ok (.iaload, 1) := by decide +kernel
theorem d_G_running_32 : decode b_G_running 32 = .ok (.ireturn, 1) := by decide +kernel
def v_G_running (u : gm_St) (x : Int32) (y : Int32) : Int32 := (if (v_G_isModule x) = true then (if y < (6 : Int32) then (-1 : Int32) else (if y < (16 : Int32) then (u.2.1 (1 + x.toNatClampNeg) y.toNatClampNeg) else (-1 : Int32))) else (-1 : Int32))
set_option maxRecDepth 100000 in
set_option maxHeartbeats 4000000 in
theorem c_G_running {l : Launch} {D : va_G} {dk : Nat → ClassId} {a : Nat → Nat} {A : Nat → Prop} {lt : Nat} {u : gm_St} {x : Int32} {y : Int32} : gm_I l D (gm_ty dk) (gm_W dk a) A lt y_G_running b_G_running 3 (some .int) rm_G_running [.ref (a 0), .int x, .int y] u (v_G_running u x y) u := by
  refine gm_enterI (by decide) (Nat.le_of_ble_eq_true rfl) ?_
  intro p e s m args below meth c ls Q H locs hF hM hl hQ
  have hx := hF.1
  have hb := hF.2.1
  have hml := hF.2.2.1
  have hown := hF.2.2.2.1
  have hts := hF.2.2.2.2.1
  have hl : lv_has ls 3 [(0, .ref (a 0)), (1, .int x), (2, .int y)] := hl
  refine lv_iload_n hx hb d_G_running_0 rfl (lv_at hl 1 rfl) ?_
  refine gm_Si (As := [.int x]) (rest := []) hF hM (c_G_isModule (u := u) (x := x) ) (gk_G_39 hts ⟨by decide, by decide⟩) rfl hl.1 rfl (Nat.le_of_ble_eq_true rfl) ⟨Nat.zero_le _, Nat.zero_le _⟩ d_G_running_1 (fun H locs hM => ?_)
  refine gm_ifz (b := (v_G_isModule x)) (tgt := 19) hx hb d_G_running_4 rfl (fun h1 => ?_) (fun h1 => ?_)
  · refine lv_iconst (v := -1) hx hb d_G_running_19 (by decide) ?_
    have hq := hQ H locs 20 ls
    simp only [v_G_running, if_neg (gm_nf h1)] at hq
    exact hq hM d_G_running_20
  · have hm_x := (gm_isM h1).1
    have ex_x := (gm_isM h1).2
    refine lv_iload_n hx hb d_G_running_7 rfl (lv_at hl 2 rfl) ?_
    refine lv_bipush (v := 6) hx hb d_G_running_8 (by decide) ?_
    refine lv_icmp_lt (tgt := 19) hx hb d_G_running_10 rfl (fun h2 => ?_) (fun h2 => ?_)
    · refine lv_iconst (v := -1) hx hb d_G_running_19 (by decide) ?_
      have hq := hQ H locs 20 ls
      simp only [v_G_running, if_pos h1, if_pos h2] at hq
      exact hq hM d_G_running_20
    · refine lv_iload_n hx hb d_G_running_13 rfl (lv_at hl 2 rfl) ?_
      refine lv_bipush (v := 16) hx hb d_G_running_14 (by decide) ?_
      refine lv_icmp_lt (tgt := 21) hx hb d_G_running_16 rfl (fun h3 => ?_) (fun h3 => ?_)
      · have hq_y := gm_ix (lo := 6) (n := 16) h2 h3 (by omega) (by omega)
        have hm_y := hq_y.1
        have ex_y := hq_y.2
        refine lv_aload_n hx hb d_G_running_21 rfl (lv_at hl 0 rfl) ?_
        refine gf_G_11 hF hM d_G_running_22 ?_
        refine lv_iload_n hx hb d_G_running_25 rfl (lv_at hl 1 rfl) ?_
        refine ga_mods (k := x.toNatClampNeg) hF hM ex_x (by first | omega | exact Nat.mod_lt _ (by decide)) d_G_running_26 ?_
        refine gf_G_72 hF hM (by omega) d_G_running_27 ?_
        refine lv_iload_n hx hb d_G_running_30 rfl (lv_at hl 2 rfl) ?_
        refine ga_cnt (k := y.toNatClampNeg) hF hM (by omega) ex_y (by first | omega | exact Nat.mod_lt _ (by decide)) d_G_running_31 ?_
        have hq := hQ H locs 32 ls
        simp only [v_G_running, if_pos h1, if_neg h2, if_pos h3] at hq
        exact hq hM d_G_running_32
      · refine lv_iconst (v := -1) hx hb d_G_running_19 (by decide) ?_
        have hq := hQ H locs 20 ls
        simp only [v_G_running, if_pos h1, if_neg h2, if_neg h3] at hq
        exact hq hM d_G_running_20
theorem d_G_lights_0 : decode b_G_lights 0 = .ok (.iconst 0, 1) := by decide +kernel
theorem d_G_lights_1 : decode b_G_lights 1 = .ok (.istore_n 1, 1) := by decide +kernel
theorem d_G_lights_2 : decode b_G_lights 2 = .ok (.iconst 0, 1) := by decide +kernel
theorem d_G_lights_3 : decode b_G_lights 3 = .ok (.istore_n 2, 1) := by decide +kernel
theorem d_G_lights_4 : decode b_G_lights 4 = .ok (.iload_n 2, 1) := by decide +kernel
theorem d_G_lights_5 : decode b_G_lights 5 = .ok (.iconst 2, 1) := by decide +kernel
theorem d_G_lights_6 : decode b_G_lights 6 = .ok (.if_icmp .ge 59, 3) := by decide +kernel
theorem d_G_lights_9 : decode b_G_lights 9 = .ok (.aload_n 0, 1) := by decide +kernel
theorem d_G_lights_10 : decode b_G_lights 10 = .ok (.getfield 11, 3) := by decide +kernel
theorem d_G_lights_13 : decode b_G_lights 13 = .ok (.iload_n 2, 1) := by decide +kernel
theorem d_G_lights_14 : decode b_G_lights 14 = .ok (.aaload, 1) := by decide +kernel
theorem d_G_lights_15 : decode b_G_lights 15 = .ok (.astore_n 3, 1) := by decide +kernel
theorem d_G_lights_16 : decode b_G_lights 16 = .ok (.aload_n 3, 1) := by decide +kernel
theorem d_G_lights_17 : decode b_G_lights 17 = .ok (.getfield 50, 3) := by decide +kernel
theorem d_G_lights_20 : decode b_G_lights 20 = .ok (.ifCond .eq 14, 3) := by decide +kernel
theorem d_G_lights_23 : decode b_G_lights 23 = .ok (.aload_n 3, 1) := by decide +kernel
theorem d_G_lights_24 : decode b_G_lights 24 = .ok (.invokevirtual 76, 3) := by decide +kernel
theorem d_G_lights_27 : decode b_G_lights 27 = .ok (.ifCond .eq 7, 3) := by decide +kernel
theorem d_G_lights_30 : decode b_G_lights 30 = .ok (.iload_n 1, 1) := by decide +kernel
theorem d_G_lights_31 : decode b_G_lights 31 = .ok (.iconst 1, 1) := by decide +kernel
theorem d_G_lights_32 : decode b_G_lights 32 = .ok (.ior, 1) := by decide +kernel
theorem d_G_lights_33 : decode b_G_lights 33 = .ok (.istore_n 1, 1) := by decide +kernel
theorem d_G_lights_34 : decode b_G_lights 34 = .ok (.aload_n 3, 1) := by decide +kernel
theorem d_G_lights_35 : decode b_G_lights 35 = .ok (.getfield 57, 3) := by decide +kernel
theorem d_G_lights_38 : decode b_G_lights 38 = .ok (.bipush 30, 2) := by decide +kernel
theorem d_G_lights_40 : decode b_G_lights 40 = .ok (.iand, 1) := by decide +kernel
theorem d_G_lights_41 : decode b_G_lights 41 = .ok (.ifCond .eq 7, 3) := by decide +kernel
theorem d_G_lights_44 : decode b_G_lights 44 = .ok (.iload_n 1, 1) := by decide +kernel
theorem d_G_lights_45 : decode b_G_lights 45 = .ok (.iconst 2, 1) := by decide +kernel
theorem d_G_lights_46 : decode b_G_lights 46 = .ok (.ior, 1) := by decide +kernel
theorem d_G_lights_47 : decode b_G_lights 47 = .ok (.istore_n 1, 1) := by decide +kernel
theorem d_G_lights_48 : decode b_G_lights 48 = .ok (.aload_n 3, 1) := by decide +kernel
theorem d_G_lights_49 : decode b_G_lights 49 = .ok (.getfield 69, 3) := by decide +kernel
theorem d_G_lights_52 : decode b_G_lights 52 = .ok (.ifCond .eq 7, 3) := by decide +kernel
theorem d_G_lights_55 : decode b_G_lights 55 = .ok (.iload_n 1, 1) := by decide +kernel
theorem d_G_lights_56 : decode b_G_lights 56 = .ok (.iconst 4, 1) := by decide +kernel
theorem d_G_lights_57 : decode b_G_lights 57 = .ok (.ior, 1) := by decide +kernel
theorem d_G_lights_58 : decode b_G_lights 58 = .ok (.istore_n 1, 1) := by decide +kernel
theorem d_G_lights_59 : decode b_G_lights 59 = .ok (.iinc 2 1, 3) := by decide +kernel
theorem d_G_lights_62 : decode b_G_lights 62 = .ok (.goto (-58), 3) := by decide +kernel
theorem d_G_lights_65 : decode b_G_lights 65 = .ok (.iload_n 1, 1) := by decide +kernel
theorem d_G_lights_66 : decode b_G_lights 66 = .ok (.ireturn, 1) := by decide +kernel
def lp_G_lights (u : gm_St) : Nat → Nat → Int32 → Int32
  | 0, _, x => x
  | k + 1, i, x => lp_G_lights u k (i + 1) (if (u.2.1 5 i) = 0 then (if ((u.2.1 3 i) &&& (30 : Int32)) = 0 then (if (u.1 2 i) = true then (if (v_M_gearsAreExtended u i) = true then (x ||| (1 : Int32)) else x) else x) else ((if (u.1 2 i) = true then (if (v_M_gearsAreExtended u i) = true then (x ||| (1 : Int32)) else x) else x) ||| (2 : Int32))) else ((if ((u.2.1 3 i) &&& (30 : Int32)) = 0 then (if (u.1 2 i) = true then (if (v_M_gearsAreExtended u i) = true then (x ||| (1 : Int32)) else x) else x) else ((if (u.1 2 i) = true then (if (v_M_gearsAreExtended u i) = true then (x ||| (1 : Int32)) else x) else x) ||| (2 : Int32))) ||| (4 : Int32)))
def v_G_lights (u : gm_St) : Int32 := (lp_G_lights u 2 0 (0 : Int32))
set_option maxRecDepth 100000 in
set_option maxHeartbeats 4000000 in
theorem c_G_lights {l : Launch} {D : va_G} {dk : Nat → ClassId} {a : Nat → Nat} {A : Nat → Prop} {lt : Nat} {u : gm_St} : gm_I l D (gm_ty dk) (gm_W dk a) A lt y_G_lights b_G_lights 4 (some .int) rm_G_lights [.ref (a 0)] u (v_G_lights u) u := by
  refine gm_enterI (by decide) (Nat.le_of_ble_eq_true rfl) ?_
  intro p e s m args below meth c ls Q H locs hF hM hl hQ
  have hx := hF.1
  have hb := hF.2.1
  have hml := hF.2.2.1
  have hown := hF.2.2.2.1
  have hts := hF.2.2.2.2.1
  have hl : lv_has ls 4 [(0, .ref (a 0))] := hl
  refine lv_iconst (v := 0) hx hb d_G_lights_0 (by decide) ?_
  refine lv_istore_n (lv' := [(1, .int (0 : Int32)), (0, .ref (a 0))]) hx hb d_G_lights_1 rfl hl (by decide) rfl (fun ls hl => ?_)
  refine lv_iconst (v := 0) hx hb d_G_lights_2 (by decide) ?_
  refine lv_istore_n (lv' := [(2, .int (0 : Int32)), (1, .int (0 : Int32)), (0, .ref (a 0))]) hx hb d_G_lights_3 rfl hl (by decide) rfl (fun ls hl => ?_)
  have L1 : ∀ (k1 i1 : Nat) (x1 : Int32) (ls : Array Slot) (H : Heap) (locs : List Loc), i1 + k1 = 2 → lv_has ls 4 [(2, .int (nI i1)), (1, .int x1), (0, .ref (a 0))] → gm_M D A s (gm_W dk a) u H locs → (∀ (ls : Array Slot) (H : Heap) (locs : List Loc), lv_has ls 4 [(2, .int (nI 2)), (1, .int (lp_G_lights u k1 i1 x1)), (0, .ref (a 0))] → gm_M D A s (gm_W dk a) u H locs → W p l e rm_G_lights s m args below meth c H locs 0 0 Q (F0 m 65 ls [])) → W p l e rm_G_lights s m args below meth c H locs 0 0 Q (F0 m 4 ls []) := by
    intro k1
    induction k1 with
    | zero =>
      intro i1 x1 ls H locs hk1 hl hM kk
      obtain rfl : i1 = 2 := by omega
      refine lv_iload_n hx hb d_G_lights_4 rfl (lv_at hl 0 rfl) ?_
      refine lv_iconst (v := 2) hx hb d_G_lights_5 (by decide) ?_
      refine lv_icmp_ge (tgt := 65) hx hb d_G_lights_6 rfl (fun _ => ?_) (fun h => absurd (by decide) h)
      exact kk ls H locs hl hM
    | succ k1 ih =>
      intro i1 x1 ls H locs hk1 hl hM kk
      refine lv_iload_n hx hb d_G_lights_4 rfl (lv_at hl 0 rfl) ?_
      refine lv_iconst (v := 2) hx hb d_G_lights_5 (by decide) ?_
      refine lv_icmp_ge (tgt := 65) hx hb d_G_lights_6 rfl (fun h => absurd h (nI_ge (a := i1) (b := 2) (by omega) (by first | decide | omega))) (fun _ => ?_)
      refine lv_aload_n hx hb d_G_lights_9 rfl (lv_at hl 2 rfl) ?_
      refine gf_G_11 hF hM d_G_lights_10 ?_
      refine lv_iload_n hx hb d_G_lights_13 rfl (lv_at hl 0 rfl) ?_
      refine ga_mods (k := i1) hF hM rfl (by first | omega | exact Nat.mod_lt _ (by decide)) d_G_lights_14 ?_
      refine lv_astore_n (lv' := [(3, .ref (a (3 + i1))), (2, .int (nI i1)), (1, .int x1), (0, .ref (a 0))]) hx hb d_G_lights_15 rfl hl (by decide) rfl (fun ls hl => ?_)
      refine lv_aload_n hx hb d_G_lights_16 rfl (lv_at hl 0 rfl) ?_
      refine gf_G_50 hF hM (by omega) d_G_lights_17 ?_
      have J3 : ∀ (ls : Array Slot) (H : Heap) (locs : List Loc), lv_has ls 4 [(0, .ref (a 0)), (1, .int (if (u.1 2 i1) = true then (if (v_M_gearsAreExtended u i1) = true then (x1 ||| (1 : Int32)) else x1) else x1)), (2, .int (nI i1)), (3, .ref (a (3 + i1)))] → gm_M D A s (gm_W dk a) u H locs → W p l e rm_G_lights s m args below meth c H locs 0 0 Q (F0 m 34 ls []) := by
        intro ls H locs hl hM
        refine lv_aload_n hx hb d_G_lights_34 rfl (lv_at hl 3 rfl) ?_
        refine gf_G_57 hF hM (by omega) d_G_lights_35 ?_
        refine lv_bipush (v := 30) hx hb d_G_lights_38 (by decide) ?_
        refine lv_iand hx hb d_G_lights_40 ?_
        have J5 : ∀ (ls : Array Slot) (H : Heap) (locs : List Loc), lv_has ls 4 [(0, .ref (a 0)), (1, .int (if ((u.2.1 3 i1) &&& (30 : Int32)) = 0 then (if (u.1 2 i1) = true then (if (v_M_gearsAreExtended u i1) = true then (x1 ||| (1 : Int32)) else x1) else x1) else ((if (u.1 2 i1) = true then (if (v_M_gearsAreExtended u i1) = true then (x1 ||| (1 : Int32)) else x1) else x1) ||| (2 : Int32)))), (2, .int (nI i1)), (3, .ref (a (3 + i1)))] → gm_M D A s (gm_W dk a) u H locs → W p l e rm_G_lights s m args below meth c H locs 0 0 Q (F0 m 48 ls []) := by
          intro ls H locs hl hM
          refine lv_aload_n hx hb d_G_lights_48 rfl (lv_at hl 3 rfl) ?_
          refine gf_G_69 hF hM (by omega) d_G_lights_49 ?_
          have J7 : ∀ (ls : Array Slot) (H : Heap) (locs : List Loc), lv_has ls 4 [(0, .ref (a 0)), (1, .int (if (u.2.1 5 i1) = 0 then (if ((u.2.1 3 i1) &&& (30 : Int32)) = 0 then (if (u.1 2 i1) = true then (if (v_M_gearsAreExtended u i1) = true then (x1 ||| (1 : Int32)) else x1) else x1) else ((if (u.1 2 i1) = true then (if (v_M_gearsAreExtended u i1) = true then (x1 ||| (1 : Int32)) else x1) else x1) ||| (2 : Int32))) else ((if ((u.2.1 3 i1) &&& (30 : Int32)) = 0 then (if (u.1 2 i1) = true then (if (v_M_gearsAreExtended u i1) = true then (x1 ||| (1 : Int32)) else x1) else x1) else ((if (u.1 2 i1) = true then (if (v_M_gearsAreExtended u i1) = true then (x1 ||| (1 : Int32)) else x1) else x1) ||| (2 : Int32))) ||| (4 : Int32)))), (2, .int (nI i1)), (3, .ref (a (3 + i1)))] → gm_M D A s (gm_W dk a) u H locs → W p l e rm_G_lights s m args below meth c H locs 0 0 Q (F0 m 59 ls []) := by
            intro ls H locs hl hM
            refine lv_iinc (k := 2) (v := (nI (i1 + 1))) (lv' := [(2, .int (nI (i1 + 1))), (0, .ref (a 0)), (1, .int (if (u.2.1 5 i1) = 0 then (if ((u.2.1 3 i1) &&& (30 : Int32)) = 0 then (if (u.1 2 i1) = true then (if (v_M_gearsAreExtended u i1) = true then (x1 ||| (1 : Int32)) else x1) else x1) else ((if (u.1 2 i1) = true then (if (v_M_gearsAreExtended u i1) = true then (x1 ||| (1 : Int32)) else x1) else x1) ||| (2 : Int32))) else ((if ((u.2.1 3 i1) &&& (30 : Int32)) = 0 then (if (u.1 2 i1) = true then (if (v_M_gearsAreExtended u i1) = true then (x1 ||| (1 : Int32)) else x1) else x1) else ((if (u.1 2 i1) = true then (if (v_M_gearsAreExtended u i1) = true then (x1 ||| (1 : Int32)) else x1) else x1) ||| (2 : Int32))) ||| (4 : Int32)))), (3, .ref (a (3 + i1)))]) hx hb d_G_lights_59 hl rfl (nI_1 _) (by decide) rfl (fun ls hl => ?_)
            refine lv_goto (tgt := 4) hx hb d_G_lights_62 rfl ?_
            have hK := kk
            simp only [lp_G_lights] at hK
            exact ih (i1 + 1) (if (u.2.1 5 i1) = 0 then (if ((u.2.1 3 i1) &&& (30 : Int32)) = 0 then (if (u.1 2 i1) = true then (if (v_M_gearsAreExtended u i1) = true then (x1 ||| (1 : Int32)) else x1) else x1) else ((if (u.1 2 i1) = true then (if (v_M_gearsAreExtended u i1) = true then (x1 ||| (1 : Int32)) else x1) else x1) ||| (2 : Int32))) else ((if ((u.2.1 3 i1) &&& (30 : Int32)) = 0 then (if (u.1 2 i1) = true then (if (v_M_gearsAreExtended u i1) = true then (x1 ||| (1 : Int32)) else x1) else x1) else ((if (u.1 2 i1) = true then (if (v_M_gearsAreExtended u i1) = true then (x1 ||| (1 : Int32)) else x1) else x1) ||| (2 : Int32))) ||| (4 : Int32))) ls H locs (by omega) (lv_sub hl [0, 2, 1] rfl) hM hK
          refine lv_if_eq (tgt := 59) hx hb d_G_lights_52 rfl (fun h6 => ?_) (fun h6 => ?_)
          · have hJ := J7
            try simp only [if_pos h6] at hJ
            exact hJ ls H locs hl hM
          · refine lv_iload_n hx hb d_G_lights_55 rfl (lv_at hl 1 rfl) ?_
            refine lv_iconst (v := 4) hx hb d_G_lights_56 (by decide) ?_
            refine lv_ior hx hb d_G_lights_57 ?_
            refine lv_istore_n (lv' := [(1, .int ((if ((u.2.1 3 i1) &&& (30 : Int32)) = 0 then (if (u.1 2 i1) = true then (if (v_M_gearsAreExtended u i1) = true then (x1 ||| (1 : Int32)) else x1) else x1) else ((if (u.1 2 i1) = true then (if (v_M_gearsAreExtended u i1) = true then (x1 ||| (1 : Int32)) else x1) else x1) ||| (2 : Int32))) ||| (4 : Int32))), (0, .ref (a 0)), (2, .int (nI i1)), (3, .ref (a (3 + i1)))]) hx hb d_G_lights_58 rfl hl (by decide) rfl (fun ls hl => ?_)
            have hJ := J7
            try simp only [if_neg h6] at hJ
            exact hJ ls H locs (lv_sub hl [1, 0, 2, 3] rfl) hM
        refine lv_if_eq (tgt := 48) hx hb d_G_lights_41 rfl (fun h4 => ?_) (fun h4 => ?_)
        · have hJ := J5
          try simp only [if_pos h4] at hJ
          exact hJ ls H locs hl hM
        · refine lv_iload_n hx hb d_G_lights_44 rfl (lv_at hl 1 rfl) ?_
          refine lv_iconst (v := 2) hx hb d_G_lights_45 (by decide) ?_
          refine lv_ior hx hb d_G_lights_46 ?_
          refine lv_istore_n (lv' := [(1, .int ((if (u.1 2 i1) = true then (if (v_M_gearsAreExtended u i1) = true then (x1 ||| (1 : Int32)) else x1) else x1) ||| (2 : Int32))), (0, .ref (a 0)), (2, .int (nI i1)), (3, .ref (a (3 + i1)))]) hx hb d_G_lights_47 rfl hl (by decide) rfl (fun ls hl => ?_)
          have hJ := J5
          try simp only [if_neg h4] at hJ
          exact hJ ls H locs (lv_sub hl [1, 0, 2, 3] rfl) hM
      refine gm_ifz (b := (u.1 2 i1)) (tgt := 34) hx hb d_G_lights_20 rfl (fun h2 => ?_) (fun h2 => ?_)
      · have hJ := J3
        try simp only [if_neg (gm_nf h2)] at hJ
        exact hJ ls H locs (lv_sub hl [3, 2, 1, 0] rfl) hM
      · refine lv_aload_n hx hb d_G_lights_23 rfl (lv_at hl 0 rfl) ?_
        refine gm_Vi (As := []) (rest := []) hF hM (c_M_gearsAreExtended (u := u) (m := i1) (by omega)) (gk_G_76 hts ⟨by decide, by decide⟩) (gv_M hF hM (by omega) rfl) rfl hl.1 rfl (Nat.le_of_ble_eq_true rfl) ⟨Nat.zero_le _, Nat.zero_le _⟩ d_G_lights_24 (fun H locs hM => ?_)
        refine gm_ifz (b := (v_M_gearsAreExtended u i1)) (tgt := 34) hx hb d_G_lights_27 rfl (fun h8 => ?_) (fun h8 => ?_)
        · have hJ := J3
          try simp only [if_pos h2, if_neg (gm_nf h8)] at hJ
          exact hJ ls H locs (lv_sub hl [3, 2, 1, 0] rfl) hM
        · refine lv_iload_n hx hb d_G_lights_30 rfl (lv_at hl 2 rfl) ?_
          refine lv_iconst (v := 1) hx hb d_G_lights_31 (by decide) ?_
          refine lv_ior hx hb d_G_lights_32 ?_
          refine lv_istore_n (lv' := [(1, .int (x1 ||| (1 : Int32))), (3, .ref (a (3 + i1))), (2, .int (nI i1)), (0, .ref (a 0))]) hx hb d_G_lights_33 rfl hl (by decide) rfl (fun ls hl => ?_)
          have hJ := J3
          try simp only [if_pos h2, if_pos h8] at hJ
          exact hJ ls H locs (lv_sub hl [3, 0, 2, 1] rfl) hM
  refine L1 2 0 (0 : Int32) ls H locs (by omega) hl hM (fun ls H locs hl hM => ?_)
  refine lv_iload_n hx hb d_G_lights_65 rfl (lv_at hl 1 rfl) ?_
  have hq := hQ H locs 66 ls
  simp only [v_G_lights] at hq
  exact hq hM d_G_lights_66
end
section
theorem d_G_word_0 : decode b_G_word 0 = .ok (.iload_n 2, 1) := by decide +kernel
theorem d_G_word_1 : decode b_G_word 1 = .ok (.invokestatic 39, 3) := by decide +kernel
theorem d_G_word_4 : decode b_G_word 4 = .ok (.ifCond .eq 14, 3) := by decide +kernel
theorem d_G_word_7 : decode b_G_word 7 = .ok (.iload_n 1, 1) := by decide +kernel
theorem d_G_word_8 : decode b_G_word 8 = .ok (.ifCond .lt 10, 3) := by decide +kernel
theorem d_G_word_11 : decode b_G_word 11 = .ok (.iload_n 1, 1) := by decide +kernel
theorem d_G_word_12 : decode b_G_word 12 = .ok (.sipush 256, 3) := by decide +kernel
theorem d_G_word_15 : decode b_G_word 15 = .ok (.if_icmp .lt 5, 3) := by decide +kernel
theorem d_G_word_18 : decode b_G_word 18 = .ok (.iconst 0, 1) := by decide +kernel
theorem d_G_word_19 : decode b_G_word 19 = .ok (.ireturn, 1) := by decide +kernel
theorem d_G_word_20 : decode b_G_word 20 = .ok (.aload_n 0, 1) := by decide +kernel
theorem d_G_word_21 : decode b_G_word 21 = .ok (.getfield 11, 3) := by decide +kernel
theorem d_G_word_24 : decode b_G_word 24 = .ok (.iload_n 2, 1) := by decide +kernel
theorem d_G_word_25 : decode b_G_word 25 = .ok (.aaload, 1) := by decide +kernel
theorem d_G_word_26 : decode b_G_word 26 = .ok (.astore_n 3, 1) := by decide +kernel
theorem d_G_word_27 : decode b_G_word 27 = .ok (.iload_n 1, 1) := by decide +kernel
theorem d_G_word_28 : decode b_G_word 28 = .ok (.iload_n 2, 1) := by decide +kernel
theorem d_G_word_29 : decode b_G_word 29 = .ok (.iconst 1, 1) := by decide +kernel
theorem d_G_word_30 : decode b_G_word 30 = .ok (.iadd, 1) := by decide +kernel
theorem d_G_word_31 : decode b_G_word 31 = .ok (.bipush 8, 2) := by decide +kernel
theorem d_G_word_33 : decode b_G_word 33 = .ok (.ishl, 1) := by decide +kernel
theorem d_G_word_34 : decode b_G_word 34 = .ok (.ior, 1) := by decide +kernel
theorem d_G_word_35 : decode b_G_word 35 = .ok (.aload_n 3, 1) := by decide +kernel
theorem d_G_word_36 : decode b_G_word 36 = .ok (.getfield 57, 3) := by decide +kernel
theorem d_G_word_39 : decode b_G_word 39 = .ok (.bipush 10, 2) := by decide +kernel
theorem d_G_word_41 : decode b_G_word 41 = .ok (.ishl, 1) := by decide +kernel
theorem d_G_word_42 : decode b_G_word 42 = .ok (.ior, 1) := by decide +kernel
theorem d_G_word_43 : decode b_G_word 43 = .ok (.aload_n 3, 1) := by decide +kernel
theorem d_G_word_44 : decode b_G_word 44 = .ok (.invokevirtual 87, 3) := by decide +kernel
theorem d_G_word_47 : decode b_G_word 47 = .ok (.bipush 15, 2) := by decide +kernel
theorem d_G_word_49 : decode b_G_word 49 = .ok (.ishl, 1) := by decide +kernel
theorem d_G_word_50 : decode b_G_word 50 = .ok (.ior, 1) := by decide +kernel
theorem d_G_word_51 : decode b_G_word 51 = .ok (.aload_n 3, 1) := by decide +kernel
theorem d_G_word_52 : decode b_G_word 52 = .ok (.invokevirtual 90, 3) := by decide +kernel
theorem d_G_word_55 : decode b_G_word 55 = .ok (.bipush 21, 2) := by decide +kernel
theorem d_G_word_57 : decode b_G_word 57 = .ok (.ishl, 1) := by decide +kernel
theorem d_G_word_58 : decode b_G_word 58 = .ok (.ior, 1) := by decide +kernel
theorem d_G_word_59 : decode b_G_word 59 = .ok (.aload_n 3, 1) := by decide +kernel
theorem d_G_word_60 : decode b_G_word 60 = .ok (.invokevirtual 93, 3) := by decide +kernel
theorem d_G_word_63 : decode b_G_word 63 = .ok (.bipush 29, 2) := by decide +kernel
theorem d_G_word_65 : decode b_G_word 65 = .ok (.ishl, 1) := by decide +kernel
theorem d_G_word_66 : decode b_G_word 66 = .ok (.ior, 1) := by decide +kernel
theorem d_G_word_67 : decode b_G_word 67 = .ok (.istore 4, 2) := by decide +kernel
theorem d_G_word_69 : decode b_G_word 69 = .ok (.iload 4, 2) := by decide +kernel
theorem d_G_word_71 : decode b_G_word 71 = .ok (.invokestatic 96, 3) := by decide +kernel
theorem d_G_word_74 : decode b_G_word 74 = .ok (.ifCond .eq 8, 3) := by decide +kernel
theorem d_G_word_77 : decode b_G_word 77 = .ok (.iload 4, 2) := by decide +kernel
theorem d_G_word_79 : decode b_G_word 79 = .ok (.goto 8, 3) := by decide +kernel
theorem d_G_word_82 : decode b_G_word 82 = .ok (.iload 4, 2) := by decide +kernel
theorem d_G_word_84 : decode b_G_word 84 = .ok (.ldc 99, 2) := by decide +kernel
theorem d_G_word_86 : decode b_G_word 86 = .ok (.ior, 1) := by decide +kernel
theorem d_G_word_87 : decode b_G_word 87 = .ok (.ireturn, 1) := by decide +kernel
def v_G_word (u : gm_St) (x : Int32) (y : Int32) : Int32 := (if (v_G_isModule y) = true then (if x < 0 then (0 : Int32) else (if x < (256 : Int32) then (if (v_G_hasOddParity (((((x ||| ((y + (1 : Int32)) <<< ((8 : Int32) &&& 31))) ||| ((u.2.1 3 y.toNatClampNeg) <<< ((10 : Int32) &&& 31))) ||| ((v_M_sensorsOn u y.toNatClampNeg) <<< ((15 : Int32) &&& 31))) ||| ((v_M_sensorsBroken u y.toNatClampNeg) <<< ((21 : Int32) &&& 31))) ||| ((v_M_status u y.toNatClampNeg) <<< ((29 : Int32) &&& 31)))) = true then (((((x ||| ((y + (1 : Int32)) <<< ((8 : Int32) &&& 31))) ||| ((u.2.1 3 y.toNatClampNeg) <<< ((10 : Int32) &&& 31))) ||| ((v_M_sensorsOn u y.toNatClampNeg) <<< ((15 : Int32) &&& 31))) ||| ((v_M_sensorsBroken u y.toNatClampNeg) <<< ((21 : Int32) &&& 31))) ||| ((v_M_status u y.toNatClampNeg) <<< ((29 : Int32) &&& 31))) else ((((((x ||| ((y + (1 : Int32)) <<< ((8 : Int32) &&& 31))) ||| ((u.2.1 3 y.toNatClampNeg) <<< ((10 : Int32) &&& 31))) ||| ((v_M_sensorsOn u y.toNatClampNeg) <<< ((15 : Int32) &&& 31))) ||| ((v_M_sensorsBroken u y.toNatClampNeg) <<< ((21 : Int32) &&& 31))) ||| ((v_M_status u y.toNatClampNeg) <<< ((29 : Int32) &&& 31))) ||| (-2147483648 : Int32))) else (0 : Int32))) else (0 : Int32))
set_option maxRecDepth 100000 in
set_option maxHeartbeats 4000000 in
theorem c_G_word {l : Launch} {D : va_G} {dk : Nat → ClassId} {a : Nat → Nat} {A : Nat → Prop} {lt : Nat} {u : gm_St} {x : Int32} {y : Int32} : gm_I l D (gm_ty dk) (gm_W dk a) A lt y_G_word b_G_word 5 (some .int) rm_G_word [.ref (a 0), .int x, .int y] u (v_G_word u x y) u := by
  refine gm_enterI (by decide) (Nat.le_of_ble_eq_true rfl) ?_
  intro p e s m args below meth c ls Q H locs hF hM hl hQ
  have hx := hF.1
  have hb := hF.2.1
  have hml := hF.2.2.1
  have hown := hF.2.2.2.1
  have hts := hF.2.2.2.2.1
  have hl : lv_has ls 5 [(0, .ref (a 0)), (1, .int x), (2, .int y)] := hl
  refine lv_iload_n hx hb d_G_word_0 rfl (lv_at hl 2 rfl) ?_
  refine gm_Si (As := [.int y]) (rest := []) hF hM (c_G_isModule (u := u) (x := y) ) (gk_G_39 hts ⟨by decide, by decide⟩) rfl hl.1 rfl (Nat.le_of_ble_eq_true rfl) ⟨Nat.zero_le _, Nat.zero_le _⟩ d_G_word_1 (fun H locs hM => ?_)
  refine gm_ifz (b := (v_G_isModule y)) (tgt := 18) hx hb d_G_word_4 rfl (fun h1 => ?_) (fun h1 => ?_)
  · refine lv_iconst (v := 0) hx hb d_G_word_18 (by decide) ?_
    have hq := hQ H locs 19 ls
    simp only [v_G_word, if_neg (gm_nf h1)] at hq
    exact hq hM d_G_word_19
  · have hm_y := (gm_isM h1).1
    have ex_y := (gm_isM h1).2
    refine lv_iload_n hx hb d_G_word_7 rfl (lv_at hl 1 rfl) ?_
    refine lv_if_lt (tgt := 18) hx hb d_G_word_8 rfl (fun h2 => ?_) (fun h2 => ?_)
    · refine lv_iconst (v := 0) hx hb d_G_word_18 (by decide) ?_
      have hq := hQ H locs 19 ls
      simp only [v_G_word, if_pos h1, if_pos h2] at hq
      exact hq hM d_G_word_19
    · refine lv_iload_n hx hb d_G_word_11 rfl (lv_at hl 1 rfl) ?_
      refine lv_sipush (v := 256) hx hb d_G_word_12 (by decide) ?_
      refine lv_icmp_lt (tgt := 20) hx hb d_G_word_15 rfl (fun h3 => ?_) (fun h3 => ?_)
      · refine lv_aload_n hx hb d_G_word_20 rfl (lv_at hl 0 rfl) ?_
        refine gf_G_11 hF hM d_G_word_21 ?_
        refine lv_iload_n hx hb d_G_word_24 rfl (lv_at hl 2 rfl) ?_
        refine ga_mods (k := y.toNatClampNeg) hF hM ex_y (by first | omega | exact Nat.mod_lt _ (by decide)) d_G_word_25 ?_
        refine lv_astore_n (lv' := [(3, .ref (a (3 + y.toNatClampNeg))), (0, .ref (a 0)), (1, .int x), (2, .int y)]) hx hb d_G_word_26 rfl hl (by decide) rfl (fun ls hl => ?_)
        refine lv_iload_n hx hb d_G_word_27 rfl (lv_at hl 2 rfl) ?_
        refine lv_iload_n hx hb d_G_word_28 rfl (lv_at hl 3 rfl) ?_
        refine lv_iconst (v := 1) hx hb d_G_word_29 (by decide) ?_
        refine lv_iadd hx hb d_G_word_30 ?_
        refine lv_bipush (v := 8) hx hb d_G_word_31 (by decide) ?_
        refine lv_ishl hx hb d_G_word_33 ?_
        refine lv_ior hx hb d_G_word_34 ?_
        refine lv_aload_n hx hb d_G_word_35 rfl (lv_at hl 0 rfl) ?_
        refine gf_G_57 hF hM (by omega) d_G_word_36 ?_
        refine lv_bipush (v := 10) hx hb d_G_word_39 (by decide) ?_
        refine lv_ishl hx hb d_G_word_41 ?_
        refine lv_ior hx hb d_G_word_42 ?_
        refine lv_aload_n hx hb d_G_word_43 rfl (lv_at hl 0 rfl) ?_
        refine gm_Vi (As := []) (rest := [.int ((x ||| ((y + (1 : Int32)) <<< ((8 : Int32) &&& 31))) ||| ((u.2.1 3 y.toNatClampNeg) <<< ((10 : Int32) &&& 31)))]) hF hM (c_M_sensorsOn (u := u) (m := y.toNatClampNeg) (by omega)) (gk_G_87 hts ⟨by decide, by decide⟩) (gv_M hF hM (by omega) rfl) rfl hl.1 rfl (Nat.le_of_ble_eq_true rfl) ⟨Nat.zero_le _, Nat.zero_le _⟩ d_G_word_44 (fun H locs hM => ?_)
        refine lv_bipush (v := 15) hx hb d_G_word_47 (by decide) ?_
        refine lv_ishl hx hb d_G_word_49 ?_
        refine lv_ior hx hb d_G_word_50 ?_
        refine lv_aload_n hx hb d_G_word_51 rfl (lv_at hl 0 rfl) ?_
        refine gm_Vi (As := []) (rest := [.int (((x ||| ((y + (1 : Int32)) <<< ((8 : Int32) &&& 31))) ||| ((u.2.1 3 y.toNatClampNeg) <<< ((10 : Int32) &&& 31))) ||| ((v_M_sensorsOn u y.toNatClampNeg) <<< ((15 : Int32) &&& 31)))]) hF hM (c_M_sensorsBroken (u := u) (m := y.toNatClampNeg) (by omega)) (gk_G_90 hts ⟨by decide, by decide⟩) (gv_M hF hM (by omega) rfl) rfl hl.1 rfl (Nat.le_of_ble_eq_true rfl) ⟨Nat.zero_le _, Nat.zero_le _⟩ d_G_word_52 (fun H locs hM => ?_)
        refine lv_bipush (v := 21) hx hb d_G_word_55 (by decide) ?_
        refine lv_ishl hx hb d_G_word_57 ?_
        refine lv_ior hx hb d_G_word_58 ?_
        refine lv_aload_n hx hb d_G_word_59 rfl (lv_at hl 0 rfl) ?_
        refine gm_Vi (As := []) (rest := [.int ((((x ||| ((y + (1 : Int32)) <<< ((8 : Int32) &&& 31))) ||| ((u.2.1 3 y.toNatClampNeg) <<< ((10 : Int32) &&& 31))) ||| ((v_M_sensorsOn u y.toNatClampNeg) <<< ((15 : Int32) &&& 31))) ||| ((v_M_sensorsBroken u y.toNatClampNeg) <<< ((21 : Int32) &&& 31)))]) hF hM (c_M_status (u := u) (m := y.toNatClampNeg) (by omega)) (gk_G_93 hts ⟨by decide, by decide⟩) (gv_M hF hM (by omega) rfl) rfl hl.1 rfl (Nat.le_of_ble_eq_true rfl) ⟨Nat.zero_le _, Nat.zero_le _⟩ d_G_word_60 (fun H locs hM => ?_)
        refine lv_bipush (v := 29) hx hb d_G_word_63 (by decide) ?_
        refine lv_ishl hx hb d_G_word_65 ?_
        refine lv_ior hx hb d_G_word_66 ?_
        refine lv_istore (lv' := [(4, .int (((((x ||| ((y + (1 : Int32)) <<< ((8 : Int32) &&& 31))) ||| ((u.2.1 3 y.toNatClampNeg) <<< ((10 : Int32) &&& 31))) ||| ((v_M_sensorsOn u y.toNatClampNeg) <<< ((15 : Int32) &&& 31))) ||| ((v_M_sensorsBroken u y.toNatClampNeg) <<< ((21 : Int32) &&& 31))) ||| ((v_M_status u y.toNatClampNeg) <<< ((29 : Int32) &&& 31)))), (3, .ref (a (3 + y.toNatClampNeg))), (0, .ref (a 0)), (1, .int x), (2, .int y)]) hx hb d_G_word_67 hl (by decide) rfl (fun ls hl => ?_)
        refine lv_iload hx hb d_G_word_69 (lv_at hl 0 rfl) ?_
        refine gm_Si (As := [.int (((((x ||| ((y + (1 : Int32)) <<< ((8 : Int32) &&& 31))) ||| ((u.2.1 3 y.toNatClampNeg) <<< ((10 : Int32) &&& 31))) ||| ((v_M_sensorsOn u y.toNatClampNeg) <<< ((15 : Int32) &&& 31))) ||| ((v_M_sensorsBroken u y.toNatClampNeg) <<< ((21 : Int32) &&& 31))) ||| ((v_M_status u y.toNatClampNeg) <<< ((29 : Int32) &&& 31)))]) (rest := []) hF hM (c_G_hasOddParity (u := u) (x := (((((x ||| ((y + (1 : Int32)) <<< ((8 : Int32) &&& 31))) ||| ((u.2.1 3 y.toNatClampNeg) <<< ((10 : Int32) &&& 31))) ||| ((v_M_sensorsOn u y.toNatClampNeg) <<< ((15 : Int32) &&& 31))) ||| ((v_M_sensorsBroken u y.toNatClampNeg) <<< ((21 : Int32) &&& 31))) ||| ((v_M_status u y.toNatClampNeg) <<< ((29 : Int32) &&& 31)))) ) (gk_G_96 hts ⟨by decide, by decide⟩) rfl hl.1 rfl (Nat.le_of_ble_eq_true rfl) ⟨Nat.zero_le _, Nat.zero_le _⟩ d_G_word_71 (fun H locs hM => ?_)
        have J5 : ∀ (ls : Array Slot) (H : Heap) (locs : List Loc), lv_has ls 5 [(0, .ref (a 0)), (1, .int x), (2, .int y), (3, .ref (a (3 + y.toNatClampNeg))), (4, .int (((((x ||| ((y + (1 : Int32)) <<< ((8 : Int32) &&& 31))) ||| ((u.2.1 3 y.toNatClampNeg) <<< ((10 : Int32) &&& 31))) ||| ((v_M_sensorsOn u y.toNatClampNeg) <<< ((15 : Int32) &&& 31))) ||| ((v_M_sensorsBroken u y.toNatClampNeg) <<< ((21 : Int32) &&& 31))) ||| ((v_M_status u y.toNatClampNeg) <<< ((29 : Int32) &&& 31))))] → gm_M D A s (gm_W dk a) u H locs → W p l e rm_G_word s m args below meth c H locs 0 0 Q (F0 m 87 ls [.int (if (v_G_hasOddParity (((((x ||| ((y + (1 : Int32)) <<< ((8 : Int32) &&& 31))) ||| ((u.2.1 3 y.toNatClampNeg) <<< ((10 : Int32) &&& 31))) ||| ((v_M_sensorsOn u y.toNatClampNeg) <<< ((15 : Int32) &&& 31))) ||| ((v_M_sensorsBroken u y.toNatClampNeg) <<< ((21 : Int32) &&& 31))) ||| ((v_M_status u y.toNatClampNeg) <<< ((29 : Int32) &&& 31)))) = true then (((((x ||| ((y + (1 : Int32)) <<< ((8 : Int32) &&& 31))) ||| ((u.2.1 3 y.toNatClampNeg) <<< ((10 : Int32) &&& 31))) ||| ((v_M_sensorsOn u y.toNatClampNeg) <<< ((15 : Int32) &&& 31))) ||| ((v_M_sensorsBroken u y.toNatClampNeg) <<< ((21 : Int32) &&& 31))) ||| ((v_M_status u y.toNatClampNeg) <<< ((29 : Int32) &&& 31))) else ((((((x ||| ((y + (1 : Int32)) <<< ((8 : Int32) &&& 31))) ||| ((u.2.1 3 y.toNatClampNeg) <<< ((10 : Int32) &&& 31))) ||| ((v_M_sensorsOn u y.toNatClampNeg) <<< ((15 : Int32) &&& 31))) ||| ((v_M_sensorsBroken u y.toNatClampNeg) <<< ((21 : Int32) &&& 31))) ||| ((v_M_status u y.toNatClampNeg) <<< ((29 : Int32) &&& 31))) ||| (-2147483648 : Int32)))]) := by
          intro ls H locs hl hM
          have hq := hQ H locs 87 ls
          simp only [v_G_word, if_pos h1, if_neg h2, if_pos h3] at hq
          exact hq hM d_G_word_87
        refine gm_ifz (b := (v_G_hasOddParity (((((x ||| ((y + (1 : Int32)) <<< ((8 : Int32) &&& 31))) ||| ((u.2.1 3 y.toNatClampNeg) <<< ((10 : Int32) &&& 31))) ||| ((v_M_sensorsOn u y.toNatClampNeg) <<< ((15 : Int32) &&& 31))) ||| ((v_M_sensorsBroken u y.toNatClampNeg) <<< ((21 : Int32) &&& 31))) ||| ((v_M_status u y.toNatClampNeg) <<< ((29 : Int32) &&& 31))))) (tgt := 82) hx hb d_G_word_74 rfl (fun h4 => ?_) (fun h4 => ?_)
        · refine lv_iload hx hb d_G_word_82 (lv_at hl 0 rfl) ?_
          refine lv_ldc (v := -2147483648) hx hb hown (hts _ (gm_in 299 (by decide +kernel) rfl)) d_G_word_84 ?_
          refine lv_ior hx hb d_G_word_86 ?_
          have hJ := J5
          try simp only [if_neg (gm_nf h4)] at hJ
          exact hJ ls H locs (lv_sub hl [2, 3, 4, 1, 0] rfl) hM
        · refine lv_iload hx hb d_G_word_77 (lv_at hl 0 rfl) ?_
          refine lv_goto (tgt := 87) hx hb d_G_word_79 rfl ?_
          have hJ := J5
          try simp only [if_pos h4] at hJ
          exact hJ ls H locs (lv_sub hl [2, 3, 4, 1, 0] rfl) hM
      · refine lv_iconst (v := 0) hx hb d_G_word_18 (by decide) ?_
        have hq := hQ H locs 19 ls
        simp only [v_G_word, if_pos h1, if_neg h2, if_neg h3] at hq
        exact hq hM d_G_word_19
theorem d_G_label_0 : decode b_G_label 0 = .ok (.iload_n 1, 1) := by decide +kernel
theorem d_G_label_1 : decode b_G_label 1 = .ok (.invokestatic 96, 3) := by decide +kernel
theorem d_G_label_4 : decode b_G_label 4 = .ok (.ifCond .ne 5, 3) := by decide +kernel
theorem d_G_label_7 : decode b_G_label 7 = .ok (.iconst (-1), 1) := by decide +kernel
theorem d_G_label_8 : decode b_G_label 8 = .ok (.ireturn, 1) := by decide +kernel
theorem d_G_label_9 : decode b_G_label 9 = .ok (.iconst 0, 1) := by decide +kernel
theorem d_G_label_10 : decode b_G_label 10 = .ok (.istore_n 2, 1) := by decide +kernel
theorem d_G_label_11 : decode b_G_label 11 = .ok (.iconst 0, 1) := by decide +kernel
theorem d_G_label_12 : decode b_G_label 12 = .ok (.istore_n 3, 1) := by decide +kernel
theorem d_G_label_13 : decode b_G_label 13 = .ok (.iload_n 3, 1) := by decide +kernel
theorem d_G_label_14 : decode b_G_label 14 = .ok (.bipush 8, 2) := by decide +kernel
theorem d_G_label_16 : decode b_G_label 16 = .ok (.if_icmp .ge 19, 3) := by decide +kernel
theorem d_G_label_19 : decode b_G_label 19 = .ok (.iload_n 2, 1) := by decide +kernel
theorem d_G_label_20 : decode b_G_label 20 = .ok (.iconst 1, 1) := by decide +kernel
theorem d_G_label_21 : decode b_G_label 21 = .ok (.ishl, 1) := by decide +kernel
theorem d_G_label_22 : decode b_G_label 22 = .ok (.iload_n 1, 1) := by decide +kernel
theorem d_G_label_23 : decode b_G_label 23 = .ok (.iload_n 3, 1) := by decide +kernel
theorem d_G_label_24 : decode b_G_label 24 = .ok (.ishr, 1) := by decide +kernel
theorem d_G_label_25 : decode b_G_label 25 = .ok (.iconst 1, 1) := by decide +kernel
theorem d_G_label_26 : decode b_G_label 26 = .ok (.iand, 1) := by decide +kernel
theorem d_G_label_27 : decode b_G_label 27 = .ok (.ior, 1) := by decide +kernel
theorem d_G_label_28 : decode b_G_label 28 = .ok (.istore_n 2, 1) := by decide +kernel
theorem d_G_label_29 : decode b_G_label 29 = .ok (.iinc 3 1, 3) := by decide +kernel
theorem d_G_label_32 : decode b_G_label 32 = .ok (.goto (-19), 3) := by decide +kernel
theorem d_G_label_35 : decode b_G_label 35 = .ok (.iload_n 2, 1) := by decide +kernel
theorem d_G_label_36 : decode b_G_label 36 = .ok (.ireturn, 1) := by decide +kernel
def lp_G_label (u : gm_St) (wo : Int32) : Nat → Nat → Int32 → Int32
  | 0, _, x => x
  | k + 1, i, x => lp_G_label u wo k (i + 1) ((x <<< ((1 : Int32) &&& 31)) ||| ((wo >>> ((nI i) &&& 31)) &&& (1 : Int32)))
def v_G_label (u : gm_St) (wo : Int32) : Int32 := (if (v_G_hasOddParity wo) = true then (lp_G_label u wo 8 0 (0 : Int32)) else (-1 : Int32))
set_option maxRecDepth 100000 in
set_option maxHeartbeats 4000000 in
theorem c_G_label {l : Launch} {D : va_G} {dk : Nat → ClassId} {a : Nat → Nat} {A : Nat → Prop} {lt : Nat} {u : gm_St} {wo : Int32} : gm_I l D (gm_ty dk) (gm_W dk a) A lt y_G_label b_G_label 4 (some .int) rm_G_label [.ref (a 0), .int wo] u (v_G_label u wo) u := by
  refine gm_enterI (by decide) (Nat.le_of_ble_eq_true rfl) ?_
  intro p e s m args below meth c ls Q H locs hF hM hl hQ
  have hx := hF.1
  have hb := hF.2.1
  have hml := hF.2.2.1
  have hown := hF.2.2.2.1
  have hts := hF.2.2.2.2.1
  have hl : lv_has ls 4 [(0, .ref (a 0)), (1, .int wo)] := hl
  refine lv_iload_n hx hb d_G_label_0 rfl (lv_at hl 1 rfl) ?_
  refine gm_Si (As := [.int wo]) (rest := []) hF hM (c_G_hasOddParity (u := u) (x := wo) ) (gk_G_96 hts ⟨by decide, by decide⟩) rfl hl.1 rfl (Nat.le_of_ble_eq_true rfl) ⟨Nat.zero_le _, Nat.zero_le _⟩ d_G_label_1 (fun H locs hM => ?_)
  refine gm_ifn (b := (v_G_hasOddParity wo)) (tgt := 9) hx hb d_G_label_4 rfl (fun h1 => ?_) (fun h1 => ?_)
  · refine lv_iconst (v := 0) hx hb d_G_label_9 (by decide) ?_
    refine lv_istore_n (lv' := [(2, .int (0 : Int32)), (0, .ref (a 0)), (1, .int wo)]) hx hb d_G_label_10 rfl hl (by decide) rfl (fun ls hl => ?_)
    refine lv_iconst (v := 0) hx hb d_G_label_11 (by decide) ?_
    refine lv_istore_n (lv' := [(3, .int (0 : Int32)), (2, .int (0 : Int32)), (0, .ref (a 0)), (1, .int wo)]) hx hb d_G_label_12 rfl hl (by decide) rfl (fun ls hl => ?_)
    have L2 : ∀ (k2 i2 : Nat) (x2 : Int32) (ls : Array Slot) (H : Heap) (locs : List Loc), i2 + k2 = 8 → lv_has ls 4 [(3, .int (nI i2)), (2, .int x2), (0, .ref (a 0)), (1, .int wo)] → gm_M D A s (gm_W dk a) u H locs → (∀ (ls : Array Slot) (H : Heap) (locs : List Loc), lv_has ls 4 [(3, .int (nI 8)), (2, .int (lp_G_label u wo k2 i2 x2)), (0, .ref (a 0)), (1, .int wo)] → gm_M D A s (gm_W dk a) u H locs → W p l e rm_G_label s m args below meth c H locs 0 0 Q (F0 m 35 ls [])) → W p l e rm_G_label s m args below meth c H locs 0 0 Q (F0 m 13 ls []) := by
      intro k2
      induction k2 with
      | zero =>
        intro i2 x2 ls H locs hk2 hl hM kk
        obtain rfl : i2 = 8 := by omega
        refine lv_iload_n hx hb d_G_label_13 rfl (lv_at hl 0 rfl) ?_
        refine lv_bipush (v := 8) hx hb d_G_label_14 (by decide) ?_
        refine lv_icmp_ge (tgt := 35) hx hb d_G_label_16 rfl (fun _ => ?_) (fun h => absurd (by decide) h)
        exact kk ls H locs hl hM
      | succ k2 ih =>
        intro i2 x2 ls H locs hk2 hl hM kk
        refine lv_iload_n hx hb d_G_label_13 rfl (lv_at hl 0 rfl) ?_
        refine lv_bipush (v := 8) hx hb d_G_label_14 (by decide) ?_
        refine lv_icmp_ge (tgt := 35) hx hb d_G_label_16 rfl (fun h => absurd h (nI_ge (a := i2) (b := 8) (by omega) (by first | decide | omega))) (fun _ => ?_)
        refine lv_iload_n hx hb d_G_label_19 rfl (lv_at hl 1 rfl) ?_
        refine lv_iconst (v := 1) hx hb d_G_label_20 (by decide) ?_
        refine lv_ishl hx hb d_G_label_21 ?_
        refine lv_iload_n hx hb d_G_label_22 rfl (lv_at hl 3 rfl) ?_
        refine lv_iload_n hx hb d_G_label_23 rfl (lv_at hl 0 rfl) ?_
        refine lv_ishr hx hb d_G_label_24 ?_
        refine lv_iconst (v := 1) hx hb d_G_label_25 (by decide) ?_
        refine lv_iand hx hb d_G_label_26 ?_
        refine lv_ior hx hb d_G_label_27 ?_
        refine lv_istore_n (lv' := [(2, .int ((x2 <<< ((1 : Int32) &&& 31)) ||| ((wo >>> ((nI i2) &&& 31)) &&& (1 : Int32)))), (3, .int (nI i2)), (0, .ref (a 0)), (1, .int wo)]) hx hb d_G_label_28 rfl hl (by decide) rfl (fun ls hl => ?_)
        refine lv_iinc (k := 1) (v := (nI (i2 + 1))) (lv' := [(3, .int (nI (i2 + 1))), (2, .int ((x2 <<< ((1 : Int32) &&& 31)) ||| ((wo >>> ((nI i2) &&& 31)) &&& (1 : Int32)))), (0, .ref (a 0)), (1, .int wo)]) hx hb d_G_label_29 hl rfl (nI_1 _) (by decide) rfl (fun ls hl => ?_)
        refine lv_goto (tgt := 13) hx hb d_G_label_32 rfl ?_
        have hK := kk
        simp only [lp_G_label] at hK
        exact ih (i2 + 1) ((x2 <<< ((1 : Int32) &&& 31)) ||| ((wo >>> ((nI i2) &&& 31)) &&& (1 : Int32))) ls H locs (by omega) hl hM hK
    refine L2 8 0 (0 : Int32) ls H locs (by omega) hl hM (fun ls H locs hl hM => ?_)
    refine lv_iload_n hx hb d_G_label_35 rfl (lv_at hl 1 rfl) ?_
    have hq := hQ H locs 36 ls
    simp only [v_G_label, if_pos h1] at hq
    exact hq hM d_G_label_36
  · refine lv_iconst (v := -1) hx hb d_G_label_7 (by decide) ?_
    have hq := hQ H locs 8 ls
    simp only [v_G_label, if_neg (gm_nf h1)] at hq
    exact hq hM d_G_label_8
theorem d_G_handle_0 : decode b_G_handle 0 = .ok (.iload_n 1, 1) := by decide +kernel
theorem d_G_handle_1 : decode b_G_handle 1 = .ok (.aload_n 0, 1) := by decide +kernel
theorem d_G_handle_2 : decode b_G_handle 2 = .ok (.getfield 20, 3) := by decide +kernel
theorem d_G_handle_5 : decode b_G_handle 5 = .ok (.if_icmp .ne 5, 3) := by decide +kernel
theorem d_G_handle_8 : decode b_G_handle 8 = .ok (.iconst 0, 1) := by decide +kernel
theorem d_G_handle_9 : decode b_G_handle 9 = .ok (.ireturn, 1) := by decide +kernel
theorem d_G_handle_10 : decode b_G_handle 10 = .ok (.aload_n 0, 1) := by decide +kernel
theorem d_G_handle_11 : decode b_G_handle 11 = .ok (.iload_n 1, 1) := by decide +kernel
theorem d_G_handle_12 : decode b_G_handle 12 = .ok (.putfield 20, 3) := by decide +kernel
theorem d_G_handle_15 : decode b_G_handle 15 = .ok (.iconst 0, 1) := by decide +kernel
theorem d_G_handle_16 : decode b_G_handle 16 = .ok (.istore_n 2, 1) := by decide +kernel
theorem d_G_handle_17 : decode b_G_handle 17 = .ok (.iload_n 2, 1) := by decide +kernel
theorem d_G_handle_18 : decode b_G_handle 18 = .ok (.iconst 2, 1) := by decide +kernel
theorem d_G_handle_19 : decode b_G_handle 19 = .ok (.if_icmp .ge 18, 3) := by decide +kernel
theorem d_G_handle_22 : decode b_G_handle 22 = .ok (.aload_n 0, 1) := by decide +kernel
theorem d_G_handle_23 : decode b_G_handle 23 = .ok (.getfield 11, 3) := by decide +kernel
theorem d_G_handle_26 : decode b_G_handle 26 = .ok (.iload_n 2, 1) := by decide +kernel
theorem d_G_handle_27 : decode b_G_handle 27 = .ok (.aaload, 1) := by decide +kernel
theorem d_G_handle_28 : decode b_G_handle 28 = .ok (.invokevirtual 24, 3) := by decide +kernel
theorem d_G_handle_31 : decode b_G_handle 31 = .ok (.iinc 2 1, 3) := by decide +kernel
theorem d_G_handle_34 : decode b_G_handle 34 = .ok (.goto (-17), 3) := by decide +kernel
theorem d_G_handle_37 : decode b_G_handle 37 = .ok (.iconst 1, 1) := by decide +kernel
theorem d_G_handle_38 : decode b_G_handle 38 = .ok (.ireturn, 1) := by decide +kernel
def lp_G_handle : Nat → Nat → gm_St → gm_St
  | 0, _, u => u
  | k + 1, i, u => lp_G_handle k (i + 1) (s_M_beginWait u i)
def v_G_handle (u : gm_St) (dw : Bool) : Bool := (if dw = (u.1 5 0) then false else true)
def s_G_handle (u : gm_St) (dw : Bool) : gm_St := (if dw = (u.1 5 0) then u else (lp_G_handle 2 0 (gm_sB u 5 0 dw)))
set_option maxRecDepth 100000 in
set_option maxHeartbeats 4000000 in
theorem c_G_handle {l : Launch} {D : va_G} {dk : Nat → ClassId} {a : Nat → Nat} {A : Nat → Prop} {lt : Nat} {u : gm_St} {dw : Bool} : gm_I l D (gm_ty dk) (gm_W dk a) A lt y_G_handle b_G_handle 3 (some .boolean) rm_G_handle [.ref (a 0), .int (gm_b dw)] u (gm_b (v_G_handle u dw)) (s_G_handle u dw) := by
  refine gm_enterZ (by decide) (Nat.le_of_ble_eq_true rfl) ?_
  intro p e s m args below meth c ls Q H locs hF hM hl hQ
  have hx := hF.1
  have hb := hF.2.1
  have hml := hF.2.2.1
  have hown := hF.2.2.2.1
  have hts := hF.2.2.2.2.1
  have hl : lv_has ls 3 [(0, .ref (a 0)), (1, .int (gm_b dw))] := hl
  refine lv_iload_n hx hb d_G_handle_0 rfl (lv_at hl 1 rfl) ?_
  refine lv_aload_n hx hb d_G_handle_1 rfl (lv_at hl 0 rfl) ?_
  refine gf_G_20 hF hM d_G_handle_2 ?_
  refine gm_icn (b := dw) (d := (u.1 5 0)) (tgt := 10) hx hb d_G_handle_5 rfl (fun h1 => ?_) (fun h1 => ?_)
  · refine lv_aload_n hx hb d_G_handle_10 rfl (lv_at hl 0 rfl) ?_
    refine lv_iload_n hx hb d_G_handle_11 rfl (lv_at hl 1 rfl) ?_
    refine gp_G_20 hF hM (x := dw) rfl d_G_handle_12 (fun H locs hM => ?_)
    refine lv_iconst (v := 0) hx hb d_G_handle_15 (by decide) ?_
    refine lv_istore_n (lv' := [(2, .int (0 : Int32)), (0, .ref (a 0)), (1, .int (gm_b dw))]) hx hb d_G_handle_16 rfl hl (by decide) rfl (fun ls hl => ?_)
    have L2 : ∀ (k2 i2 : Nat) (w2 : gm_St) (ls : Array Slot) (H : Heap) (locs : List Loc), i2 + k2 = 2 → lv_has ls 3 [(2, .int (nI i2)), (0, .ref (a 0)), (1, .int (gm_b dw))] → gm_M D A s (gm_W dk a) w2 H locs → (∀ (ls : Array Slot) (H : Heap) (locs : List Loc), lv_has ls 3 [(2, .int (nI 2)), (0, .ref (a 0)), (1, .int (gm_b dw))] → gm_M D A s (gm_W dk a) (lp_G_handle k2 i2 w2) H locs → W p l e rm_G_handle s m args below meth c H locs 0 0 Q (F0 m 37 ls [])) → W p l e rm_G_handle s m args below meth c H locs 0 0 Q (F0 m 17 ls []) := by
      intro k2
      induction k2 with
      | zero =>
        intro i2 w2 ls H locs hk2 hl hM kk
        obtain rfl : i2 = 2 := by omega
        refine lv_iload_n hx hb d_G_handle_17 rfl (lv_at hl 0 rfl) ?_
        refine lv_iconst (v := 2) hx hb d_G_handle_18 (by decide) ?_
        refine lv_icmp_ge (tgt := 37) hx hb d_G_handle_19 rfl (fun _ => ?_) (fun h => absurd (by decide) h)
        exact kk ls H locs hl hM
      | succ k2 ih =>
        intro i2 w2 ls H locs hk2 hl hM kk
        refine lv_iload_n hx hb d_G_handle_17 rfl (lv_at hl 0 rfl) ?_
        refine lv_iconst (v := 2) hx hb d_G_handle_18 (by decide) ?_
        refine lv_icmp_ge (tgt := 37) hx hb d_G_handle_19 rfl (fun h => absurd h (nI_ge (a := i2) (b := 2) (by omega) (by first | decide | omega))) (fun _ => ?_)
        refine lv_aload_n hx hb d_G_handle_22 rfl (lv_at hl 1 rfl) ?_
        refine gf_G_11 hF hM d_G_handle_23 ?_
        refine lv_iload_n hx hb d_G_handle_26 rfl (lv_at hl 0 rfl) ?_
        refine ga_mods (k := i2) hF hM rfl (by first | omega | exact Nat.mod_lt _ (by decide)) d_G_handle_27 ?_
        refine gm_Vv (As := []) (rest := []) hF hM (c_M_beginWait (u := w2) (m := i2) (by omega)) (gk_G_24 hts ⟨by decide, by decide⟩) (gv_M hF hM (by omega) rfl) rfl hl.1 rfl (Nat.le_of_ble_eq_true rfl) ⟨Nat.zero_le _, Nat.zero_le _⟩ d_G_handle_28 (fun H locs hM => ?_)
        refine lv_iinc (k := 0) (v := (nI (i2 + 1))) (lv' := [(2, .int (nI (i2 + 1))), (0, .ref (a 0)), (1, .int (gm_b dw))]) hx hb d_G_handle_31 hl rfl (nI_1 _) (by decide) rfl (fun ls hl => ?_)
        refine lv_goto (tgt := 17) hx hb d_G_handle_34 rfl ?_
        have hK := kk
        simp only [lp_G_handle] at hK
        exact ih (i2 + 1) (s_M_beginWait w2 i2) ls H locs (by omega) hl hM hK
    refine L2 2 0 (gm_sB u 5 0 dw) ls H locs (by omega) hl hM (fun ls H locs hl hM => ?_)
    refine lv_iconst (v := 1) hx hb d_G_handle_37 (by decide) ?_
    have hq := hQ H locs 38 ls
    simp only [v_G_handle, s_G_handle, if_neg h1] at hq
    exact hq hM d_G_handle_38
  · refine lv_iconst (v := 0) hx hb d_G_handle_8 (by decide) ?_
    have hq := hQ H locs 9 ls
    simp only [v_G_handle, s_G_handle, if_pos h1] at hq
    exact hq hM d_G_handle_9
theorem d_G_entry_0 : decode b_G_entry 0 = .ok (.iload_n 1, 1) := by decide +kernel
theorem d_G_entry_1 : decode b_G_entry 1 = .ok (.ifCond .lt 11, 3) := by decide +kernel
theorem d_G_entry_4 : decode b_G_entry 4 = .ok (.iload_n 1, 1) := by decide +kernel
theorem d_G_entry_5 : decode b_G_entry 5 = .ok (.aload_n 0, 1) := by decide +kernel
theorem d_G_entry_6 : decode b_G_entry 6 = .ok (.getfield 79, 3) := by decide +kernel
theorem d_G_entry_9 : decode b_G_entry 9 = .ok (.if_icmp .lt 7, 3) := by decide +kernel
theorem d_G_entry_12 : decode b_G_entry 12 = .ok (.ldc2_w 82, 3) := by decide +kernel
theorem d_G_entry_15 : decode b_G_entry 15 = .ok (.lreturn, 1) := by decide +kernel
theorem d_G_entry_16 : decode b_G_entry 16 = .ok (.aload_n 0, 1) := by decide +kernel
theorem d_G_entry_17 : decode b_G_entry 17 = .ok (.getfield 15, 3) := by decide +kernel
theorem d_G_entry_20 : decode b_G_entry 20 = .ok (.aload_n 0, 1) := by decide +kernel
theorem d_G_entry_21 : decode b_G_entry 21 = .ok (.getfield 84, 3) := by decide +kernel
theorem d_G_entry_24 : decode b_G_entry 24 = .ok (.iload_n 1, 1) := by decide +kernel
theorem d_G_entry_25 : decode b_G_entry 25 = .ok (.isub, 1) := by decide +kernel
theorem d_G_entry_26 : decode b_G_entry 26 = .ok (.bipush 16, 2) := by decide +kernel
theorem d_G_entry_28 : decode b_G_entry 28 = .ok (.iadd, 1) := by decide +kernel
theorem d_G_entry_29 : decode b_G_entry 29 = .ok (.bipush 16, 2) := by decide +kernel
theorem d_G_entry_31 : decode b_G_entry 31 = .ok (.irem, 1) := by decide +kernel
theorem d_G_entry_32 : decode b_G_entry 32 = .ok (.laload, 1) := by decide +kernel
theorem d_G_entry_33 : decode b_G_entry 33 = .ok (.lreturn, 1) := by decide +kernel
def v_G_entry (u : gm_St) (x : Int32) : Int64 := (if x < 0 then (-1 : Int64) else (if x < (nI (u.2.2.1 0)) then (u.2.2.2 (((u.2.2.1 1) + 16 - x.toNatClampNeg) % 16)) else (-1 : Int64)))
set_option maxRecDepth 100000 in
set_option maxHeartbeats 4000000 in
theorem c_G_entry {l : Launch} {D : va_G} {dk : Nat → ClassId} {a : Nat → Nat} {A : Nat → Prop} {lt : Nat} {u : gm_St} {x : Int32} (hp0 : gm_ok u) : gm_L l D (gm_ty dk) (gm_W dk a) A lt y_G_entry b_G_entry 2 (some .long) rm_G_entry [.ref (a 0), .int x] u (v_G_entry u x) u := by
  refine gm_enterL (by decide) (Nat.le_of_ble_eq_true rfl) ?_
  intro p e s m args below meth c ls Q H locs hF hM hl hQ
  have hx := hF.1
  have hb := hF.2.1
  have hml := hF.2.2.1
  have hown := hF.2.2.2.1
  have hts := hF.2.2.2.2.1
  have hl : lv_has ls 2 [(0, .ref (a 0)), (1, .int x)] := hl
  have hk0 := hp0.1
  have hk1 := hp0.2
  refine lv_iload_n hx hb d_G_entry_0 rfl (lv_at hl 1 rfl) ?_
  refine lv_if_lt (tgt := 12) hx hb d_G_entry_1 rfl (fun h1 => ?_) (fun h1 => ?_)
  · refine lv_ldc2 (v := -1) hx hb hown (hts _ (gm_in 278 (by decide +kernel) rfl)) d_G_entry_12 ?_
    have hq := hQ H locs 15 ls
    simp only [v_G_entry, if_pos h1] at hq
    exact hq hM d_G_entry_15
  · refine lv_iload_n hx hb d_G_entry_4 rfl (lv_at hl 1 rfl) ?_
    refine lv_aload_n hx hb d_G_entry_5 rfl (lv_at hl 0 rfl) ?_
    refine gf_G_79 hF hM d_G_entry_6 ?_
    refine lv_icmp_lt (tgt := 16) hx hb d_G_entry_9 rfl (fun h2 => ?_) (fun h2 => ?_)
    · have hq_x := gm_ix (lo := 0) (n := (u.2.2.1 0)) h1 h2 (by omega) (by omega)
      have hm_x := hq_x.1
      have ex_x := hq_x.2
      refine lv_aload_n hx hb d_G_entry_16 rfl (lv_at hl 0 rfl) ?_
      refine gf_G_15 hF hM d_G_entry_17 ?_
      refine lv_aload_n hx hb d_G_entry_20 rfl (lv_at hl 0 rfl) ?_
      refine gf_G_84 hF hM d_G_entry_21 ?_
      refine lv_iload_n hx hb d_G_entry_24 rfl (lv_at hl 1 rfl) ?_
      refine lv_isub hx hb d_G_entry_25 ?_
      refine lv_bipush (v := 16) hx hb d_G_entry_26 (by decide) ?_
      refine lv_iadd hx hb d_G_entry_28 ?_
      refine gm_tp (y := (nI ((u.2.2.1 1) + 16 - x.toNatClampNeg))) (gm_ring ex_x (by omega)) ?_
      refine lv_bipush (v := 16) hx hb d_G_entry_29 (by decide) ?_
      refine lv_irem hx hb d_G_entry_31 (by decide) ?_
      refine gm_tp (y := (nI (((u.2.2.1 1) + 16 - x.toNatClampNeg) % 16))) (gm_rem rfl (by first | omega | (have := (‹gm_ok _›).1; omega) | exact Nat.lt_of_lt_of_le hp0 (by decide)) (by decide) (by decide)) ?_
      refine ga_recs (k := (((u.2.2.1 1) + 16 - x.toNatClampNeg) % 16)) hF hM rfl (by first | omega | exact Nat.mod_lt _ (by decide)) d_G_entry_32 ?_
      have hq := hQ H locs 33 ls
      simp only [v_G_entry, if_neg h1, if_pos h2] at hq
      exact hq hM d_G_entry_33
    · refine lv_ldc2 (v := -1) hx hb hown (hts _ (gm_in 278 (by decide +kernel) rfl)) d_G_entry_12 ?_
      have hq := hQ H locs 15 ls
      simp only [v_G_entry, if_neg h1, if_neg h2] at hq
      exact hq hM d_G_entry_15
theorem d_G_write_0 : decode b_G_write 0 = .ok (.iconst 0, 1) := by decide +kernel
theorem d_G_write_1 : decode b_G_write 1 = .ok (.istore_n 3, 1) := by decide +kernel
theorem d_G_write_2 : decode b_G_write 2 = .ok (.iload_n 3, 1) := by decide +kernel
theorem d_G_write_3 : decode b_G_write 3 = .ok (.bipush 16, 2) := by decide +kernel
theorem d_G_write_5 : decode b_G_write 5 = .ok (.if_icmp .ge 73, 3) := by decide +kernel
theorem d_G_write_8 : decode b_G_write 8 = .ok (.iload_n 2, 1) := by decide +kernel
theorem d_G_write_9 : decode b_G_write 9 = .ok (.iload_n 3, 1) := by decide +kernel
theorem d_G_write_10 : decode b_G_write 10 = .ok (.ishr, 1) := by decide +kernel
theorem d_G_write_11 : decode b_G_write 11 = .ok (.iconst 1, 1) := by decide +kernel
theorem d_G_write_12 : decode b_G_write 12 = .ok (.iand, 1) := by decide +kernel
theorem d_G_write_13 : decode b_G_write 13 = .ok (.iconst 1, 1) := by decide +kernel
theorem d_G_write_14 : decode b_G_write 14 = .ok (.if_icmp .ne 58, 3) := by decide +kernel
theorem d_G_write_17 : decode b_G_write 17 = .ok (.aload_n 0, 1) := by decide +kernel
theorem d_G_write_18 : decode b_G_write 18 = .ok (.aload_n 0, 1) := by decide +kernel
theorem d_G_write_19 : decode b_G_write 19 = .ok (.getfield 84, 3) := by decide +kernel
theorem d_G_write_22 : decode b_G_write 22 = .ok (.iconst 1, 1) := by decide +kernel
theorem d_G_write_23 : decode b_G_write 23 = .ok (.iadd, 1) := by decide +kernel
theorem d_G_write_24 : decode b_G_write 24 = .ok (.bipush 16, 2) := by decide +kernel
theorem d_G_write_26 : decode b_G_write 26 = .ok (.irem, 1) := by decide +kernel
theorem d_G_write_27 : decode b_G_write 27 = .ok (.putfield 84, 3) := by decide +kernel
theorem d_G_write_30 : decode b_G_write 30 = .ok (.aload_n 0, 1) := by decide +kernel
theorem d_G_write_31 : decode b_G_write 31 = .ok (.getfield 15, 3) := by decide +kernel
theorem d_G_write_34 : decode b_G_write 34 = .ok (.aload_n 0, 1) := by decide +kernel
theorem d_G_write_35 : decode b_G_write 35 = .ok (.getfield 84, 3) := by decide +kernel
theorem d_G_write_38 : decode b_G_write 38 = .ok (.aload_n 0, 1) := by decide +kernel
theorem d_G_write_39 : decode b_G_write 39 = .ok (.getfield 27, 3) := by decide +kernel
theorem d_G_write_42 : decode b_G_write 42 = .ok (.i2l, 1) := by decide +kernel
theorem d_G_write_43 : decode b_G_write 43 = .ok (.ldc2_w 106, 3) := by decide +kernel
theorem d_G_write_46 : decode b_G_write 46 = .ok (.lmul, 1) := by decide +kernel
theorem d_G_write_47 : decode b_G_write 47 = .ok (.iload_n 1, 1) := by decide +kernel
theorem d_G_write_48 : decode b_G_write 48 = .ok (.bipush 16, 2) := by decide +kernel
theorem d_G_write_50 : decode b_G_write 50 = .ok (.imul, 1) := by decide +kernel
theorem d_G_write_51 : decode b_G_write 51 = .ok (.i2l, 1) := by decide +kernel
theorem d_G_write_52 : decode b_G_write 52 = .ok (.ladd, 1) := by decide +kernel
theorem d_G_write_53 : decode b_G_write 53 = .ok (.iload_n 3, 1) := by decide +kernel
theorem d_G_write_54 : decode b_G_write 54 = .ok (.i2l, 1) := by decide +kernel
theorem d_G_write_55 : decode b_G_write 55 = .ok (.ladd, 1) := by decide +kernel
theorem d_G_write_56 : decode b_G_write 56 = .ok (.lastore, 1) := by decide +kernel
theorem d_G_write_57 : decode b_G_write 57 = .ok (.aload_n 0, 1) := by decide +kernel
theorem d_G_write_58 : decode b_G_write 58 = .ok (.aload_n 0, 1) := by decide +kernel
theorem d_G_write_59 : decode b_G_write 59 = .ok (.getfield 79, 3) := by decide +kernel
theorem d_G_write_62 : decode b_G_write 62 = .ok (.iconst 1, 1) := by decide +kernel
theorem d_G_write_63 : decode b_G_write 63 = .ok (.iadd, 1) := by decide +kernel
theorem d_G_write_64 : decode b_G_write 64 = .ok (.bipush 16, 2) := by decide +kernel
theorem d_G_write_66 : decode b_G_write 66 = .ok (.invokestatic 108, 3) := by decide +kernel
theorem d_G_write_69 : decode b_G_write 69 = .ok (.putfield 79, 3) := by decide +kernel
theorem d_G_write_72 : decode b_G_write 72 = .ok (.iinc 3 1, 3) := by decide +kernel
theorem d_G_write_75 : decode b_G_write 75 = .ok (.goto (-73), 3) := by decide +kernel
theorem d_G_write_78 : decode b_G_write 78 = .ok (.return_, 1) := by decide +kernel
def lp_G_write (mn : Nat) (g : Int32) : Nat → Nat → gm_St → gm_St
  | 0, _, u => u
  | k + 1, i, u => lp_G_write mn g k (i + 1) (if ((g >>> ((nI i) &&& 31)) &&& (1 : Int32)) = (1 : Int32) then (gm_sN (gm_sL (gm_sN u 1 (((u.2.2.1 1) + 1) % 16)) ((gm_sN u 1 (((u.2.2.1 1) + 1) % 16)).2.2.1 1) ((((((gm_sN u 1 (((u.2.2.1 1) + 1) % 16)).2.1 6 2)).toInt64 * (32 : Int64)) + (((nI mn) * (16 : Int32))).toInt64) + ((nI i)).toInt64)) 0 (min (((gm_sL (gm_sN u 1 (((u.2.2.1 1) + 1) % 16)) ((gm_sN u 1 (((u.2.2.1 1) + 1) % 16)).2.2.1 1) ((((((gm_sN u 1 (((u.2.2.1 1) + 1) % 16)).2.1 6 2)).toInt64 * (32 : Int64)) + (((nI mn) * (16 : Int32))).toInt64) + ((nI i)).toInt64)).2.2.1 0) + 1) 16)) else u)
def s_G_write (u : gm_St) (mn : Nat) (g : Int32) : gm_St := (lp_G_write mn g 16 0 u)
set_option maxRecDepth 100000 in
set_option maxHeartbeats 4000000 in
theorem c_G_write {l : Launch} {D : va_G} {dk : Nat → ClassId} {a : Nat → Nat} {A : Nat → Prop} {lt : Nat} {u : gm_St} {mn : Nat} {g : Int32} (h_mn : mn < 2) (hp0 : gm_ok u) : gm_V l D (gm_ty dk) (gm_W dk a) A lt y_G_write b_G_write 4 rm_G_write [.ref (a 0), .int (nI mn), .int g] u (s_G_write u mn g) := by
  refine gm_enterV (by decide) (Nat.le_of_ble_eq_true rfl) ?_
  intro p e s m args below meth c ls Q H locs hF hM hl hQ
  have hx := hF.1
  have hb := hF.2.1
  have hml := hF.2.2.1
  have hown := hF.2.2.2.1
  have hts := hF.2.2.2.2.1
  have hl : lv_has ls 4 [(0, .ref (a 0)), (1, .int (nI mn)), (2, .int g)] := hl
  refine lv_iconst (v := 0) hx hb d_G_write_0 (by decide) ?_
  refine lv_istore_n (lv' := [(3, .int (0 : Int32)), (0, .ref (a 0)), (1, .int (nI mn)), (2, .int g)]) hx hb d_G_write_1 rfl hl (by decide) rfl (fun ls hl => ?_)
  have L1 : ∀ (k1 i1 : Nat) (w1 : gm_St) (ls : Array Slot) (H : Heap) (locs : List Loc), i1 + k1 = 16 → gm_ok w1 → lv_has ls 4 [(3, .int (nI i1)), (0, .ref (a 0)), (1, .int (nI mn)), (2, .int g)] → gm_M D A s (gm_W dk a) w1 H locs → (∀ (ls : Array Slot) (H : Heap) (locs : List Loc), lv_has ls 4 [(3, .int (nI 16)), (0, .ref (a 0)), (1, .int (nI mn)), (2, .int g)] → gm_M D A s (gm_W dk a) (lp_G_write mn g k1 i1 w1) H locs → W p l e rm_G_write s m args below meth c H locs 0 0 Q (F0 m 78 ls [])) → W p l e rm_G_write s m args below meth c H locs 0 0 Q (F0 m 2 ls []) := by
    intro k1
    induction k1 with
    | zero =>
      intro i1 w1 ls H locs hk1 hI1 hl hM kk
      obtain rfl : i1 = 16 := by omega
      refine lv_iload_n hx hb d_G_write_2 rfl (lv_at hl 0 rfl) ?_
      refine lv_bipush (v := 16) hx hb d_G_write_3 (by decide) ?_
      refine lv_icmp_ge (tgt := 78) hx hb d_G_write_5 rfl (fun _ => ?_) (fun h => absurd (by decide) h)
      exact kk ls H locs hl hM
    | succ k1 ih =>
      intro i1 w1 ls H locs hk1 hI1 hl hM kk
      refine lv_iload_n hx hb d_G_write_2 rfl (lv_at hl 0 rfl) ?_
      refine lv_bipush (v := 16) hx hb d_G_write_3 (by decide) ?_
      refine lv_icmp_ge (tgt := 78) hx hb d_G_write_5 rfl (fun h => absurd h (nI_ge (a := i1) (b := 16) (by omega) (by first | decide | omega))) (fun _ => ?_)
      refine lv_iload_n hx hb d_G_write_8 rfl (lv_at hl 3 rfl) ?_
      refine lv_iload_n hx hb d_G_write_9 rfl (lv_at hl 0 rfl) ?_
      refine lv_ishr hx hb d_G_write_10 ?_
      refine lv_iconst (v := 1) hx hb d_G_write_11 (by decide) ?_
      refine lv_iand hx hb d_G_write_12 ?_
      refine lv_iconst (v := 1) hx hb d_G_write_13 (by decide) ?_
      have J3 : ∀ (ls : Array Slot) (H : Heap) (locs : List Loc), lv_has ls 4 [(0, .ref (a 0)), (1, .int (nI mn)), (2, .int g), (3, .int (nI i1))] → gm_M D A s (gm_W dk a) (if ((g >>> ((nI i1) &&& 31)) &&& (1 : Int32)) = (1 : Int32) then (gm_sN (gm_sL (gm_sN w1 1 (((w1.2.2.1 1) + 1) % 16)) ((gm_sN w1 1 (((w1.2.2.1 1) + 1) % 16)).2.2.1 1) ((((((gm_sN w1 1 (((w1.2.2.1 1) + 1) % 16)).2.1 6 2)).toInt64 * (32 : Int64)) + (((nI mn) * (16 : Int32))).toInt64) + ((nI i1)).toInt64)) 0 (min (((gm_sL (gm_sN w1 1 (((w1.2.2.1 1) + 1) % 16)) ((gm_sN w1 1 (((w1.2.2.1 1) + 1) % 16)).2.2.1 1) ((((((gm_sN w1 1 (((w1.2.2.1 1) + 1) % 16)).2.1 6 2)).toInt64 * (32 : Int64)) + (((nI mn) * (16 : Int32))).toInt64) + ((nI i1)).toInt64)).2.2.1 0) + 1) 16)) else w1) H locs → W p l e rm_G_write s m args below meth c H locs 0 0 Q (F0 m 72 ls []) := by
        intro ls H locs hl hM
        refine lv_iinc (k := 3) (v := (nI (i1 + 1))) (lv' := [(3, .int (nI (i1 + 1))), (0, .ref (a 0)), (1, .int (nI mn)), (2, .int g)]) hx hb d_G_write_72 hl rfl (nI_1 _) (by decide) rfl (fun ls hl => ?_)
        refine lv_goto (tgt := 2) hx hb d_G_write_75 rfl ?_
        have hK := kk
        simp only [lp_G_write] at hK
        exact ih (i1 + 1) (if ((g >>> ((nI i1) &&& 31)) &&& (1 : Int32)) = (1 : Int32) then (gm_sN (gm_sL (gm_sN w1 1 (((w1.2.2.1 1) + 1) % 16)) ((gm_sN w1 1 (((w1.2.2.1 1) + 1) % 16)).2.2.1 1) ((((((gm_sN w1 1 (((w1.2.2.1 1) + 1) % 16)).2.1 6 2)).toInt64 * (32 : Int64)) + (((nI mn) * (16 : Int32))).toInt64) + ((nI i1)).toInt64)) 0 (min (((gm_sL (gm_sN w1 1 (((w1.2.2.1 1) + 1) % 16)) ((gm_sN w1 1 (((w1.2.2.1 1) + 1) % 16)).2.2.1 1) ((((((gm_sN w1 1 (((w1.2.2.1 1) + 1) % 16)).2.1 6 2)).toInt64 * (32 : Int64)) + (((nI mn) * (16 : Int32))).toInt64) + ((nI i1)).toInt64)).2.2.1 0) + 1) 16)) else w1) ls H locs (by omega) (by first | assumption | (split <;> first | assumption | exact ⟨Nat.mod_lt _ (by decide), Nat.min_le_right _ _⟩)) hl hM hK
      refine lv_icmp_ne (tgt := 72) hx hb d_G_write_14 rfl (fun h2 => ?_) (fun h2 => ?_)
      · have hJ := J3
        try simp only [if_neg h2] at hJ
        exact hJ ls H locs (lv_sub hl [1, 2, 3, 0] rfl) hM
      · refine lv_aload_n hx hb d_G_write_17 rfl (lv_at hl 1 rfl) ?_
        refine lv_aload_n hx hb d_G_write_18 rfl (lv_at hl 1 rfl) ?_
        refine gf_G_84 hF hM d_G_write_19 ?_
        refine lv_iconst (v := 1) hx hb d_G_write_22 (by decide) ?_
        refine lv_iadd hx hb d_G_write_23 ?_
        refine lv_bipush (v := 16) hx hb d_G_write_24 (by decide) ?_
        refine lv_irem hx hb d_G_write_26 (by decide) ?_
        refine gm_tp (y := (nI (((w1.2.2.1 1) + 1) % 16))) (gm_rem (by first | rfl | (simp only [← nI_add, ← pk_mul] <;> rfl)) (by first | omega | (have := (‹gm_ok _›).1; omega) | exact Nat.lt_of_lt_of_le hp0 (by decide)) (by decide) (by decide)) ?_
        refine gp_G_84 hF hM (x := (((w1.2.2.1 1) + 1) % 16)) rfl d_G_write_27 (fun H locs hM => ?_)
        refine lv_aload_n hx hb d_G_write_30 rfl (lv_at hl 1 rfl) ?_
        refine gf_G_15 hF hM d_G_write_31 ?_
        refine lv_aload_n hx hb d_G_write_34 rfl (lv_at hl 1 rfl) ?_
        refine gf_G_84 hF hM d_G_write_35 ?_
        refine lv_aload_n hx hb d_G_write_38 rfl (lv_at hl 1 rfl) ?_
        refine gf_G_27 hF hM d_G_write_39 ?_
        refine lv_i2l hx hb d_G_write_42 rfl ?_
        refine lv_ldc2 (v := 32) hx hb hown (hts _ (gm_in 212 (by decide +kernel) rfl)) d_G_write_43 ?_
        refine lv_lmul hx hb d_G_write_46 ?_
        refine lv_iload_n hx hb d_G_write_47 rfl (lv_at hl 2 rfl) ?_
        refine lv_bipush (v := 16) hx hb d_G_write_48 (by decide) ?_
        refine lv_imul hx hb d_G_write_50 ?_
        refine lv_i2l hx hb d_G_write_51 rfl ?_
        refine lv_ladd hx hb d_G_write_52 ?_
        refine lv_iload_n hx hb d_G_write_53 rfl (lv_at hl 0 rfl) ?_
        refine lv_i2l hx hb d_G_write_54 rfl ?_
        refine lv_ladd hx hb d_G_write_55 ?_
        refine gq_recs (k := ((gm_sN w1 1 (((w1.2.2.1 1) + 1) % 16)).2.2.1 1)) hF hM rfl (by first | omega | exact Nat.mod_lt _ (by decide)) d_G_write_56 (fun H locs hM => ?_)
        refine lv_aload_n hx hb d_G_write_57 rfl (lv_at hl 1 rfl) ?_
        refine lv_aload_n hx hb d_G_write_58 rfl (lv_at hl 1 rfl) ?_
        refine gf_G_79 hF hM d_G_write_59 ?_
        refine lv_iconst (v := 1) hx hb d_G_write_62 (by decide) ?_
        refine lv_iadd hx hb d_G_write_63 ?_
        refine lv_bipush (v := 16) hx hb d_G_write_64 (by decide) ?_
        refine va_mmin hx hb (by rw [hml]; exact hl.1.symm) hown (hts _ gw_ml_G_108) (hts _ gw_mst_min) (hts _ gw_mini) (hts _ gw_mcode_min) (Nat.le_of_ble_eq_true rfl) (Nat.le_of_ble_eq_true rfl) (Nat.zero_le _) (Nat.zero_le _) d_G_write_66 ?_
        refine gm_tp (y := (nI (min (((gm_sL (gm_sN w1 1 (((w1.2.2.1 1) + 1) % 16)) ((gm_sN w1 1 (((w1.2.2.1 1) + 1) % 16)).2.2.1 1) ((((((gm_sN w1 1 (((w1.2.2.1 1) + 1) % 16)).2.1 6 2)).toInt64 * (32 : Int64)) + (((nI mn) * (16 : Int32))).toInt64) + ((nI i1)).toInt64)).2.2.1 0) + 1) 16))) (gm_min (by first | rfl | (simp only [← nI_add] <;> rfl)) (Nat.lt_of_le_of_lt (Nat.succ_le_succ hI1.2) (by decide))) ?_
        refine gp_G_79 hF hM (x := (min (((gm_sL (gm_sN w1 1 (((w1.2.2.1 1) + 1) % 16)) ((gm_sN w1 1 (((w1.2.2.1 1) + 1) % 16)).2.2.1 1) ((((((gm_sN w1 1 (((w1.2.2.1 1) + 1) % 16)).2.1 6 2)).toInt64 * (32 : Int64)) + (((nI mn) * (16 : Int32))).toInt64) + ((nI i1)).toInt64)).2.2.1 0) + 1) 16)) rfl d_G_write_69 (fun H locs hM => ?_)
        have hJ := J3
        try simp only [if_pos h2] at hJ
        exact hJ ls H locs (lv_sub hl [1, 2, 3, 0] rfl) hM
  refine L1 16 0 u ls H locs (by omega) hp0 hl hM (fun ls H locs hl hM => ?_)
  have hq := hQ H locs 78 ls
  simp only [s_G_write] at hq
  exact hq hM d_G_write_78
theorem gm_ok_lpw {mn : Nat} {g : Int32} : ∀ (k i : Nat) (u : gm_St), gm_ok u → gm_ok (lp_G_write mn g k i u) := by
  intro k
  induction k with
  | zero => intro i u h; exact h
  | succ k ih =>
    intro i u h
    simp only [lp_G_write]
    apply ih
    split <;> first | exact h | exact ⟨Nat.mod_lt _ (by decide), Nat.min_le_right _ _⟩
theorem gm_ok_write {u : gm_St} {mn : Nat} {g : Int32} (h : gm_ok u) : gm_ok (s_G_write u mn g) := gm_ok_lpw 16 0 u h
end
section
theorem d_G_tick_0 : decode b_G_tick 0 = .ok (.iload_n 2, 1) := by decide +kernel
theorem d_G_tick_1 : decode b_G_tick 1 = .ok (.iconst 1, 1) := by decide +kernel
theorem d_G_tick_2 : decode b_G_tick 2 = .ok (.if_icmp .lt 9, 3) := by decide +kernel
theorem d_G_tick_5 : decode b_G_tick 5 = .ok (.iload_n 2, 1) := by decide +kernel
theorem d_G_tick_6 : decode b_G_tick 6 = .ok (.bipush 100, 2) := by decide +kernel
theorem d_G_tick_8 : decode b_G_tick 8 = .ok (.if_icmp .le 5, 3) := by decide +kernel
theorem d_G_tick_11 : decode b_G_tick 11 = .ok (.iconst (-1), 1) := by decide +kernel
theorem d_G_tick_12 : decode b_G_tick 12 = .ok (.ireturn, 1) := by decide +kernel
theorem d_G_tick_13 : decode b_G_tick 13 = .ok (.iconst 0, 1) := by decide +kernel
theorem d_G_tick_14 : decode b_G_tick 14 = .ok (.istore_n 3, 1) := by decide +kernel
theorem d_G_tick_15 : decode b_G_tick 15 = .ok (.iload_n 3, 1) := by decide +kernel
theorem d_G_tick_16 : decode b_G_tick 16 = .ok (.iload_n 2, 1) := by decide +kernel
theorem d_G_tick_17 : decode b_G_tick 17 = .ok (.if_icmp .ge 55, 3) := by decide +kernel
theorem d_G_tick_20 : decode b_G_tick 20 = .ok (.aload_n 0, 1) := by decide +kernel
theorem d_G_tick_21 : decode b_G_tick 21 = .ok (.dup, 1) := by decide +kernel
theorem d_G_tick_22 : decode b_G_tick 22 = .ok (.getfield 27, 3) := by decide +kernel
theorem d_G_tick_25 : decode b_G_tick 25 = .ok (.iconst 1, 1) := by decide +kernel
theorem d_G_tick_26 : decode b_G_tick 26 = .ok (.iadd, 1) := by decide +kernel
theorem d_G_tick_27 : decode b_G_tick 27 = .ok (.putfield 27, 3) := by decide +kernel
theorem d_G_tick_30 : decode b_G_tick 30 = .ok (.iconst 0, 1) := by decide +kernel
theorem d_G_tick_31 : decode b_G_tick 31 = .ok (.istore 4, 2) := by decide +kernel
theorem d_G_tick_33 : decode b_G_tick 33 = .ok (.iload 4, 2) := by decide +kernel
theorem d_G_tick_35 : decode b_G_tick 35 = .ok (.iconst 2, 1) := by decide +kernel
theorem d_G_tick_36 : decode b_G_tick 36 = .ok (.if_icmp .ge 30, 3) := by decide +kernel
theorem d_G_tick_39 : decode b_G_tick 39 = .ok (.aload_n 0, 1) := by decide +kernel
theorem d_G_tick_40 : decode b_G_tick 40 = .ok (.iload 4, 2) := by decide +kernel
theorem d_G_tick_42 : decode b_G_tick 42 = .ok (.aload_n 0, 1) := by decide +kernel
theorem d_G_tick_43 : decode b_G_tick 43 = .ok (.getfield 11, 3) := by decide +kernel
theorem d_G_tick_46 : decode b_G_tick 46 = .ok (.iload 4, 2) := by decide +kernel
theorem d_G_tick_48 : decode b_G_tick 48 = .ok (.aaload, 1) := by decide +kernel
theorem d_G_tick_49 : decode b_G_tick 49 = .ok (.iload_n 1, 1) := by decide +kernel
theorem d_G_tick_50 : decode b_G_tick 50 = .ok (.aload_n 0, 1) := by decide +kernel
theorem d_G_tick_51 : decode b_G_tick 51 = .ok (.getfield 20, 3) := by decide +kernel
theorem d_G_tick_54 : decode b_G_tick 54 = .ok (.invokevirtual 31, 3) := by decide +kernel
theorem d_G_tick_57 : decode b_G_tick 57 = .ok (.invokevirtual 35, 3) := by decide +kernel
theorem d_G_tick_60 : decode b_G_tick 60 = .ok (.iinc 4 1, 3) := by decide +kernel
theorem d_G_tick_63 : decode b_G_tick 63 = .ok (.goto (-30), 3) := by decide +kernel
theorem d_G_tick_66 : decode b_G_tick 66 = .ok (.iinc 3 1, 3) := by decide +kernel
theorem d_G_tick_69 : decode b_G_tick 69 = .ok (.goto (-54), 3) := by decide +kernel
theorem d_G_tick_72 : decode b_G_tick 72 = .ok (.aload_n 0, 1) := by decide +kernel
theorem d_G_tick_73 : decode b_G_tick 73 = .ok (.getfield 27, 3) := by decide +kernel
theorem d_G_tick_76 : decode b_G_tick 76 = .ok (.ireturn, 1) := by decide +kernel
def lp_G_tick2 (ch : Int32) : Nat → Nat → gm_St → gm_St
  | 0, _, u => u
  | k + 1, i, u => lp_G_tick2 ch k (i + 1) (s_G_write (s_M_step u i ch (u.1 5 0)) i (v_M_step u i ch (u.1 5 0)))
def lp_G_tick (ch : Int32) : Nat → Nat → gm_St → gm_St
  | 0, _, u => u
  | k + 1, i, u => lp_G_tick ch k (i + 1) (lp_G_tick2 ch 2 0 (gm_sG u 6 2 ((u.2.1 6 2) + (1 : Int32))))
def v_G_tick (u : gm_St) (ch : Int32) (xn : Int32) : Int32 := (if xn < (1 : Int32) then (-1 : Int32) else (if xn ≤ (100 : Int32) then ((lp_G_tick ch xn.toNatClampNeg 0 u).2.1 6 2) else (-1 : Int32)))
def s_G_tick (u : gm_St) (ch : Int32) (xn : Int32) : gm_St := (if xn < (1 : Int32) then u else (if xn ≤ (100 : Int32) then (lp_G_tick ch xn.toNatClampNeg 0 u) else u))
theorem gm_ok_tick2 {ch : Int32} : ∀ (k i : Nat) (u : gm_St), gm_ok u → gm_ok (lp_G_tick2 ch k i u) := by
  intro k
  induction k with
  | zero => intro i u h; exact h
  | succ k ih => intro i u h; simp only [lp_G_tick2]; exact ih _ _ (gm_ok_write (gm_ok_step h))
set_option maxRecDepth 100000 in
set_option maxHeartbeats 4000000 in
theorem c_G_tick {l : Launch} {D : va_G} {dk : Nat → ClassId} {a : Nat → Nat} {A : Nat → Prop} {lt : Nat} {u : gm_St} {ch : Int32} {xn : Int32} (hp0 : gm_ok u) : gm_I l D (gm_ty dk) (gm_W dk a) A lt y_G_tick b_G_tick 5 (some .int) rm_G_tick [.ref (a 0), .int ch, .int xn] u (v_G_tick u ch xn) (s_G_tick u ch xn) := by
  refine gm_enterI (by decide) (Nat.le_of_ble_eq_true rfl) ?_
  intro p e s m args below meth c ls Q H locs hF hM hl hQ
  have hx := hF.1
  have hb := hF.2.1
  have hml := hF.2.2.1
  have hown := hF.2.2.2.1
  have hts := hF.2.2.2.2.1
  have hl : lv_has ls 5 [(0, .ref (a 0)), (1, .int ch), (2, .int xn)] := hl
  refine lv_iload_n hx hb d_G_tick_0 rfl (lv_at hl 2 rfl) ?_
  refine lv_iconst (v := 1) hx hb d_G_tick_1 (by decide) ?_
  refine lv_icmp_lt (tgt := 11) hx hb d_G_tick_2 rfl (fun h1 => ?_) (fun h1 => ?_)
  · refine lv_iconst (v := -1) hx hb d_G_tick_11 (by decide) ?_
    have hq := hQ H locs 12 ls
    simp only [v_G_tick, s_G_tick, if_pos h1] at hq
    exact hq hM d_G_tick_12
  · refine lv_iload_n hx hb d_G_tick_5 rfl (lv_at hl 2 rfl) ?_
    refine lv_bipush (v := 100) hx hb d_G_tick_6 (by decide) ?_
    refine lv_icmp_le (tgt := 13) hx hb d_G_tick_8 rfl (fun h2 => ?_) (fun h2 => ?_)
    · obtain ⟨n, hn, rfl⟩ := gm_ixL (lo := 1) (n := 100) h1 h2 (by decide) (by decide)
      refine lv_iconst (v := 0) hx hb d_G_tick_13 (by decide) ?_
      refine lv_istore_n (lv' := [(3, .int (0 : Int32)), (0, .ref (a 0)), (1, .int ch), (2, .int (nI n))]) hx hb d_G_tick_14 rfl hl (by decide) rfl (fun ls hl => ?_)
      have L3 : ∀ (k3 i3 : Nat) (w3 : gm_St) (ls : Array Slot) (H : Heap) (locs : List Loc), i3 + k3 = n → gm_ok w3 → lv_has ls 5 [(3, .int (nI i3)), (0, .ref (a 0)), (1, .int ch), (2, .int (nI n))] → gm_M D A s (gm_W dk a) w3 H locs → (∀ (ls : Array Slot) (H : Heap) (locs : List Loc), lv_has ls 5 [(3, .int (nI n)), (0, .ref (a 0)), (1, .int ch), (2, .int (nI n))] → gm_M D A s (gm_W dk a) (lp_G_tick ch k3 i3 w3) H locs → W p l e rm_G_tick s m args below meth c H locs 0 0 Q (F0 m 72 ls [])) → W p l e rm_G_tick s m args below meth c H locs 0 0 Q (F0 m 15 ls []) := by
        intro k3
        induction k3 with
        | zero =>
          intro i3 w3 ls H locs hk3 hI3 hl hM kk
          have hN : i3 = n := by omega
          refine lv_iload_n hx hb d_G_tick_15 rfl (lv_at hl 0 rfl) ?_
          refine lv_iload_n hx hb d_G_tick_16 rfl (lv_at hl 3 rfl) ?_
          refine lv_icmp_ge (tgt := 72) hx hb d_G_tick_17 rfl (fun _ => ?_) (fun h => absurd (by rw [hN]; exact nI_le (Nat.le_refl _) (by omega)) h)
          exact kk ls H locs (by rw [hN] at hl; exact hl) hM
        | succ k3 ih =>
          intro i3 w3 ls H locs hk3 hI3 hl hM kk
          refine lv_iload_n hx hb d_G_tick_15 rfl (lv_at hl 0 rfl) ?_
          refine lv_iload_n hx hb d_G_tick_16 rfl (lv_at hl 3 rfl) ?_
          refine lv_icmp_ge (tgt := 72) hx hb d_G_tick_17 rfl (fun h => absurd h (nI_ge (a := i3) (b := n) (by omega) (by first | decide | omega))) (fun _ => ?_)
          refine lv_aload_n hx hb d_G_tick_20 rfl (lv_at hl 1 rfl) ?_
          refine lv_dup hx hb d_G_tick_21 rfl ?_
          refine gf_G_27 hF hM d_G_tick_22 ?_
          refine lv_iconst (v := 1) hx hb d_G_tick_25 (by decide) ?_
          refine lv_iadd hx hb d_G_tick_26 ?_
          refine gp_G_27 hF hM d_G_tick_27 (fun H locs hM => ?_)
          refine lv_iconst (v := 0) hx hb d_G_tick_30 (by decide) ?_
          refine lv_istore (lv' := [(4, .int (0 : Int32)), (3, .int (nI i3)), (0, .ref (a 0)), (1, .int ch), (2, .int (nI n))]) hx hb d_G_tick_31 hl (by decide) rfl (fun ls hl => ?_)
          have L4 : ∀ (k4 i4 : Nat) (w4 : gm_St) (ls : Array Slot) (H : Heap) (locs : List Loc), i4 + k4 = 2 → gm_ok w4 → lv_has ls 5 [(4, .int (nI i4)), (3, .int (nI i3)), (0, .ref (a 0)), (1, .int ch), (2, .int (nI n))] → gm_M D A s (gm_W dk a) w4 H locs → (∀ (ls : Array Slot) (H : Heap) (locs : List Loc), lv_has ls 5 [(4, .int (nI 2)), (3, .int (nI i3)), (0, .ref (a 0)), (1, .int ch), (2, .int (nI n))] → gm_M D A s (gm_W dk a) (lp_G_tick2 ch k4 i4 w4) H locs → W p l e rm_G_tick s m args below meth c H locs 0 0 Q (F0 m 66 ls [])) → W p l e rm_G_tick s m args below meth c H locs 0 0 Q (F0 m 33 ls []) := by
            intro k4
            induction k4 with
            | zero =>
              intro i4 w4 ls H locs hk4 hI4 hl hM kk
              obtain rfl : i4 = 2 := by omega
              refine lv_iload hx hb d_G_tick_33 (lv_at hl 0 rfl) ?_
              refine lv_iconst (v := 2) hx hb d_G_tick_35 (by decide) ?_
              refine lv_icmp_ge (tgt := 66) hx hb d_G_tick_36 rfl (fun _ => ?_) (fun h => absurd (by decide) h)
              exact kk ls H locs hl hM
            | succ k4 ih =>
              intro i4 w4 ls H locs hk4 hI4 hl hM kk
              refine lv_iload hx hb d_G_tick_33 (lv_at hl 0 rfl) ?_
              refine lv_iconst (v := 2) hx hb d_G_tick_35 (by decide) ?_
              refine lv_icmp_ge (tgt := 66) hx hb d_G_tick_36 rfl (fun h => absurd h (nI_ge (a := i4) (b := 2) (by omega) (by first | decide | omega))) (fun _ => ?_)
              refine lv_aload_n hx hb d_G_tick_39 rfl (lv_at hl 2 rfl) ?_
              refine lv_iload hx hb d_G_tick_40 (lv_at hl 0 rfl) ?_
              refine lv_aload_n hx hb d_G_tick_42 rfl (lv_at hl 2 rfl) ?_
              refine gf_G_11 hF hM d_G_tick_43 ?_
              refine lv_iload hx hb d_G_tick_46 (lv_at hl 0 rfl) ?_
              refine ga_mods (k := i4) hF hM rfl (by first | omega | exact Nat.mod_lt _ (by decide)) d_G_tick_48 ?_
              refine lv_iload_n hx hb d_G_tick_49 rfl (lv_at hl 3 rfl) ?_
              refine lv_aload_n hx hb d_G_tick_50 rfl (lv_at hl 2 rfl) ?_
              refine gf_G_20 hF hM d_G_tick_51 ?_
              refine gm_Vi (As := [.int ch, .int (gm_b (w4.1 5 0))]) (rest := [.int (nI i4), .ref (a 0)]) hF hM (c_M_step (u := w4) (m := i4) (ch := ch) (dw := (w4.1 5 0)) (by omega)) (gk_G_31 hts ⟨by decide, by decide⟩) (gv_M hF hM (by omega) rfl) rfl hl.1 rfl (Nat.le_of_ble_eq_true rfl) ⟨Nat.zero_le _, Nat.zero_le _⟩ d_G_tick_54 (fun H locs hM => ?_)
              refine gm_Vv (As := [.int (nI i4), .int (v_M_step w4 i4 ch (w4.1 5 0))]) (rest := []) hF hM (c_G_write (u := (s_M_step w4 i4 ch (w4.1 5 0))) (mn := i4) (g := (v_M_step w4 i4 ch (w4.1 5 0))) (by omega) (gm_ok_step ‹gm_ok _›)) (gk_G_35 hts ⟨by decide, by decide⟩) (gv_G hF hM rfl) rfl hl.1 rfl (Nat.le_of_ble_eq_true rfl) ⟨Nat.zero_le _, Nat.zero_le _⟩ d_G_tick_57 (fun H locs hM => ?_)
              refine lv_iinc (k := 0) (v := (nI (i4 + 1))) (lv' := [(4, .int (nI (i4 + 1))), (3, .int (nI i3)), (0, .ref (a 0)), (1, .int ch), (2, .int (nI n))]) hx hb d_G_tick_60 hl rfl (nI_1 _) (by decide) rfl (fun ls hl => ?_)
              refine lv_goto (tgt := 33) hx hb d_G_tick_63 rfl ?_
              have hK := kk
              simp only [lp_G_tick2] at hK
              exact ih (i4 + 1) (s_G_write (s_M_step w4 i4 ch (w4.1 5 0)) i4 (v_M_step w4 i4 ch (w4.1 5 0))) ls H locs (by omega) (gm_ok_write (gm_ok_step hI4)) hl hM hK
          refine L4 2 0 (gm_sG w3 6 2 ((w3.2.1 6 2) + (1 : Int32))) ls H locs (by omega) hI3 hl hM (fun ls H locs hl hM => ?_)
          refine lv_iinc (k := 1) (v := (nI (i3 + 1))) (lv' := [(3, .int (nI (i3 + 1))), (4, .int (nI 2)), (0, .ref (a 0)), (1, .int ch), (2, .int (nI n))]) hx hb d_G_tick_66 hl rfl (nI_1 _) (by decide) rfl (fun ls hl => ?_)
          refine lv_goto (tgt := 15) hx hb d_G_tick_69 rfl ?_
          have hK := kk
          simp only [lp_G_tick] at hK
          exact ih (i3 + 1) (lp_G_tick2 ch 2 0 (gm_sG w3 6 2 ((w3.2.1 6 2) + (1 : Int32)))) ls H locs (by omega) (gm_ok_tick2 2 0 _ hI3) (lv_sub hl [0, 2, 3, 4] rfl) hM hK
      refine L3 n 0 u ls H locs (by omega) hp0 hl hM (fun ls H locs hl hM => ?_)
      refine lv_aload_n hx hb d_G_tick_72 rfl (lv_at hl 1 rfl) ?_
      refine gf_G_27 hF hM d_G_tick_73 ?_
      have hq := hQ H locs 76 ls
      simp only [v_G_tick, s_G_tick, if_neg h1, if_pos h2, nI_clamp (show n < 2 ^ 31 by omega)] at hq
      exact hq hM d_G_tick_76
    · refine lv_iconst (v := -1) hx hb d_G_tick_11 (by decide) ?_
      have hq := hQ H locs 12 ls
      simp only [v_G_tick, s_G_tick, if_neg h1, if_neg h2] at hq
      exact hq hM d_G_tick_12
end
section
theorem d_R_isModule_0 : decode b_R_isModule 0 = .ok (.iload_n 0, 1) := by decide +kernel
theorem d_R_isModule_1 : decode b_R_isModule 1 = .ok (.ifCond .eq 8, 3) := by decide +kernel
theorem d_R_isModule_4 : decode b_R_isModule 4 = .ok (.iload_n 0, 1) := by decide +kernel
theorem d_R_isModule_5 : decode b_R_isModule 5 = .ok (.iconst 1, 1) := by decide +kernel
theorem d_R_isModule_6 : decode b_R_isModule 6 = .ok (.if_icmp .ne 7, 3) := by decide +kernel
theorem d_R_isModule_9 : decode b_R_isModule 9 = .ok (.iconst 1, 1) := by decide +kernel
theorem d_R_isModule_10 : decode b_R_isModule 10 = .ok (.goto 4, 3) := by decide +kernel
theorem d_R_isModule_13 : decode b_R_isModule 13 = .ok (.iconst 0, 1) := by decide +kernel
theorem d_R_isModule_14 : decode b_R_isModule 14 = .ok (.ireturn, 1) := by decide +kernel
def v_R_isModule (x : Int32) : Bool := (if x = 0 then true else (if x = (1 : Int32) then true else false))
set_option maxRecDepth 100000 in
set_option maxHeartbeats 4000000 in
theorem c_R_isModule {l : Launch} {D : va_G} {dk : Nat → ClassId} {Wd : gm_St → va_W} {A : Nat → Prop} {lt : Nat} {u : gm_St} {x : Int32} : gm_I l D (gm_ty dk) Wd A lt y_R_isModule b_R_isModule 1 (some .boolean) rm_R_isModule [.int x] u (gm_b (v_R_isModule x)) u := by
  refine gm_enterZ (by decide) (Nat.le_of_ble_eq_true rfl) ?_
  intro p e s m args below meth c ls Q H locs hF hM hl hQ
  have hx := hF.1
  have hb := hF.2.1
  have hml := hF.2.2.1
  have hown := hF.2.2.2.1
  have hts := hF.2.2.2.2.1
  have hl : lv_has ls 1 [(0, .int x)] := hl
  refine lv_iload_n hx hb d_R_isModule_0 rfl (lv_at hl 0 rfl) ?_
  have J2 : ∀ (ls : Array Slot) (H : Heap) (locs : List Loc), lv_has ls 1 [(0, .int x)] → gm_M D A s Wd u H locs → W p l e rm_R_isModule s m args below meth c H locs 0 0 Q (F0 m 14 ls [.int (gm_b (if x = 0 then true else (if x = (1 : Int32) then true else false)))]) := by
    intro ls H locs hl hM
    have hq := hQ H locs 14 ls
    simp only [v_R_isModule] at hq
    exact hq hM d_R_isModule_14
  refine lv_if_eq (tgt := 9) hx hb d_R_isModule_1 rfl (fun h1 => ?_) (fun h1 => ?_)
  · refine lv_iconst (v := 1) hx hb d_R_isModule_9 (by decide) ?_
    refine lv_goto (tgt := 14) hx hb d_R_isModule_10 rfl ?_
    have hJ := J2
    try simp only [if_pos h1] at hJ
    exact hJ ls H locs hl hM
  · refine lv_iload_n hx hb d_R_isModule_4 rfl (lv_at hl 0 rfl) ?_
    refine lv_iconst (v := 1) hx hb d_R_isModule_5 (by decide) ?_
    refine lv_icmp_ne (tgt := 13) hx hb d_R_isModule_6 rfl (fun h3 => ?_) (fun h3 => ?_)
    · refine lv_iconst (v := 0) hx hb d_R_isModule_13 (by decide) ?_
      have hJ := J2
      try simp only [if_neg h1, if_neg h3] at hJ
      exact hJ ls H locs hl hM
    · refine lv_iconst (v := 1) hx hb d_R_isModule_9 (by decide) ?_
      refine lv_goto (tgt := 14) hx hb d_R_isModule_10 rfl ?_
      have hJ := J2
      try simp only [if_neg h1, if_pos h3] at hJ
      exact hJ ls H locs hl hM
theorem gr_isME {x : Int32} (h : v_R_isModule x = true) : ∃ j : Nat, j < 2 ∧ x = nI j := by
  unfold v_R_isModule at h
  by_cases h0 : x = 0
  · exact ⟨0, by decide, h0⟩
  · rw [if_neg h0] at h
    by_cases h1 : x = 1
    · exact ⟨1, by decide, h1⟩
    · rw [if_neg h1] at h; cases h
theorem gr_isM {x : Int32} (h : v_R_isModule x = true) : x.toNatClampNeg < 2 ∧ x = nI x.toNatClampNeg := by
  obtain ⟨j, hj, rfl⟩ := gr_isME h
  rw [nI_clamp (by omega)]
  exact ⟨hj, rfl⟩
theorem gr_kept {x : Int32} {w : Nat} (h0 : ¬ x < 0) (h : x < (if (16 : Int32) ≤ (nI w) then (16 : Int32) else (nI w))) (hw : w ≤ 1073741824) : (x.toNatClampNeg < w ∧ x.toNatClampNeg < 16) ∧ x = nI x.toNatClampNeg := by
  by_cases c : 16 ≤ w
  · rw [if_pos (show (16 : Int32) ≤ nI w from nI_le (a := 16) c (by omega))] at h
    have q := gm_ix (lo := 0) (n := 16) h0 h (by decide) (by decide)
    exact ⟨⟨by omega, q.1.2⟩, q.2⟩
  · rw [if_neg (show ¬ (16 : Int32) ≤ nI w from nI_ge (b := 16) (by omega) (by decide))] at h
    have q := gm_ix (lo := 0) (n := w) h0 h (by omega) (by omega)
    exact ⟨⟨q.1.2, by omega⟩, q.2⟩
theorem gr_pred {x : Int32} {n : Nat} (hx : x = nI (n + 1)) : x - 1 = nI n := by
  subst hx; exact nI_pred n
theorem gr_sub {x y : Int32} {a b : Nat} (hx : x = nI a) (hy : y = nI b) (h : b ≤ a) : x - y = nI (a - b) := by
  subst hx; subst hy; exact pk_sub h
theorem d_R_handle_0 : decode b_R_handle 0 = .ok (.aload_n 0, 1) := by decide +kernel
theorem d_R_handle_1 : decode b_R_handle 1 = .ok (.getfield 42, 3) := by decide +kernel
theorem d_R_handle_4 : decode b_R_handle 4 = .ok (.iload_n 1, 1) := by decide +kernel
theorem d_R_handle_5 : decode b_R_handle 5 = .ok (.if_icmp .ne 5, 3) := by decide +kernel
theorem d_R_handle_8 : decode b_R_handle 8 = .ok (.iconst 0, 1) := by decide +kernel
theorem d_R_handle_9 : decode b_R_handle 9 = .ok (.ireturn, 1) := by decide +kernel
theorem d_R_handle_10 : decode b_R_handle 10 = .ok (.aload_n 0, 1) := by decide +kernel
theorem d_R_handle_11 : decode b_R_handle 11 = .ok (.iload_n 1, 1) := by decide +kernel
theorem d_R_handle_12 : decode b_R_handle 12 = .ok (.putfield 42, 3) := by decide +kernel
theorem d_R_handle_15 : decode b_R_handle 15 = .ok (.iconst 0, 1) := by decide +kernel
theorem d_R_handle_16 : decode b_R_handle 16 = .ok (.istore_n 2, 1) := by decide +kernel
theorem d_R_handle_17 : decode b_R_handle 17 = .ok (.iload_n 2, 1) := by decide +kernel
theorem d_R_handle_18 : decode b_R_handle 18 = .ok (.iconst 2, 1) := by decide +kernel
theorem d_R_handle_19 : decode b_R_handle 19 = .ok (.if_icmp .ge 32, 3) := by decide +kernel
theorem d_R_handle_22 : decode b_R_handle 22 = .ok (.aload_n 0, 1) := by decide +kernel
theorem d_R_handle_23 : decode b_R_handle 23 = .ok (.getfield 7, 3) := by decide +kernel
theorem d_R_handle_26 : decode b_R_handle 26 = .ok (.iload_n 2, 1) := by decide +kernel
theorem d_R_handle_27 : decode b_R_handle 27 = .ok (.baload, 1) := by decide +kernel
theorem d_R_handle_28 : decode b_R_handle 28 = .ok (.ifCond .ne 17, 3) := by decide +kernel
theorem d_R_handle_31 : decode b_R_handle 31 = .ok (.aload_n 0, 1) := by decide +kernel
theorem d_R_handle_32 : decode b_R_handle 32 = .ok (.getfield 29, 3) := by decide +kernel
theorem d_R_handle_35 : decode b_R_handle 35 = .ok (.iload_n 2, 1) := by decide +kernel
theorem d_R_handle_36 : decode b_R_handle 36 = .ok (.iconst 1, 1) := by decide +kernel
theorem d_R_handle_37 : decode b_R_handle 37 = .ok (.bastore, 1) := by decide +kernel
theorem d_R_handle_38 : decode b_R_handle 38 = .ok (.aload_n 0, 1) := by decide +kernel
theorem d_R_handle_39 : decode b_R_handle 39 = .ok (.getfield 32, 3) := by decide +kernel
theorem d_R_handle_42 : decode b_R_handle 42 = .ok (.iload_n 2, 1) := by decide +kernel
theorem d_R_handle_43 : decode b_R_handle 43 = .ok (.iconst 0, 1) := by decide +kernel
theorem d_R_handle_44 : decode b_R_handle 44 = .ok (.iastore, 1) := by decide +kernel
theorem d_R_handle_45 : decode b_R_handle 45 = .ok (.iinc 2 1, 3) := by decide +kernel
theorem d_R_handle_48 : decode b_R_handle 48 = .ok (.goto (-31), 3) := by decide +kernel
theorem d_R_handle_51 : decode b_R_handle 51 = .ok (.iconst 1, 1) := by decide +kernel
theorem d_R_handle_52 : decode b_R_handle 52 = .ok (.ireturn, 1) := by decide +kernel
def lp_R_handle : Nat → Nat → gm_St → gm_St
  | 0, _, u => u
  | k + 1, i, u => lp_R_handle k (i + 1) (if (u.1 0 i) = true then u else (gm_sG (gm_sB u 5 i true) 1 i (0 : Int32)))
def v_R_handle (u : gm_St) (dw : Bool) : Bool := (if (u.1 6 0) = dw then false else true)
def s_R_handle (u : gm_St) (dw : Bool) : gm_St := (if (u.1 6 0) = dw then u else (lp_R_handle 2 0 (gm_sB u 6 0 dw)))
set_option maxRecDepth 100000 in
set_option maxHeartbeats 4000000 in
theorem c_R_handle {l : Launch} {D : va_G} {dk : Nat → ClassId} {a : Nat → Nat} {A : Nat → Prop} {lt : Nat} {u : gm_St} {dw : Bool} : gm_I l D (gm_ty dk) (gr_W dk a) A lt y_R_handle b_R_handle 3 (some .boolean) rm_R_handle [.ref (a 0), .int (gm_b dw)] u (gm_b (v_R_handle u dw)) (s_R_handle u dw) := by
  refine gm_enterZ (by decide) (Nat.le_of_ble_eq_true rfl) ?_
  intro p e s m args below meth c ls Q H locs hF hM hl hQ
  have hx := hF.1
  have hb := hF.2.1
  have hml := hF.2.2.1
  have hown := hF.2.2.2.1
  have hts := hF.2.2.2.2.1
  have hl : lv_has ls 3 [(0, .ref (a 0)), (1, .int (gm_b dw))] := hl
  refine lv_aload_n hx hb d_R_handle_0 rfl (lv_at hl 0 rfl) ?_
  refine gf_R_42 hF hM d_R_handle_1 ?_
  refine lv_iload_n hx hb d_R_handle_4 rfl (lv_at hl 1 rfl) ?_
  refine gm_icn (b := (u.1 6 0)) (d := dw) (tgt := 10) hx hb d_R_handle_5 rfl (fun h1 => ?_) (fun h1 => ?_)
  · refine lv_aload_n hx hb d_R_handle_10 rfl (lv_at hl 0 rfl) ?_
    refine lv_iload_n hx hb d_R_handle_11 rfl (lv_at hl 1 rfl) ?_
    refine gp_R_42 hF hM (x := dw) rfl d_R_handle_12 (fun H locs hM => ?_)
    refine lv_iconst (v := 0) hx hb d_R_handle_15 (by decide) ?_
    refine lv_istore_n (lv' := [(2, .int (0 : Int32)), (0, .ref (a 0)), (1, .int (gm_b dw))]) hx hb d_R_handle_16 rfl hl (by decide) rfl (fun ls hl => ?_)
    have L2 : ∀ (k2 i2 : Nat) (w2 : gm_St) (ls : Array Slot) (H : Heap) (locs : List Loc), i2 + k2 = 2 → lv_has ls 3 [(2, .int (nI i2)), (0, .ref (a 0)), (1, .int (gm_b dw))] → gm_M D A s (gr_W dk a) w2 H locs → (∀ (ls : Array Slot) (H : Heap) (locs : List Loc), lv_has ls 3 [(2, .int (nI 2)), (0, .ref (a 0)), (1, .int (gm_b dw))] → gm_M D A s (gr_W dk a) (lp_R_handle k2 i2 w2) H locs → W p l e rm_R_handle s m args below meth c H locs 0 0 Q (F0 m 51 ls [])) → W p l e rm_R_handle s m args below meth c H locs 0 0 Q (F0 m 17 ls []) := by
      intro k2
      induction k2 with
      | zero =>
        intro i2 w2 ls H locs hk2 hl hM kk
        obtain rfl : i2 = 2 := by omega
        refine lv_iload_n hx hb d_R_handle_17 rfl (lv_at hl 0 rfl) ?_
        refine lv_iconst (v := 2) hx hb d_R_handle_18 (by decide) ?_
        refine lv_icmp_ge (tgt := 51) hx hb d_R_handle_19 rfl (fun _ => ?_) (fun h => absurd (by decide) h)
        exact kk ls H locs hl hM
      | succ k2 ih =>
        intro i2 w2 ls H locs hk2 hl hM kk
        refine lv_iload_n hx hb d_R_handle_17 rfl (lv_at hl 0 rfl) ?_
        refine lv_iconst (v := 2) hx hb d_R_handle_18 (by decide) ?_
        refine lv_icmp_ge (tgt := 51) hx hb d_R_handle_19 rfl (fun h => absurd h (nI_ge (a := i2) (b := 2) (by omega) (by first | decide | omega))) (fun _ => ?_)
        refine lv_aload_n hx hb d_R_handle_22 rfl (lv_at hl 1 rfl) ?_
        refine gf_R_7 hF hM d_R_handle_23 ?_
        refine lv_iload_n hx hb d_R_handle_26 rfl (lv_at hl 0 rfl) ?_
        refine ga_failed (k := i2) hF hM rfl (by first | omega | exact Nat.mod_lt _ (by decide)) d_R_handle_27 ?_
        have J4 : ∀ (ls : Array Slot) (H : Heap) (locs : List Loc), lv_has ls 3 [(0, .ref (a 0)), (1, .int (gm_b dw)), (2, .int (nI i2))] → gm_M D A s (gr_W dk a) (if (w2.1 0 i2) = true then w2 else (gm_sG (gm_sB w2 5 i2 true) 1 i2 (0 : Int32))) H locs → W p l e rm_R_handle s m args below meth c H locs 0 0 Q (F0 m 45 ls []) := by
          intro ls H locs hl hM
          refine lv_iinc (k := 2) (v := (nI (i2 + 1))) (lv' := [(2, .int (nI (i2 + 1))), (0, .ref (a 0)), (1, .int (gm_b dw))]) hx hb d_R_handle_45 hl rfl (nI_1 _) (by decide) rfl (fun ls hl => ?_)
          refine lv_goto (tgt := 17) hx hb d_R_handle_48 rfl ?_
          have hK := kk
          simp only [lp_R_handle] at hK
          exact ih (i2 + 1) (if (w2.1 0 i2) = true then w2 else (gm_sG (gm_sB w2 5 i2 true) 1 i2 (0 : Int32))) ls H locs (by omega) hl hM hK
        refine gm_ifn (b := (w2.1 0 i2)) (tgt := 45) hx hb d_R_handle_28 rfl (fun h3 => ?_) (fun h3 => ?_)
        · have hJ := J4
          try simp only [if_pos h3] at hJ
          exact hJ ls H locs (lv_sub hl [1, 2, 0] rfl) hM
        · refine lv_aload_n hx hb d_R_handle_31 rfl (lv_at hl 1 rfl) ?_
          refine gf_R_29 hF hM d_R_handle_32 ?_
          refine lv_iload_n hx hb d_R_handle_35 rfl (lv_at hl 0 rfl) ?_
          refine lv_iconst (v := 1) hx hb d_R_handle_36 (by decide) ?_
          refine gq_waits (k := i2) hF hM rfl (by first | omega | exact Nat.mod_lt _ (by decide)) (v := true) rfl d_R_handle_37 (fun H locs hM => ?_)
          refine lv_aload_n hx hb d_R_handle_38 rfl (lv_at hl 1 rfl) ?_
          refine gf_R_32 hF hM d_R_handle_39 ?_
          refine lv_iload_n hx hb d_R_handle_42 rfl (lv_at hl 0 rfl) ?_
          refine lv_iconst (v := 0) hx hb d_R_handle_43 (by decide) ?_
          refine gq_waited (k := i2) hF hM rfl (by first | omega | exact Nat.mod_lt _ (by decide)) d_R_handle_44 (fun H locs hM => ?_)
          have hJ := J4
          try simp only [if_neg (gm_nf h3)] at hJ
          exact hJ ls H locs (lv_sub hl [1, 2, 0] rfl) hM
    refine L2 2 0 (gm_sB u 6 0 dw) ls H locs (by omega) hl hM (fun ls H locs hl hM => ?_)
    refine lv_iconst (v := 1) hx hb d_R_handle_51 (by decide) ?_
    have hq := hQ H locs 52 ls
    simp only [v_R_handle, s_R_handle, if_neg h1] at hq
    exact hq hM d_R_handle_52
  · refine lv_iconst (v := 0) hx hb d_R_handle_8 (by decide) ?_
    have hq := hQ H locs 9 ls
    simp only [v_R_handle, s_R_handle, if_pos h1] at hq
    exact hq hM d_R_handle_9
theorem d_R_channel_0 : decode b_R_channel 0 = .ok (.aload_n 0, 1) := by decide +kernel
theorem d_R_channel_1 : decode b_R_channel 1 = .ok (.getfield 46, 3) := by decide +kernel
theorem d_R_channel_4 : decode b_R_channel 4 = .ok (.iconst 3, 1) := by decide +kernel
theorem d_R_channel_5 : decode b_R_channel 5 = .ok (.iload_n 1, 1) := by decide +kernel
theorem d_R_channel_6 : decode b_R_channel 6 = .ok (.imul, 1) := by decide +kernel
theorem d_R_channel_7 : decode b_R_channel 7 = .ok (.iload_n 2, 1) := by decide +kernel
theorem d_R_channel_8 : decode b_R_channel 8 = .ok (.iadd, 1) := by decide +kernel
theorem d_R_channel_9 : decode b_R_channel 9 = .ok (.ishr, 1) := by decide +kernel
theorem d_R_channel_10 : decode b_R_channel 10 = .ok (.iconst 1, 1) := by decide +kernel
theorem d_R_channel_11 : decode b_R_channel 11 = .ok (.iand, 1) := by decide +kernel
theorem d_R_channel_12 : decode b_R_channel 12 = .ok (.iconst 1, 1) := by decide +kernel
theorem d_R_channel_13 : decode b_R_channel 13 = .ok (.if_icmp .ne 7, 3) := by decide +kernel
theorem d_R_channel_16 : decode b_R_channel 16 = .ok (.iconst 1, 1) := by decide +kernel
theorem d_R_channel_17 : decode b_R_channel 17 = .ok (.goto 4, 3) := by decide +kernel
theorem d_R_channel_20 : decode b_R_channel 20 = .ok (.iconst 0, 1) := by decide +kernel
theorem d_R_channel_21 : decode b_R_channel 21 = .ok (.ireturn, 1) := by decide +kernel
def v_R_channel (u : gm_St) (sn : Nat) (cn : Nat) : Bool := (if (((u.2.1 3 1) >>> ((((3 : Int32) * (nI sn)) + (nI cn)) &&& 31)) &&& (1 : Int32)) = (1 : Int32) then true else false)
set_option maxRecDepth 100000 in
set_option maxHeartbeats 4000000 in
theorem c_R_channel {l : Launch} {D : va_G} {dk : Nat → ClassId} {a : Nat → Nat} {A : Nat → Prop} {lt : Nat} {u : gm_St} {sn : Nat} {cn : Nat} (h_sn : sn < 6) (h_cn : cn < 3) : gm_I l D (gm_ty dk) (gr_W dk a) A lt y_R_channel b_R_channel 3 (some .boolean) rm_R_channel [.ref (a 0), .int (nI sn), .int (nI cn)] u (gm_b (v_R_channel u sn cn)) u := by
  refine gm_enterZ (by decide) (Nat.le_of_ble_eq_true rfl) ?_
  intro p e s m args below meth c ls Q H locs hF hM hl hQ
  have hx := hF.1
  have hb := hF.2.1
  have hml := hF.2.2.1
  have hown := hF.2.2.2.1
  have hts := hF.2.2.2.2.1
  have hl : lv_has ls 3 [(0, .ref (a 0)), (1, .int (nI sn)), (2, .int (nI cn))] := hl
  refine lv_aload_n hx hb d_R_channel_0 rfl (lv_at hl 0 rfl) ?_
  refine gf_R_46 hF hM d_R_channel_1 ?_
  refine lv_iconst (v := 3) hx hb d_R_channel_4 (by decide) ?_
  refine lv_iload_n hx hb d_R_channel_5 rfl (lv_at hl 1 rfl) ?_
  refine lv_imul hx hb d_R_channel_6 ?_
  refine lv_iload_n hx hb d_R_channel_7 rfl (lv_at hl 2 rfl) ?_
  refine lv_iadd hx hb d_R_channel_8 ?_
  refine lv_ishr hx hb d_R_channel_9 ?_
  refine lv_iconst (v := 1) hx hb d_R_channel_10 (by decide) ?_
  refine lv_iand hx hb d_R_channel_11 ?_
  refine lv_iconst (v := 1) hx hb d_R_channel_12 (by decide) ?_
  have J2 : ∀ (ls : Array Slot) (H : Heap) (locs : List Loc), lv_has ls 3 [(0, .ref (a 0)), (1, .int (nI sn)), (2, .int (nI cn))] → gm_M D A s (gr_W dk a) u H locs → W p l e rm_R_channel s m args below meth c H locs 0 0 Q (F0 m 21 ls [.int (gm_b (if (((u.2.1 3 1) >>> ((((3 : Int32) * (nI sn)) + (nI cn)) &&& 31)) &&& (1 : Int32)) = (1 : Int32) then true else false))]) := by
    intro ls H locs hl hM
    have hq := hQ H locs 21 ls
    simp only [v_R_channel] at hq
    exact hq hM d_R_channel_21
  refine lv_icmp_ne (tgt := 20) hx hb d_R_channel_13 rfl (fun h1 => ?_) (fun h1 => ?_)
  · refine lv_iconst (v := 0) hx hb d_R_channel_20 (by decide) ?_
    have hJ := J2
    try simp only [if_neg h1] at hJ
    exact hJ ls H locs hl hM
  · refine lv_iconst (v := 1) hx hb d_R_channel_16 (by decide) ?_
    refine lv_goto (tgt := 21) hx hb d_R_channel_17 rfl ?_
    have hJ := J2
    try simp only [if_pos h1] at hJ
    exact hJ ls H locs hl hM
theorem d_R_say_0 : decode b_R_say 0 = .ok (.iconst 0, 1) := by decide +kernel
theorem d_R_say_1 : decode b_R_say 1 = .ok (.istore 4, 2) := by decide +kernel
theorem d_R_say_3 : decode b_R_say 3 = .ok (.iconst 0, 1) := by decide +kernel
theorem d_R_say_4 : decode b_R_say 4 = .ok (.istore 5, 2) := by decide +kernel
theorem d_R_say_6 : decode b_R_say 6 = .ok (.iload 5, 2) := by decide +kernel
theorem d_R_say_8 : decode b_R_say 8 = .ok (.iconst 3, 1) := by decide +kernel
theorem d_R_say_9 : decode b_R_say 9 = .ok (.if_icmp .ge 50, 3) := by decide +kernel
theorem d_R_say_12 : decode b_R_say 12 = .ok (.aload_n 0, 1) := by decide +kernel
theorem d_R_say_13 : decode b_R_say 13 = .ok (.getfield 13, 3) := by decide +kernel
theorem d_R_say_16 : decode b_R_say 16 = .ok (.bipush 18, 2) := by decide +kernel
theorem d_R_say_18 : decode b_R_say 18 = .ok (.iload_n 1, 1) := by decide +kernel
theorem d_R_say_19 : decode b_R_say 19 = .ok (.imul, 1) := by decide +kernel
theorem d_R_say_20 : decode b_R_say 20 = .ok (.iconst 3, 1) := by decide +kernel
theorem d_R_say_21 : decode b_R_say 21 = .ok (.iload_n 2, 1) := by decide +kernel
theorem d_R_say_22 : decode b_R_say 22 = .ok (.imul, 1) := by decide +kernel
theorem d_R_say_23 : decode b_R_say 23 = .ok (.iadd, 1) := by decide +kernel
theorem d_R_say_24 : decode b_R_say 24 = .ok (.iload 5, 2) := by decide +kernel
theorem d_R_say_26 : decode b_R_say 26 = .ok (.iadd, 1) := by decide +kernel
theorem d_R_say_27 : decode b_R_say 27 = .ok (.baload, 1) := by decide +kernel
theorem d_R_say_28 : decode b_R_say 28 = .ok (.ifCond .ne 21, 3) := by decide +kernel
theorem d_R_say_31 : decode b_R_say 31 = .ok (.aload_n 0, 1) := by decide +kernel
theorem d_R_say_32 : decode b_R_say 32 = .ok (.iload_n 2, 1) := by decide +kernel
theorem d_R_say_33 : decode b_R_say 33 = .ok (.iload 5, 2) := by decide +kernel
theorem d_R_say_35 : decode b_R_say 35 = .ok (.invokevirtual 50, 3) := by decide +kernel
theorem d_R_say_38 : decode b_R_say 38 = .ok (.iload_n 3, 1) := by decide +kernel
theorem d_R_say_39 : decode b_R_say 39 = .ok (.if_icmp .ne 10, 3) := by decide +kernel
theorem d_R_say_42 : decode b_R_say 42 = .ok (.iload 4, 2) := by decide +kernel
theorem d_R_say_44 : decode b_R_say 44 = .ok (.iconst 1, 1) := by decide +kernel
theorem d_R_say_45 : decode b_R_say 45 = .ok (.iadd, 1) := by decide +kernel
theorem d_R_say_46 : decode b_R_say 46 = .ok (.goto 5, 3) := by decide +kernel
theorem d_R_say_49 : decode b_R_say 49 = .ok (.iload 4, 2) := by decide +kernel
theorem d_R_say_51 : decode b_R_say 51 = .ok (.istore 4, 2) := by decide +kernel
theorem d_R_say_53 : decode b_R_say 53 = .ok (.iinc 5 1, 3) := by decide +kernel
theorem d_R_say_56 : decode b_R_say 56 = .ok (.goto (-50), 3) := by decide +kernel
theorem d_R_say_59 : decode b_R_say 59 = .ok (.iload 4, 2) := by decide +kernel
theorem d_R_say_61 : decode b_R_say 61 = .ok (.ireturn, 1) := by decide +kernel
def lp_R_say (u : gm_St) (mn : Nat) (sn : Nat) (ob : Bool) : Nat → Nat → Int32 → Int32
  | 0, _, x => x
  | k + 1, i, x => lp_R_say u mn sn ob k (i + 1) (if (u.1 1 (18 * mn + (3 * sn) + i)) = true then x else (if (v_R_channel u sn i) = ob then (x + (1 : Int32)) else x))
def v_R_say (u : gm_St) (mn : Nat) (sn : Nat) (ob : Bool) : Int32 := (lp_R_say u mn sn ob 3 0 (0 : Int32))
set_option maxRecDepth 100000 in
set_option maxHeartbeats 4000000 in
theorem c_R_say {l : Launch} {D : va_G} {dk : Nat → ClassId} {a : Nat → Nat} {A : Nat → Prop} {lt : Nat} {u : gm_St} {mn : Nat} {sn : Nat} {ob : Bool} (h_mn : mn < 2) (h_sn : sn < 6) : gm_I l D (gm_ty dk) (gr_W dk a) A lt y_R_say b_R_say 6 (some .int) rm_R_say [.ref (a 0), .int (nI mn), .int (nI sn), .int (gm_b ob)] u (v_R_say u mn sn ob) u := by
  refine gm_enterI (by decide) (Nat.le_of_ble_eq_true rfl) ?_
  intro p e s m args below meth c ls Q H locs hF hM hl hQ
  have hx := hF.1
  have hb := hF.2.1
  have hml := hF.2.2.1
  have hown := hF.2.2.2.1
  have hts := hF.2.2.2.2.1
  have hl : lv_has ls 6 [(0, .ref (a 0)), (1, .int (nI mn)), (2, .int (nI sn)), (3, .int (gm_b ob))] := hl
  refine lv_iconst (v := 0) hx hb d_R_say_0 (by decide) ?_
  refine lv_istore (lv' := [(4, .int (0 : Int32)), (0, .ref (a 0)), (1, .int (nI mn)), (2, .int (nI sn)), (3, .int (gm_b ob))]) hx hb d_R_say_1 hl (by decide) rfl (fun ls hl => ?_)
  refine lv_iconst (v := 0) hx hb d_R_say_3 (by decide) ?_
  refine lv_istore (lv' := [(5, .int (0 : Int32)), (4, .int (0 : Int32)), (0, .ref (a 0)), (1, .int (nI mn)), (2, .int (nI sn)), (3, .int (gm_b ob))]) hx hb d_R_say_4 hl (by decide) rfl (fun ls hl => ?_)
  have L1 : ∀ (k1 i1 : Nat) (x1 : Int32) (ls : Array Slot) (H : Heap) (locs : List Loc), i1 + k1 = 3 → lv_has ls 6 [(5, .int (nI i1)), (4, .int x1), (0, .ref (a 0)), (1, .int (nI mn)), (2, .int (nI sn)), (3, .int (gm_b ob))] → gm_M D A s (gr_W dk a) u H locs → (∀ (ls : Array Slot) (H : Heap) (locs : List Loc), lv_has ls 6 [(5, .int (nI 3)), (4, .int (lp_R_say u mn sn ob k1 i1 x1)), (0, .ref (a 0)), (1, .int (nI mn)), (2, .int (nI sn)), (3, .int (gm_b ob))] → gm_M D A s (gr_W dk a) u H locs → W p l e rm_R_say s m args below meth c H locs 0 0 Q (F0 m 59 ls [])) → W p l e rm_R_say s m args below meth c H locs 0 0 Q (F0 m 6 ls []) := by
    intro k1
    induction k1 with
    | zero =>
      intro i1 x1 ls H locs hk1 hl hM kk
      obtain rfl : i1 = 3 := by omega
      refine lv_iload hx hb d_R_say_6 (lv_at hl 0 rfl) ?_
      refine lv_iconst (v := 3) hx hb d_R_say_8 (by decide) ?_
      refine lv_icmp_ge (tgt := 59) hx hb d_R_say_9 rfl (fun _ => ?_) (fun h => absurd (by decide) h)
      exact kk ls H locs hl hM
    | succ k1 ih =>
      intro i1 x1 ls H locs hk1 hl hM kk
      refine lv_iload hx hb d_R_say_6 (lv_at hl 0 rfl) ?_
      refine lv_iconst (v := 3) hx hb d_R_say_8 (by decide) ?_
      refine lv_icmp_ge (tgt := 59) hx hb d_R_say_9 rfl (fun h => absurd h (nI_ge (a := i1) (b := 3) (by omega) (by first | decide | omega))) (fun _ => ?_)
      refine lv_aload_n hx hb d_R_say_12 rfl (lv_at hl 2 rfl) ?_
      refine gf_R_13 hF hM d_R_say_13 ?_
      refine lv_bipush (v := 18) hx hb d_R_say_16 (by decide) ?_
      refine lv_iload_n hx hb d_R_say_18 rfl (lv_at hl 3 rfl) ?_
      refine lv_imul hx hb d_R_say_19 ?_
      refine lv_iconst (v := 3) hx hb d_R_say_20 (by decide) ?_
      refine lv_iload_n hx hb d_R_say_21 rfl (lv_at hl 4 rfl) ?_
      refine lv_imul hx hb d_R_say_22 ?_
      refine lv_iadd hx hb d_R_say_23 ?_
      refine lv_iload hx hb d_R_say_24 (lv_at hl 0 rfl) ?_
      refine lv_iadd hx hb d_R_say_26 ?_
      refine ga_bad (k := (18 * mn + (3 * sn) + i1)) hF hM (by first | rfl | (simp only [← nI_add, ← pk_mul] <;> rfl)) (by first | omega | exact Nat.mod_lt _ (by decide)) d_R_say_27 ?_
      have J3 : ∀ (ls : Array Slot) (H : Heap) (locs : List Loc), lv_has ls 6 [(0, .ref (a 0)), (1, .int (nI mn)), (2, .int (nI sn)), (3, .int (gm_b ob)), (4, .int x1), (5, .int (nI i1))] → gm_M D A s (gr_W dk a) u H locs → W p l e rm_R_say s m args below meth c H locs 0 0 Q (F0 m 51 ls [.int (if (u.1 1 (18 * mn + (3 * sn) + i1)) = true then x1 else (if (v_R_channel u sn i1) = ob then (x1 + (1 : Int32)) else x1))]) := by
        intro ls H locs hl hM
        refine lv_istore (lv' := [(4, .int (if (u.1 1 (18 * mn + (3 * sn) + i1)) = true then x1 else (if (v_R_channel u sn i1) = ob then (x1 + (1 : Int32)) else x1))), (0, .ref (a 0)), (1, .int (nI mn)), (2, .int (nI sn)), (3, .int (gm_b ob)), (5, .int (nI i1))]) hx hb d_R_say_51 hl (by decide) rfl (fun ls hl => ?_)
        refine lv_iinc (k := 5) (v := (nI (i1 + 1))) (lv' := [(5, .int (nI (i1 + 1))), (4, .int (if (u.1 1 (18 * mn + (3 * sn) + i1)) = true then x1 else (if (v_R_channel u sn i1) = ob then (x1 + (1 : Int32)) else x1))), (0, .ref (a 0)), (1, .int (nI mn)), (2, .int (nI sn)), (3, .int (gm_b ob))]) hx hb d_R_say_53 hl rfl (nI_1 _) (by decide) rfl (fun ls hl => ?_)
        refine lv_goto (tgt := 6) hx hb d_R_say_56 rfl ?_
        have hK := kk
        simp only [lp_R_say] at hK
        exact ih (i1 + 1) (if (u.1 1 (18 * mn + (3 * sn) + i1)) = true then x1 else (if (v_R_channel u sn i1) = ob then (x1 + (1 : Int32)) else x1)) ls H locs (by omega) hl hM hK
      refine gm_ifn (b := (u.1 1 (18 * mn + (3 * sn) + i1))) (tgt := 49) hx hb d_R_say_28 rfl (fun h2 => ?_) (fun h2 => ?_)
      · refine lv_iload hx hb d_R_say_49 (lv_at hl 1 rfl) ?_
        have hJ := J3
        try simp only [if_pos h2] at hJ
        exact hJ ls H locs (lv_sub hl [2, 3, 4, 5, 1, 0] rfl) hM
      · refine lv_aload_n hx hb d_R_say_31 rfl (lv_at hl 2 rfl) ?_
        refine lv_iload_n hx hb d_R_say_32 rfl (lv_at hl 4 rfl) ?_
        refine lv_iload hx hb d_R_say_33 (lv_at hl 0 rfl) ?_
        refine gm_Vi (As := [.int (nI sn), .int (nI i1)]) (rest := []) hF hM (c_R_channel (u := u) (sn := sn) (cn := i1) (by omega) (by omega)) (gk_R_50 hts ⟨by decide, by decide⟩) (gv_R hF hM rfl) rfl hl.1 rfl (Nat.le_of_ble_eq_true rfl) ⟨Nat.zero_le _, Nat.zero_le _⟩ d_R_say_35 (fun H locs hM => ?_)
        refine lv_iload_n hx hb d_R_say_38 rfl (lv_at hl 5 rfl) ?_
        refine gm_icn (b := (v_R_channel u sn i1)) (d := ob) (tgt := 49) hx hb d_R_say_39 rfl (fun h4 => ?_) (fun h4 => ?_)
        · refine lv_iload hx hb d_R_say_49 (lv_at hl 1 rfl) ?_
          have hJ := J3
          try simp only [if_neg (gm_nf h2), if_neg h4] at hJ
          exact hJ ls H locs (lv_sub hl [2, 3, 4, 5, 1, 0] rfl) hM
        · refine lv_iload hx hb d_R_say_42 (lv_at hl 1 rfl) ?_
          refine lv_iconst (v := 1) hx hb d_R_say_44 (by decide) ?_
          refine lv_iadd hx hb d_R_say_45 ?_
          refine lv_goto (tgt := 51) hx hb d_R_say_46 rfl ?_
          have hJ := J3
          try simp only [if_neg (gm_nf h2), if_pos h4] at hJ
          exact hJ ls H locs (lv_sub hl [2, 3, 4, 5, 1, 0] rfl) hM
  refine L1 3 0 (0 : Int32) ls H locs (by omega) hl hM (fun ls H locs hl hM => ?_)
  refine lv_iload hx hb d_R_say_59 (lv_at hl 1 rfl) ?_
  have hq := hQ H locs 61 ls
  simp only [v_R_say] at hq
  exact hq hM d_R_say_61
theorem d_R_gets_0 : decode b_R_gets 0 = .ok (.aload_n 0, 1) := by decide +kernel
theorem d_R_gets_1 : decode b_R_gets 1 = .ok (.getfield 22, 3) := by decide +kernel
theorem d_R_gets_4 : decode b_R_gets 4 = .ok (.bipush 16, 2) := by decide +kernel
theorem d_R_gets_6 : decode b_R_gets 6 = .ok (.iload_n 1, 1) := by decide +kernel
theorem d_R_gets_7 : decode b_R_gets 7 = .ok (.imul, 1) := by decide +kernel
theorem d_R_gets_8 : decode b_R_gets 8 = .ok (.iload_n 2, 1) := by decide +kernel
theorem d_R_gets_9 : decode b_R_gets 9 = .ok (.iadd, 1) := by decide +kernel
theorem d_R_gets_10 : decode b_R_gets 10 = .ok (.baload, 1) := by decide +kernel
theorem d_R_gets_11 : decode b_R_gets 11 = .ok (.ifCond .ne 56, 3) := by decide +kernel
theorem d_R_gets_14 : decode b_R_gets 14 = .ok (.aload_n 0, 1) := by decide +kernel
theorem d_R_gets_15 : decode b_R_gets 15 = .ok (.getfield 22, 3) := by decide +kernel
theorem d_R_gets_18 : decode b_R_gets 18 = .ok (.bipush 16, 2) := by decide +kernel
theorem d_R_gets_20 : decode b_R_gets 20 = .ok (.iload_n 1, 1) := by decide +kernel
theorem d_R_gets_21 : decode b_R_gets 21 = .ok (.imul, 1) := by decide +kernel
theorem d_R_gets_22 : decode b_R_gets 22 = .ok (.iload_n 2, 1) := by decide +kernel
theorem d_R_gets_23 : decode b_R_gets 23 = .ok (.iadd, 1) := by decide +kernel
theorem d_R_gets_24 : decode b_R_gets 24 = .ok (.iconst 1, 1) := by decide +kernel
theorem d_R_gets_25 : decode b_R_gets 25 = .ok (.bastore, 1) := by decide +kernel
theorem d_R_gets_26 : decode b_R_gets 26 = .ok (.aload_n 0, 1) := by decide +kernel
theorem d_R_gets_27 : decode b_R_gets 27 = .ok (.getfield 38, 3) := by decide +kernel
theorem d_R_gets_30 : decode b_R_gets 30 = .ok (.aload_n 0, 1) := by decide +kernel
theorem d_R_gets_31 : decode b_R_gets 31 = .ok (.getfield 77, 3) := by decide +kernel
theorem d_R_gets_34 : decode b_R_gets 34 = .ok (.bipush 16, 2) := by decide +kernel
theorem d_R_gets_36 : decode b_R_gets 36 = .ok (.irem, 1) := by decide +kernel
theorem d_R_gets_37 : decode b_R_gets 37 = .ok (.aload_n 0, 1) := by decide +kernel
theorem d_R_gets_38 : decode b_R_gets 38 = .ok (.getfield 80, 3) := by decide +kernel
theorem d_R_gets_41 : decode b_R_gets 41 = .ok (.i2l, 1) := by decide +kernel
theorem d_R_gets_42 : decode b_R_gets 42 = .ok (.ldc2_w 83, 3) := by decide +kernel
theorem d_R_gets_45 : decode b_R_gets 45 = .ok (.lmul, 1) := by decide +kernel
theorem d_R_gets_46 : decode b_R_gets 46 = .ok (.ldc2_w 85, 3) := by decide +kernel
theorem d_R_gets_49 : decode b_R_gets 49 = .ok (.iload_n 1, 1) := by decide +kernel
theorem d_R_gets_50 : decode b_R_gets 50 = .ok (.i2l, 1) := by decide +kernel
theorem d_R_gets_51 : decode b_R_gets 51 = .ok (.lmul, 1) := by decide +kernel
theorem d_R_gets_52 : decode b_R_gets 52 = .ok (.ladd, 1) := by decide +kernel
theorem d_R_gets_53 : decode b_R_gets 53 = .ok (.iload_n 2, 1) := by decide +kernel
theorem d_R_gets_54 : decode b_R_gets 54 = .ok (.i2l, 1) := by decide +kernel
theorem d_R_gets_55 : decode b_R_gets 55 = .ok (.ladd, 1) := by decide +kernel
theorem d_R_gets_56 : decode b_R_gets 56 = .ok (.lastore, 1) := by decide +kernel
theorem d_R_gets_57 : decode b_R_gets 57 = .ok (.aload_n 0, 1) := by decide +kernel
theorem d_R_gets_58 : decode b_R_gets 58 = .ok (.dup, 1) := by decide +kernel
theorem d_R_gets_59 : decode b_R_gets 59 = .ok (.getfield 77, 3) := by decide +kernel
theorem d_R_gets_62 : decode b_R_gets 62 = .ok (.iconst 1, 1) := by decide +kernel
theorem d_R_gets_63 : decode b_R_gets 63 = .ok (.iadd, 1) := by decide +kernel
theorem d_R_gets_64 : decode b_R_gets 64 = .ok (.putfield 77, 3) := by decide +kernel
theorem d_R_gets_67 : decode b_R_gets 67 = .ok (.return_, 1) := by decide +kernel
def s_R_gets (u : gm_St) (mn : Nat) (kn : Nat) : gm_St := (if (u.1 4 (16 * mn + kn)) = true then u else (gm_sN (gm_sL (gm_sB u 4 (16 * mn + kn) true) ((((gm_sB u 4 (16 * mn + kn) true).2.2.1 0)) % 16) ((((((gm_sB u 4 (16 * mn + kn) true).2.1 3 0)).toInt64 * (32 : Int64)) + ((16 : Int64) * ((nI mn)).toInt64)) + ((nI kn)).toInt64)) 0 (((gm_sL (gm_sB u 4 (16 * mn + kn) true) ((((gm_sB u 4 (16 * mn + kn) true).2.2.1 0)) % 16) ((((((gm_sB u 4 (16 * mn + kn) true).2.1 3 0)).toInt64 * (32 : Int64)) + ((16 : Int64) * ((nI mn)).toInt64)) + ((nI kn)).toInt64)).2.2.1 0) + 1)))
set_option maxRecDepth 100000 in
set_option maxHeartbeats 4000000 in
theorem c_R_gets {l : Launch} {D : va_G} {dk : Nat → ClassId} {a : Nat → Nat} {A : Nat → Prop} {lt : Nat} {u : gm_St} {mn : Nat} {kn : Nat} (h_mn : mn < 2) (h_kn : kn < 16) (hp0 : u.2.2.1 0 + 1 ≤ 1073741824) : gm_V l D (gm_ty dk) (gr_W dk a) A lt y_R_gets b_R_gets 3 rm_R_gets [.ref (a 0), .int (nI mn), .int (nI kn)] u (s_R_gets u mn kn) := by
  refine gm_enterV (by decide) (Nat.le_of_ble_eq_true rfl) ?_
  intro p e s m args below meth c ls Q H locs hF hM hl hQ
  have hx := hF.1
  have hb := hF.2.1
  have hml := hF.2.2.1
  have hown := hF.2.2.2.1
  have hts := hF.2.2.2.2.1
  have hl : lv_has ls 3 [(0, .ref (a 0)), (1, .int (nI mn)), (2, .int (nI kn))] := hl
  refine lv_aload_n hx hb d_R_gets_0 rfl (lv_at hl 0 rfl) ?_
  refine gf_R_22 hF hM d_R_gets_1 ?_
  refine lv_bipush (v := 16) hx hb d_R_gets_4 (by decide) ?_
  refine lv_iload_n hx hb d_R_gets_6 rfl (lv_at hl 1 rfl) ?_
  refine lv_imul hx hb d_R_gets_7 ?_
  refine lv_iload_n hx hb d_R_gets_8 rfl (lv_at hl 2 rfl) ?_
  refine lv_iadd hx hb d_R_gets_9 ?_
  refine ga_had (k := (16 * mn + kn)) hF hM (by first | rfl | (simp only [← nI_add, ← pk_mul] <;> rfl)) (by first | omega | exact Nat.mod_lt _ (by decide)) d_R_gets_10 ?_
  have J2 : ∀ (ls : Array Slot) (H : Heap) (locs : List Loc), lv_has ls 3 [(0, .ref (a 0)), (1, .int (nI mn)), (2, .int (nI kn))] → gm_M D A s (gr_W dk a) (if (u.1 4 (16 * mn + kn)) = true then u else (gm_sN (gm_sL (gm_sB u 4 (16 * mn + kn) true) ((((gm_sB u 4 (16 * mn + kn) true).2.2.1 0)) % 16) ((((((gm_sB u 4 (16 * mn + kn) true).2.1 3 0)).toInt64 * (32 : Int64)) + ((16 : Int64) * ((nI mn)).toInt64)) + ((nI kn)).toInt64)) 0 (((gm_sL (gm_sB u 4 (16 * mn + kn) true) ((((gm_sB u 4 (16 * mn + kn) true).2.2.1 0)) % 16) ((((((gm_sB u 4 (16 * mn + kn) true).2.1 3 0)).toInt64 * (32 : Int64)) + ((16 : Int64) * ((nI mn)).toInt64)) + ((nI kn)).toInt64)).2.2.1 0) + 1))) H locs → W p l e rm_R_gets s m args below meth c H locs 0 0 Q (F0 m 67 ls []) := by
    intro ls H locs hl hM
    have hq := hQ H locs 67 ls
    simp only [s_R_gets] at hq
    exact hq hM d_R_gets_67
  refine gm_ifn (b := (u.1 4 (16 * mn + kn))) (tgt := 67) hx hb d_R_gets_11 rfl (fun h1 => ?_) (fun h1 => ?_)
  · have hJ := J2
    try simp only [if_pos h1] at hJ
    exact hJ ls H locs hl hM
  · refine lv_aload_n hx hb d_R_gets_14 rfl (lv_at hl 0 rfl) ?_
    refine gf_R_22 hF hM d_R_gets_15 ?_
    refine lv_bipush (v := 16) hx hb d_R_gets_18 (by decide) ?_
    refine lv_iload_n hx hb d_R_gets_20 rfl (lv_at hl 1 rfl) ?_
    refine lv_imul hx hb d_R_gets_21 ?_
    refine lv_iload_n hx hb d_R_gets_22 rfl (lv_at hl 2 rfl) ?_
    refine lv_iadd hx hb d_R_gets_23 ?_
    refine lv_iconst (v := 1) hx hb d_R_gets_24 (by decide) ?_
    refine gq_had (k := (16 * mn + kn)) hF hM (by first | rfl | (simp only [← nI_add, ← pk_mul] <;> rfl)) (by first | omega | exact Nat.mod_lt _ (by decide)) (v := true) rfl d_R_gets_25 (fun H locs hM => ?_)
    refine lv_aload_n hx hb d_R_gets_26 rfl (lv_at hl 0 rfl) ?_
    refine gf_R_38 hF hM d_R_gets_27 ?_
    refine lv_aload_n hx hb d_R_gets_30 rfl (lv_at hl 0 rfl) ?_
    refine gf_R_77 hF hM d_R_gets_31 ?_
    refine lv_bipush (v := 16) hx hb d_R_gets_34 (by decide) ?_
    refine lv_irem hx hb d_R_gets_36 (by decide) ?_
    refine gm_tp (y := (nI ((((gm_sB u 4 (16 * mn + kn) true).2.2.1 0)) % 16))) (gm_rem rfl (by first | omega | (have := (‹gm_ok _›).1; omega) | exact Nat.lt_of_lt_of_le hp0 (by decide)) (by decide) (by decide)) ?_
    refine lv_aload_n hx hb d_R_gets_37 rfl (lv_at hl 0 rfl) ?_
    refine gf_R_80 hF hM d_R_gets_38 ?_
    refine lv_i2l hx hb d_R_gets_41 rfl ?_
    refine lv_ldc2 (v := 32) hx hb hown (hts _ (gm_in 382 (by decide +kernel) rfl)) d_R_gets_42 ?_
    refine lv_lmul hx hb d_R_gets_45 ?_
    refine lv_ldc2 (v := 16) hx hb hown (hts _ (gm_in 383 (by decide +kernel) rfl)) d_R_gets_46 ?_
    refine lv_iload_n hx hb d_R_gets_49 rfl (lv_at hl 1 rfl) ?_
    refine lv_i2l hx hb d_R_gets_50 rfl ?_
    refine lv_lmul hx hb d_R_gets_51 ?_
    refine lv_ladd hx hb d_R_gets_52 ?_
    refine lv_iload_n hx hb d_R_gets_53 rfl (lv_at hl 2 rfl) ?_
    refine lv_i2l hx hb d_R_gets_54 rfl ?_
    refine lv_ladd hx hb d_R_gets_55 ?_
    refine gq_rrec (k := ((((gm_sB u 4 (16 * mn + kn) true).2.2.1 0)) % 16)) hF hM rfl (by first | omega | exact Nat.mod_lt _ (by decide)) d_R_gets_56 (fun H locs hM => ?_)
    refine lv_aload_n hx hb d_R_gets_57 rfl (lv_at hl 0 rfl) ?_
    refine lv_dup hx hb d_R_gets_58 rfl ?_
    refine gf_R_77 hF hM d_R_gets_59 ?_
    refine lv_iconst (v := 1) hx hb d_R_gets_62 (by decide) ?_
    refine lv_iadd hx hb d_R_gets_63 ?_
    refine gp_R_77 hF hM (x := (((gm_sL (gm_sB u 4 (16 * mn + kn) true) ((((gm_sB u 4 (16 * mn + kn) true).2.2.1 0)) % 16) ((((((gm_sB u 4 (16 * mn + kn) true).2.1 3 0)).toInt64 * (32 : Int64)) + ((16 : Int64) * ((nI mn)).toInt64)) + ((nI kn)).toInt64)).2.2.1 0) + 1)) (by first | rfl | (simp only [← nI_add, ← pk_mul] <;> rfl)) d_R_gets_64 (fun H locs hM => ?_)
    have hJ := J2
    try simp only [if_neg (gm_nf h1)] at hJ
    exact hJ ls H locs hl hM
theorem gr_gets_N {u : gm_St} {mn kn : Nat} : (s_R_gets u mn kn).2.2.1 0 ≤ u.2.2.1 0 + 1 := by
  unfold s_R_gets
  split
  · exact Nat.le_succ _
  · exact Nat.le_refl _
theorem d_R_vote_0 : decode b_R_vote 0 = .ok (.bipush 6, 2) := by decide +kernel
theorem d_R_vote_2 : decode b_R_vote 2 = .ok (.iload_n 1, 1) := by decide +kernel
theorem d_R_vote_3 : decode b_R_vote 3 = .ok (.imul, 1) := by decide +kernel
theorem d_R_vote_4 : decode b_R_vote 4 = .ok (.iload_n 2, 1) := by decide +kernel
theorem d_R_vote_5 : decode b_R_vote 5 = .ok (.iadd, 1) := by decide +kernel
theorem d_R_vote_6 : decode b_R_vote 6 = .ok (.istore_n 3, 1) := by decide +kernel
theorem d_R_vote_7 : decode b_R_vote 7 = .ok (.aload_n 0, 1) := by decide +kernel
theorem d_R_vote_8 : decode b_R_vote 8 = .ok (.getfield 19, 3) := by decide +kernel
theorem d_R_vote_11 : decode b_R_vote 11 = .ok (.iload_n 3, 1) := by decide +kernel
theorem d_R_vote_12 : decode b_R_vote 12 = .ok (.baload, 1) := by decide +kernel
theorem d_R_vote_13 : decode b_R_vote 13 = .ok (.ifCond .eq 4, 3) := by decide +kernel
theorem d_R_vote_16 : decode b_R_vote 16 = .ok (.return_, 1) := by decide +kernel
theorem d_R_vote_17 : decode b_R_vote 17 = .ok (.aload_n 0, 1) := by decide +kernel
theorem d_R_vote_18 : decode b_R_vote 18 = .ok (.iload_n 1, 1) := by decide +kernel
theorem d_R_vote_19 : decode b_R_vote 19 = .ok (.iload_n 2, 1) := by decide +kernel
theorem d_R_vote_20 : decode b_R_vote 20 = .ok (.iconst 1, 1) := by decide +kernel
theorem d_R_vote_21 : decode b_R_vote 21 = .ok (.invokevirtual 54, 3) := by decide +kernel
theorem d_R_vote_24 : decode b_R_vote 24 = .ok (.istore 4, 2) := by decide +kernel
theorem d_R_vote_26 : decode b_R_vote 26 = .ok (.aload_n 0, 1) := by decide +kernel
theorem d_R_vote_27 : decode b_R_vote 27 = .ok (.iload_n 1, 1) := by decide +kernel
theorem d_R_vote_28 : decode b_R_vote 28 = .ok (.iload_n 2, 1) := by decide +kernel
theorem d_R_vote_29 : decode b_R_vote 29 = .ok (.iconst 0, 1) := by decide +kernel
theorem d_R_vote_30 : decode b_R_vote 30 = .ok (.invokevirtual 54, 3) := by decide +kernel
theorem d_R_vote_33 : decode b_R_vote 33 = .ok (.istore 5, 2) := by decide +kernel
theorem d_R_vote_35 : decode b_R_vote 35 = .ok (.iload 4, 2) := by decide +kernel
theorem d_R_vote_37 : decode b_R_vote 37 = .ok (.iload 5, 2) := by decide +kernel
theorem d_R_vote_39 : decode b_R_vote 39 = .ok (.if_icmp .ne 17, 3) := by decide +kernel
theorem d_R_vote_42 : decode b_R_vote 42 = .ok (.aload_n 0, 1) := by decide +kernel
theorem d_R_vote_43 : decode b_R_vote 43 = .ok (.getfield 19, 3) := by decide +kernel
theorem d_R_vote_46 : decode b_R_vote 46 = .ok (.iload_n 3, 1) := by decide +kernel
theorem d_R_vote_47 : decode b_R_vote 47 = .ok (.iconst 1, 1) := by decide +kernel
theorem d_R_vote_48 : decode b_R_vote 48 = .ok (.bastore, 1) := by decide +kernel
theorem d_R_vote_49 : decode b_R_vote 49 = .ok (.aload_n 0, 1) := by decide +kernel
theorem d_R_vote_50 : decode b_R_vote 50 = .ok (.iload_n 1, 1) := by decide +kernel
theorem d_R_vote_51 : decode b_R_vote 51 = .ok (.iload_n 2, 1) := by decide +kernel
theorem d_R_vote_52 : decode b_R_vote 52 = .ok (.invokevirtual 58, 3) := by decide +kernel
theorem d_R_vote_55 : decode b_R_vote 55 = .ok (.return_, 1) := by decide +kernel
theorem d_R_vote_56 : decode b_R_vote 56 = .ok (.aload_n 0, 1) := by decide +kernel
theorem d_R_vote_57 : decode b_R_vote 57 = .ok (.getfield 16, 3) := by decide +kernel
theorem d_R_vote_60 : decode b_R_vote 60 = .ok (.iload_n 3, 1) := by decide +kernel
theorem d_R_vote_61 : decode b_R_vote 61 = .ok (.iload 4, 2) := by decide +kernel
theorem d_R_vote_63 : decode b_R_vote 63 = .ok (.iload 5, 2) := by decide +kernel
theorem d_R_vote_65 : decode b_R_vote 65 = .ok (.if_icmp .le 7, 3) := by decide +kernel
theorem d_R_vote_68 : decode b_R_vote 68 = .ok (.iconst 1, 1) := by decide +kernel
theorem d_R_vote_69 : decode b_R_vote 69 = .ok (.goto 4, 3) := by decide +kernel
theorem d_R_vote_72 : decode b_R_vote 72 = .ok (.iconst 0, 1) := by decide +kernel
theorem d_R_vote_73 : decode b_R_vote 73 = .ok (.bastore, 1) := by decide +kernel
theorem d_R_vote_74 : decode b_R_vote 74 = .ok (.iconst 0, 1) := by decide +kernel
theorem d_R_vote_75 : decode b_R_vote 75 = .ok (.istore 6, 2) := by decide +kernel
theorem d_R_vote_77 : decode b_R_vote 77 = .ok (.iload 6, 2) := by decide +kernel
theorem d_R_vote_79 : decode b_R_vote 79 = .ok (.iconst 3, 1) := by decide +kernel
theorem d_R_vote_80 : decode b_R_vote 80 = .ok (.if_icmp .ge 55, 3) := by decide +kernel
theorem d_R_vote_83 : decode b_R_vote 83 = .ok (.iload 4, 2) := by decide +kernel
theorem d_R_vote_85 : decode b_R_vote 85 = .ok (.iload 5, 2) := by decide +kernel
theorem d_R_vote_87 : decode b_R_vote 87 = .ok (.iadd, 1) := by decide +kernel
theorem d_R_vote_88 : decode b_R_vote 88 = .ok (.iconst 3, 1) := by decide +kernel
theorem d_R_vote_89 : decode b_R_vote 89 = .ok (.if_icmp .ne 46, 3) := by decide +kernel
theorem d_R_vote_92 : decode b_R_vote 92 = .ok (.aload_n 0, 1) := by decide +kernel
theorem d_R_vote_93 : decode b_R_vote 93 = .ok (.getfield 13, 3) := by decide +kernel
theorem d_R_vote_96 : decode b_R_vote 96 = .ok (.bipush 18, 2) := by decide +kernel
theorem d_R_vote_98 : decode b_R_vote 98 = .ok (.iload_n 1, 1) := by decide +kernel
theorem d_R_vote_99 : decode b_R_vote 99 = .ok (.imul, 1) := by decide +kernel
theorem d_R_vote_100 : decode b_R_vote 100 = .ok (.iconst 3, 1) := by decide +kernel
theorem d_R_vote_101 : decode b_R_vote 101 = .ok (.iload_n 2, 1) := by decide +kernel
theorem d_R_vote_102 : decode b_R_vote 102 = .ok (.imul, 1) := by decide +kernel
theorem d_R_vote_103 : decode b_R_vote 103 = .ok (.iadd, 1) := by decide +kernel
theorem d_R_vote_104 : decode b_R_vote 104 = .ok (.iload 6, 2) := by decide +kernel
theorem d_R_vote_106 : decode b_R_vote 106 = .ok (.iadd, 1) := by decide +kernel
theorem d_R_vote_107 : decode b_R_vote 107 = .ok (.aload_n 0, 1) := by decide +kernel
theorem d_R_vote_108 : decode b_R_vote 108 = .ok (.iload_n 2, 1) := by decide +kernel
theorem d_R_vote_109 : decode b_R_vote 109 = .ok (.iload 6, 2) := by decide +kernel
theorem d_R_vote_111 : decode b_R_vote 111 = .ok (.invokevirtual 50, 3) := by decide +kernel
theorem d_R_vote_114 : decode b_R_vote 114 = .ok (.aload_n 0, 1) := by decide +kernel
theorem d_R_vote_115 : decode b_R_vote 115 = .ok (.getfield 16, 3) := by decide +kernel
theorem d_R_vote_118 : decode b_R_vote 118 = .ok (.iload_n 3, 1) := by decide +kernel
theorem d_R_vote_119 : decode b_R_vote 119 = .ok (.baload, 1) := by decide +kernel
theorem d_R_vote_120 : decode b_R_vote 120 = .ok (.if_icmp .eq 7, 3) := by decide +kernel
theorem d_R_vote_123 : decode b_R_vote 123 = .ok (.iconst 1, 1) := by decide +kernel
theorem d_R_vote_124 : decode b_R_vote 124 = .ok (.goto 4, 3) := by decide +kernel
theorem d_R_vote_127 : decode b_R_vote 127 = .ok (.iconst 0, 1) := by decide +kernel
theorem d_R_vote_128 : decode b_R_vote 128 = .ok (.bastore, 1) := by decide +kernel
theorem d_R_vote_129 : decode b_R_vote 129 = .ok (.iinc 6 1, 3) := by decide +kernel
theorem d_R_vote_132 : decode b_R_vote 132 = .ok (.goto (-55), 3) := by decide +kernel
theorem d_R_vote_135 : decode b_R_vote 135 = .ok (.return_, 1) := by decide +kernel
def lp_R_vote (mn : Nat) (sn : Nat) (at_ : Nat) : Nat → Nat → gm_St → gm_St
  | 0, _, u => u
  | k + 1, i, u => lp_R_vote mn sn at_ k (i + 1) (gm_sB u 1 (18 * mn + (3 * sn) + i) (if (v_R_channel u sn i) = (u.1 2 at_) then false else true))
def s_R_vote (u : gm_St) (mn : Nat) (sn : Nat) : gm_St := (if (u.1 3 (6 * mn + sn)) = true then u else (if (v_R_say u mn sn true) = (v_R_say u mn sn false) then (s_R_gets (gm_sB u 3 (6 * mn + sn) true) mn sn) else (if ((v_R_say u mn sn true) + (v_R_say u mn sn false)) = (3 : Int32) then (lp_R_vote mn sn (6 * mn + sn) 3 0 (gm_sB u 2 (6 * mn + sn) (if (v_R_say u mn sn true) ≤ (v_R_say u mn sn false) then false else true))) else (gm_sB u 2 (6 * mn + sn) (if (v_R_say u mn sn true) ≤ (v_R_say u mn sn false) then false else true)))))
set_option maxRecDepth 100000 in
set_option maxHeartbeats 4000000 in
theorem c_R_vote {l : Launch} {D : va_G} {dk : Nat → ClassId} {a : Nat → Nat} {A : Nat → Prop} {lt : Nat} {u : gm_St} {mn : Nat} {sn : Nat} (h_mn : mn < 2) (h_sn : sn < 6) (hp0 : u.2.2.1 0 + 1 ≤ 1073741824) : gm_V l D (gm_ty dk) (gr_W dk a) A lt y_R_vote b_R_vote 7 rm_R_vote [.ref (a 0), .int (nI mn), .int (nI sn)] u (s_R_vote u mn sn) := by
  refine gm_enterV (by decide) (Nat.le_of_ble_eq_true rfl) ?_
  intro p e s m args below meth c ls Q H locs hF hM hl hQ
  have hx := hF.1
  have hb := hF.2.1
  have hml := hF.2.2.1
  have hown := hF.2.2.2.1
  have hts := hF.2.2.2.2.1
  have hl : lv_has ls 7 [(0, .ref (a 0)), (1, .int (nI mn)), (2, .int (nI sn))] := hl
  refine lv_bipush (v := 6) hx hb d_R_vote_0 (by decide) ?_
  refine lv_iload_n hx hb d_R_vote_2 rfl (lv_at hl 1 rfl) ?_
  refine lv_imul hx hb d_R_vote_3 ?_
  refine lv_iload_n hx hb d_R_vote_4 rfl (lv_at hl 2 rfl) ?_
  refine lv_iadd hx hb d_R_vote_5 ?_
  refine lv_istore_n (lv' := [(3, .int (((6 : Int32) * (nI mn)) + (nI sn))), (0, .ref (a 0)), (1, .int (nI mn)), (2, .int (nI sn))]) hx hb d_R_vote_6 rfl hl (by decide) rfl (fun ls hl => ?_)
  refine lv_aload_n hx hb d_R_vote_7 rfl (lv_at hl 1 rfl) ?_
  refine gf_R_19 hF hM d_R_vote_8 ?_
  refine lv_iload_n hx hb d_R_vote_11 rfl (lv_at hl 0 rfl) ?_
  refine ga_broken (k := (6 * mn + sn)) hF hM (by first | rfl | (simp only [← nI_add, ← pk_mul] <;> rfl)) (by first | omega | exact Nat.mod_lt _ (by decide)) d_R_vote_12 ?_
  refine gm_ifz (b := (u.1 3 (6 * mn + sn))) (tgt := 17) hx hb d_R_vote_13 rfl (fun h1 => ?_) (fun h1 => ?_)
  · refine lv_aload_n hx hb d_R_vote_17 rfl (lv_at hl 1 rfl) ?_
    refine lv_iload_n hx hb d_R_vote_18 rfl (lv_at hl 2 rfl) ?_
    refine lv_iload_n hx hb d_R_vote_19 rfl (lv_at hl 3 rfl) ?_
    refine lv_iconst (v := 1) hx hb d_R_vote_20 (by decide) ?_
    refine gm_Vi (As := [.int (nI mn), .int (nI sn), .int (gm_b true)]) (rest := []) hF hM (c_R_say (u := u) (mn := mn) (sn := sn) (ob := true) (by omega) (by omega)) (gk_R_54 hts ⟨by decide, by decide⟩) (gv_R hF hM rfl) rfl hl.1 rfl (Nat.le_of_ble_eq_true rfl) ⟨Nat.zero_le _, Nat.zero_le _⟩ d_R_vote_21 (fun H locs hM => ?_)
    refine lv_istore (lv' := [(4, .int (v_R_say u mn sn true)), (3, .int (((6 : Int32) * (nI mn)) + (nI sn))), (0, .ref (a 0)), (1, .int (nI mn)), (2, .int (nI sn))]) hx hb d_R_vote_24 hl (by decide) rfl (fun ls hl => ?_)
    refine lv_aload_n hx hb d_R_vote_26 rfl (lv_at hl 2 rfl) ?_
    refine lv_iload_n hx hb d_R_vote_27 rfl (lv_at hl 3 rfl) ?_
    refine lv_iload_n hx hb d_R_vote_28 rfl (lv_at hl 4 rfl) ?_
    refine lv_iconst (v := 0) hx hb d_R_vote_29 (by decide) ?_
    refine gm_Vi (As := [.int (nI mn), .int (nI sn), .int (gm_b false)]) (rest := []) hF hM (c_R_say (u := u) (mn := mn) (sn := sn) (ob := false) (by omega) (by omega)) (gk_R_54 hts ⟨by decide, by decide⟩) (gv_R hF hM rfl) rfl hl.1 rfl (Nat.le_of_ble_eq_true rfl) ⟨Nat.zero_le _, Nat.zero_le _⟩ d_R_vote_30 (fun H locs hM => ?_)
    refine lv_istore (lv' := [(5, .int (v_R_say u mn sn false)), (4, .int (v_R_say u mn sn true)), (3, .int (((6 : Int32) * (nI mn)) + (nI sn))), (0, .ref (a 0)), (1, .int (nI mn)), (2, .int (nI sn))]) hx hb d_R_vote_33 hl (by decide) rfl (fun ls hl => ?_)
    refine lv_iload hx hb d_R_vote_35 (lv_at hl 1 rfl) ?_
    refine lv_iload hx hb d_R_vote_37 (lv_at hl 0 rfl) ?_
    refine lv_icmp_ne (tgt := 56) hx hb d_R_vote_39 rfl (fun h2 => ?_) (fun h2 => ?_)
    · refine lv_aload_n hx hb d_R_vote_56 rfl (lv_at hl 3 rfl) ?_
      refine gf_R_16 hF hM d_R_vote_57 ?_
      refine lv_iload_n hx hb d_R_vote_60 rfl (lv_at hl 2 rfl) ?_
      refine lv_iload hx hb d_R_vote_61 (lv_at hl 1 rfl) ?_
      refine lv_iload hx hb d_R_vote_63 (lv_at hl 0 rfl) ?_
      have J4 : ∀ (ls : Array Slot) (H : Heap) (locs : List Loc), lv_has ls 7 [(0, .ref (a 0)), (1, .int (nI mn)), (2, .int (nI sn)), (3, .int (((6 : Int32) * (nI mn)) + (nI sn))), (4, .int (v_R_say u mn sn true)), (5, .int (v_R_say u mn sn false))] → gm_M D A s (gr_W dk a) u H locs → W p l e rm_R_vote s m args below meth c H locs 0 0 Q (F0 m 73 ls [.int (gm_b (if (v_R_say u mn sn true) ≤ (v_R_say u mn sn false) then false else true)), .int (((6 : Int32) * (nI mn)) + (nI sn)), .ref (a 3)]) := by
        intro ls H locs hl hM
        refine gq_value (k := (6 * mn + sn)) hF hM (by first | rfl | (simp only [← nI_add, ← pk_mul] <;> rfl)) (by first | omega | exact Nat.mod_lt _ (by decide)) (v := (if (v_R_say u mn sn true) ≤ (v_R_say u mn sn false) then false else true)) rfl d_R_vote_73 (fun H locs hM => ?_)
        refine lv_iconst (v := 0) hx hb d_R_vote_74 (by decide) ?_
        refine lv_istore (lv' := [(6, .int (0 : Int32)), (0, .ref (a 0)), (1, .int (nI mn)), (2, .int (nI sn)), (3, .int (((6 : Int32) * (nI mn)) + (nI sn))), (4, .int (v_R_say u mn sn true)), (5, .int (v_R_say u mn sn false))]) hx hb d_R_vote_75 hl (by decide) rfl (fun ls hl => ?_)
        by_cases hs5 : ((v_R_say u mn sn true) + (v_R_say u mn sn false)) = (3 : Int32)
        · have L6 : ∀ (k6 i6 : Nat) (w6 : gm_St) (ls : Array Slot) (H : Heap) (locs : List Loc), i6 + k6 = 3 → lv_has ls 7 [(6, .int (nI i6)), (0, .ref (a 0)), (1, .int (nI mn)), (2, .int (nI sn)), (3, .int (((6 : Int32) * (nI mn)) + (nI sn))), (4, .int (v_R_say u mn sn true)), (5, .int (v_R_say u mn sn false))] → gm_M D A s (gr_W dk a) w6 H locs → (∀ (ls : Array Slot) (H : Heap) (locs : List Loc), lv_has ls 7 [(6, .int (nI 3)), (0, .ref (a 0)), (1, .int (nI mn)), (2, .int (nI sn)), (3, .int (((6 : Int32) * (nI mn)) + (nI sn))), (4, .int (v_R_say u mn sn true)), (5, .int (v_R_say u mn sn false))] → gm_M D A s (gr_W dk a) (lp_R_vote mn sn (6 * mn + sn) k6 i6 w6) H locs → W p l e rm_R_vote s m args below meth c H locs 0 0 Q (F0 m 135 ls [])) → W p l e rm_R_vote s m args below meth c H locs 0 0 Q (F0 m 77 ls []) := by
            intro k6
            induction k6 with
            | zero =>
              intro i6 w6 ls H locs hk6 hl hM kk
              obtain rfl : i6 = 3 := by omega
              refine lv_iload hx hb d_R_vote_77 (lv_at hl 0 rfl) ?_
              refine lv_iconst (v := 3) hx hb d_R_vote_79 (by decide) ?_
              refine lv_icmp_ge (tgt := 135) hx hb d_R_vote_80 rfl (fun _ => ?_) (fun h => absurd (by decide) h)
              exact kk ls H locs hl hM
            | succ k6 ih =>
              intro i6 w6 ls H locs hk6 hl hM kk
              refine lv_iload hx hb d_R_vote_77 (lv_at hl 0 rfl) ?_
              refine lv_iconst (v := 3) hx hb d_R_vote_79 (by decide) ?_
              refine lv_icmp_ge (tgt := 135) hx hb d_R_vote_80 rfl (fun h => absurd h (nI_ge (a := i6) (b := 3) (by omega) (by first | decide | omega))) (fun _ => ?_)
              refine lv_iload hx hb d_R_vote_83 (lv_at hl 5 rfl) ?_
              refine lv_iload hx hb d_R_vote_85 (lv_at hl 6 rfl) ?_
              refine lv_iadd hx hb d_R_vote_87 ?_
              refine lv_iconst (v := 3) hx hb d_R_vote_88 (by decide) ?_
              refine lv_icmp_ne (tgt := 135) hx hb d_R_vote_89 rfl (fun h => absurd h (fun q => q hs5)) (fun _ => ?_)
              refine lv_aload_n hx hb d_R_vote_92 rfl (lv_at hl 1 rfl) ?_
              refine gf_R_13 hF hM d_R_vote_93 ?_
              refine lv_bipush (v := 18) hx hb d_R_vote_96 (by decide) ?_
              refine lv_iload_n hx hb d_R_vote_98 rfl (lv_at hl 2 rfl) ?_
              refine lv_imul hx hb d_R_vote_99 ?_
              refine lv_iconst (v := 3) hx hb d_R_vote_100 (by decide) ?_
              refine lv_iload_n hx hb d_R_vote_101 rfl (lv_at hl 3 rfl) ?_
              refine lv_imul hx hb d_R_vote_102 ?_
              refine lv_iadd hx hb d_R_vote_103 ?_
              refine lv_iload hx hb d_R_vote_104 (lv_at hl 0 rfl) ?_
              refine lv_iadd hx hb d_R_vote_106 ?_
              refine lv_aload_n hx hb d_R_vote_107 rfl (lv_at hl 1 rfl) ?_
              refine lv_iload_n hx hb d_R_vote_108 rfl (lv_at hl 3 rfl) ?_
              refine lv_iload hx hb d_R_vote_109 (lv_at hl 0 rfl) ?_
              refine gm_Vi (As := [.int (nI sn), .int (nI i6)]) (rest := [.int ((((18 : Int32) * (nI mn)) + ((3 : Int32) * (nI sn))) + (nI i6)), .ref (a 2)]) hF hM (c_R_channel (u := w6) (sn := sn) (cn := i6) (by omega) (by omega)) (gk_R_50 hts ⟨by decide, by decide⟩) (gv_R hF hM rfl) rfl hl.1 rfl (Nat.le_of_ble_eq_true rfl) ⟨Nat.zero_le _, Nat.zero_le _⟩ d_R_vote_111 (fun H locs hM => ?_)
              refine lv_aload_n hx hb d_R_vote_114 rfl (lv_at hl 1 rfl) ?_
              refine gf_R_16 hF hM d_R_vote_115 ?_
              refine lv_iload_n hx hb d_R_vote_118 rfl (lv_at hl 4 rfl) ?_
              refine ga_value (k := (6 * mn + sn)) hF hM (by first | rfl | (simp only [← nI_add, ← pk_mul] <;> rfl)) (by first | omega | exact Nat.mod_lt _ (by decide)) d_R_vote_119 ?_
              have J8 : ∀ (ls : Array Slot) (H : Heap) (locs : List Loc), lv_has ls 7 [(0, .ref (a 0)), (1, .int (nI mn)), (2, .int (nI sn)), (3, .int (((6 : Int32) * (nI mn)) + (nI sn))), (4, .int (v_R_say u mn sn true)), (5, .int (v_R_say u mn sn false)), (6, .int (nI i6))] → gm_M D A s (gr_W dk a) w6 H locs → W p l e rm_R_vote s m args below meth c H locs 0 0 Q (F0 m 128 ls [.int (gm_b (if (v_R_channel w6 sn i6) = (w6.1 2 (6 * mn + sn)) then false else true)), .int ((((18 : Int32) * (nI mn)) + ((3 : Int32) * (nI sn))) + (nI i6)), .ref (a 2)]) := by
                intro ls H locs hl hM
                refine gq_bad (k := (18 * mn + (3 * sn) + i6)) hF hM (by first | rfl | (simp only [← nI_add, ← pk_mul] <;> rfl)) (by first | omega | exact Nat.mod_lt _ (by decide)) (v := (if (v_R_channel w6 sn i6) = (w6.1 2 (6 * mn + sn)) then false else true)) rfl d_R_vote_128 (fun H locs hM => ?_)
                refine lv_iinc (k := 6) (v := (nI (i6 + 1))) (lv' := [(6, .int (nI (i6 + 1))), (0, .ref (a 0)), (1, .int (nI mn)), (2, .int (nI sn)), (3, .int (((6 : Int32) * (nI mn)) + (nI sn))), (4, .int (v_R_say u mn sn true)), (5, .int (v_R_say u mn sn false))]) hx hb d_R_vote_129 hl rfl (nI_1 _) (by decide) rfl (fun ls hl => ?_)
                refine lv_goto (tgt := 77) hx hb d_R_vote_132 rfl ?_
                have hK := kk
                simp only [lp_R_vote] at hK
                exact ih (i6 + 1) (gm_sB w6 1 (18 * mn + (3 * sn) + i6) (if (v_R_channel w6 sn i6) = (w6.1 2 (6 * mn + sn)) then false else true)) ls H locs (by omega) hl hM hK
              refine gm_icz (b := (v_R_channel w6 sn i6)) (d := (w6.1 2 (6 * mn + sn))) (tgt := 127) hx hb d_R_vote_120 rfl (fun h7 => ?_) (fun h7 => ?_)
              · refine lv_iconst (v := 0) hx hb d_R_vote_127 (by decide) ?_
                have hJ := J8
                try simp only [if_pos h7] at hJ
                exact hJ ls H locs (lv_sub hl [1, 2, 3, 4, 5, 6, 0] rfl) hM
              · refine lv_iconst (v := 1) hx hb d_R_vote_123 (by decide) ?_
                refine lv_goto (tgt := 128) hx hb d_R_vote_124 rfl ?_
                have hJ := J8
                try simp only [if_neg h7] at hJ
                exact hJ ls H locs (lv_sub hl [1, 2, 3, 4, 5, 6, 0] rfl) hM
          refine L6 3 0 (gm_sB u 2 (6 * mn + sn) (if (v_R_say u mn sn true) ≤ (v_R_say u mn sn false) then false else true)) ls H locs (by omega) hl hM (fun ls H locs hl hM => ?_)
          have hq := hQ H locs 135 ls
          simp only [s_R_vote, if_neg (gm_nf h1), if_neg h2, if_pos hs5] at hq
          exact hq hM d_R_vote_135
        · refine lv_iload hx hb d_R_vote_77 (lv_at hl 0 rfl) ?_
          refine lv_iconst (v := 3) hx hb d_R_vote_79 (by decide) ?_
          refine lv_icmp_ge (tgt := 135) hx hb d_R_vote_80 rfl (fun h => absurd h (by decide)) (fun _ => ?_)
          refine lv_iload hx hb d_R_vote_83 (lv_at hl 5 rfl) ?_
          refine lv_iload hx hb d_R_vote_85 (lv_at hl 6 rfl) ?_
          refine lv_iadd hx hb d_R_vote_87 ?_
          refine lv_iconst (v := 3) hx hb d_R_vote_88 (by decide) ?_
          refine lv_icmp_ne (tgt := 135) hx hb d_R_vote_89 rfl (fun _ => ?_) (fun h => absurd h hs5)
          have hq := hQ H locs 135 ls
          simp only [s_R_vote, if_neg (gm_nf h1), if_neg h2, if_neg hs5] at hq
          exact hq hM d_R_vote_135
      refine lv_icmp_le (tgt := 72) hx hb d_R_vote_65 rfl (fun h3 => ?_) (fun h3 => ?_)
      · refine lv_iconst (v := 0) hx hb d_R_vote_72 (by decide) ?_
        have hJ := J4
        try simp only [if_pos h3] at hJ
        exact hJ ls H locs (lv_sub hl [3, 4, 5, 2, 1, 0] rfl) hM
      · refine lv_iconst (v := 1) hx hb d_R_vote_68 (by decide) ?_
        refine lv_goto (tgt := 73) hx hb d_R_vote_69 rfl ?_
        have hJ := J4
        try simp only [if_neg h3] at hJ
        exact hJ ls H locs (lv_sub hl [3, 4, 5, 2, 1, 0] rfl) hM
    · refine lv_aload_n hx hb d_R_vote_42 rfl (lv_at hl 3 rfl) ?_
      refine gf_R_19 hF hM d_R_vote_43 ?_
      refine lv_iload_n hx hb d_R_vote_46 rfl (lv_at hl 2 rfl) ?_
      refine lv_iconst (v := 1) hx hb d_R_vote_47 (by decide) ?_
      refine gq_broken (k := (6 * mn + sn)) hF hM (by first | rfl | (simp only [← nI_add, ← pk_mul] <;> rfl)) (by first | omega | exact Nat.mod_lt _ (by decide)) (v := true) rfl d_R_vote_48 (fun H locs hM => ?_)
      refine lv_aload_n hx hb d_R_vote_49 rfl (lv_at hl 3 rfl) ?_
      refine lv_iload_n hx hb d_R_vote_50 rfl (lv_at hl 4 rfl) ?_
      refine lv_iload_n hx hb d_R_vote_51 rfl (lv_at hl 5 rfl) ?_
      refine gm_Vv (As := [.int (nI mn), .int (nI sn)]) (rest := []) hF hM (c_R_gets (u := (gm_sB u 3 (6 * mn + sn) true)) (mn := mn) (kn := sn) (by omega) (by omega) hp0) (gk_R_58 hts ⟨by decide, by decide⟩) (gv_R hF hM rfl) rfl hl.1 rfl (Nat.le_of_ble_eq_true rfl) ⟨Nat.zero_le _, Nat.zero_le _⟩ d_R_vote_52 (fun H locs hM => ?_)
      have hq := hQ H locs 55 ls
      simp only [s_R_vote, if_neg (gm_nf h1), if_pos h2] at hq
      exact hq hM d_R_vote_55
  · have hq := hQ H locs 16 ls
    simp only [s_R_vote, if_pos h1] at hq
    exact hq hM d_R_vote_16
theorem gr_lpvote_N {mn sn at_ : Nat} : ∀ (k i : Nat) (u : gm_St), (lp_R_vote mn sn at_ k i u).2.2.1 = u.2.2.1 := by
  intro k
  induction k with
  | zero => intro i u; rfl
  | succ k ih => intro i u; simp only [lp_R_vote]; rw [ih]; rfl
theorem gr_vote_N {u : gm_St} {mn sn : Nat} : (s_R_vote u mn sn).2.2.1 0 ≤ u.2.2.1 0 + 1 := by
  unfold s_R_vote
  split
  · exact Nat.le_succ _
  · split
    · exact gr_gets_N
    · split
      · rw [gr_lpvote_N]; exact Nat.le_succ _
      · exact Nat.le_succ _
end
section
theorem d_R_was_0 : decode b_R_was 0 = .ok (.aload_n 0, 1) := by decide +kernel
theorem d_R_was_1 : decode b_R_was 1 = .ok (.getfield 35, 3) := by decide +kernel
theorem d_R_was_4 : decode b_R_was 4 = .ok (.bipush 11, 2) := by decide +kernel
theorem d_R_was_6 : decode b_R_was 6 = .ok (.iload_n 1, 1) := by decide +kernel
theorem d_R_was_7 : decode b_R_was 7 = .ok (.imul, 1) := by decide +kernel
theorem d_R_was_8 : decode b_R_was 8 = .ok (.iload_n 3, 1) := by decide +kernel
theorem d_R_was_9 : decode b_R_was 9 = .ok (.iadd, 1) := by decide +kernel
theorem d_R_was_10 : decode b_R_was 10 = .ok (.iaload, 1) := by decide +kernel
theorem d_R_was_11 : decode b_R_was 11 = .ok (.iload_n 2, 1) := by decide +kernel
theorem d_R_was_12 : decode b_R_was 12 = .ok (.ishr, 1) := by decide +kernel
theorem d_R_was_13 : decode b_R_was 13 = .ok (.iconst 1, 1) := by decide +kernel
theorem d_R_was_14 : decode b_R_was 14 = .ok (.iand, 1) := by decide +kernel
theorem d_R_was_15 : decode b_R_was 15 = .ok (.iconst 1, 1) := by decide +kernel
theorem d_R_was_16 : decode b_R_was 16 = .ok (.if_icmp .ne 7, 3) := by decide +kernel
theorem d_R_was_19 : decode b_R_was 19 = .ok (.iconst 1, 1) := by decide +kernel
theorem d_R_was_20 : decode b_R_was 20 = .ok (.goto 4, 3) := by decide +kernel
theorem d_R_was_23 : decode b_R_was 23 = .ok (.iconst 0, 1) := by decide +kernel
theorem d_R_was_24 : decode b_R_was 24 = .ok (.ireturn, 1) := by decide +kernel
def v_R_was (u : gm_St) (mn : Nat) (vn : Int32) (an : Nat) : Bool := (if (((u.2.1 2 (11 * mn + an)) >>> (vn &&& 31)) &&& (1 : Int32)) = (1 : Int32) then true else false)
set_option maxRecDepth 100000 in
set_option maxHeartbeats 4000000 in
theorem c_R_was {l : Launch} {D : va_G} {dk : Nat → ClassId} {a : Nat → Nat} {A : Nat → Prop} {lt : Nat} {u : gm_St} {mn : Nat} {vn : Int32} {an : Nat} (h_mn : mn < 2) (h_an : an < 11) : gm_I l D (gm_ty dk) (gr_W dk a) A lt y_R_was b_R_was 4 (some .boolean) rm_R_was [.ref (a 0), .int (nI mn), .int vn, .int (nI an)] u (gm_b (v_R_was u mn vn an)) u := by
  refine gm_enterZ (by decide) (Nat.le_of_ble_eq_true rfl) ?_
  intro p e s m args below meth c ls Q H locs hF hM hl hQ
  have hx := hF.1
  have hb := hF.2.1
  have hml := hF.2.2.1
  have hown := hF.2.2.2.1
  have hts := hF.2.2.2.2.1
  have hl : lv_has ls 4 [(0, .ref (a 0)), (1, .int (nI mn)), (2, .int vn), (3, .int (nI an))] := hl
  refine lv_aload_n hx hb d_R_was_0 rfl (lv_at hl 0 rfl) ?_
  refine gf_R_35 hF hM d_R_was_1 ?_
  refine lv_bipush (v := 11) hx hb d_R_was_4 (by decide) ?_
  refine lv_iload_n hx hb d_R_was_6 rfl (lv_at hl 1 rfl) ?_
  refine lv_imul hx hb d_R_was_7 ?_
  refine lv_iload_n hx hb d_R_was_8 rfl (lv_at hl 3 rfl) ?_
  refine lv_iadd hx hb d_R_was_9 ?_
  refine ga_past (k := (11 * mn + an)) hF hM (by first | rfl | (simp only [← nI_add, ← pk_mul] <;> rfl)) (by first | omega | exact Nat.mod_lt _ (by decide)) d_R_was_10 ?_
  refine lv_iload_n hx hb d_R_was_11 rfl (lv_at hl 2 rfl) ?_
  refine lv_ishr hx hb d_R_was_12 ?_
  refine lv_iconst (v := 1) hx hb d_R_was_13 (by decide) ?_
  refine lv_iand hx hb d_R_was_14 ?_
  refine lv_iconst (v := 1) hx hb d_R_was_15 (by decide) ?_
  have J2 : ∀ (ls : Array Slot) (H : Heap) (locs : List Loc), lv_has ls 4 [(0, .ref (a 0)), (1, .int (nI mn)), (2, .int vn), (3, .int (nI an))] → gm_M D A s (gr_W dk a) u H locs → W p l e rm_R_was s m args below meth c H locs 0 0 Q (F0 m 24 ls [.int (gm_b (if (((u.2.1 2 (11 * mn + an)) >>> (vn &&& 31)) &&& (1 : Int32)) = (1 : Int32) then true else false))]) := by
    intro ls H locs hl hM
    have hq := hQ H locs 24 ls
    simp only [v_R_was] at hq
    exact hq hM d_R_was_24
  refine lv_icmp_ne (tgt := 23) hx hb d_R_was_16 rfl (fun h1 => ?_) (fun h1 => ?_)
  · refine lv_iconst (v := 0) hx hb d_R_was_23 (by decide) ?_
    have hJ := J2
    try simp only [if_neg h1] at hJ
    exact hJ ls H locs hl hM
  · refine lv_iconst (v := 1) hx hb d_R_was_19 (by decide) ?_
    refine lv_goto (tgt := 24) hx hb d_R_was_20 rfl ?_
    have hJ := J2
    try simp only [if_pos h1] at hJ
    exact hJ ls H locs hl hM
theorem d_R_right_0 : decode b_R_right 0 = .ok (.aload_n 0, 1) := by decide +kernel
theorem d_R_right_1 : decode b_R_right 1 = .ok (.getfield 16, 3) := by decide +kernel
theorem d_R_right_4 : decode b_R_right 4 = .ok (.bipush 6, 2) := by decide +kernel
theorem d_R_right_6 : decode b_R_right 6 = .ok (.iload_n 1, 1) := by decide +kernel
theorem d_R_right_7 : decode b_R_right 7 = .ok (.imul, 1) := by decide +kernel
theorem d_R_right_8 : decode b_R_right 8 = .ok (.baload, 1) := by decide +kernel
theorem d_R_right_9 : decode b_R_right 9 = .ok (.istore_n 2, 1) := by decide +kernel
theorem d_R_right_10 : decode b_R_right 10 = .ok (.aload_n 0, 1) := by decide +kernel
theorem d_R_right_11 : decode b_R_right 11 = .ok (.getfield 16, 3) := by decide +kernel
theorem d_R_right_14 : decode b_R_right 14 = .ok (.bipush 6, 2) := by decide +kernel
theorem d_R_right_16 : decode b_R_right 16 = .ok (.iload_n 1, 1) := by decide +kernel
theorem d_R_right_17 : decode b_R_right 17 = .ok (.imul, 1) := by decide +kernel
theorem d_R_right_18 : decode b_R_right 18 = .ok (.iconst 1, 1) := by decide +kernel
theorem d_R_right_19 : decode b_R_right 19 = .ok (.iadd, 1) := by decide +kernel
theorem d_R_right_20 : decode b_R_right 20 = .ok (.baload, 1) := by decide +kernel
theorem d_R_right_21 : decode b_R_right 21 = .ok (.istore_n 3, 1) := by decide +kernel
theorem d_R_right_22 : decode b_R_right 22 = .ok (.aload_n 0, 1) := by decide +kernel
theorem d_R_right_23 : decode b_R_right 23 = .ok (.getfield 42, 3) := by decide +kernel
theorem d_R_right_26 : decode b_R_right 26 = .ok (.ifCond .eq 19, 3) := by decide +kernel
theorem d_R_right_29 : decode b_R_right 29 = .ok (.iload_n 2, 1) := by decide +kernel
theorem d_R_right_30 : decode b_R_right 30 = .ok (.ifCond .eq 11, 3) := by decide +kernel
theorem d_R_right_33 : decode b_R_right 33 = .ok (.iload_n 3, 1) := by decide +kernel
theorem d_R_right_34 : decode b_R_right 34 = .ok (.ifCond .ne 7, 3) := by decide +kernel
theorem d_R_right_37 : decode b_R_right 37 = .ok (.iconst 1, 1) := by decide +kernel
theorem d_R_right_38 : decode b_R_right 38 = .ok (.goto 20, 3) := by decide +kernel
theorem d_R_right_41 : decode b_R_right 41 = .ok (.iconst 0, 1) := by decide +kernel
theorem d_R_right_42 : decode b_R_right 42 = .ok (.goto 16, 3) := by decide +kernel
theorem d_R_right_45 : decode b_R_right 45 = .ok (.iload_n 3, 1) := by decide +kernel
theorem d_R_right_46 : decode b_R_right 46 = .ok (.ifCond .eq 11, 3) := by decide +kernel
theorem d_R_right_49 : decode b_R_right 49 = .ok (.iload_n 2, 1) := by decide +kernel
theorem d_R_right_50 : decode b_R_right 50 = .ok (.ifCond .ne 7, 3) := by decide +kernel
theorem d_R_right_53 : decode b_R_right 53 = .ok (.iconst 1, 1) := by decide +kernel
theorem d_R_right_54 : decode b_R_right 54 = .ok (.goto 4, 3) := by decide +kernel
theorem d_R_right_57 : decode b_R_right 57 = .ok (.iconst 0, 1) := by decide +kernel
theorem d_R_right_58 : decode b_R_right 58 = .ok (.ireturn, 1) := by decide +kernel
def v_R_right (u : gm_St) (mn : Nat) : Bool := (if (u.1 6 0) = true then (if (u.1 2 (6 * mn)) = true then (if (u.1 2 (6 * mn + 1)) = true then false else true) else false) else (if (u.1 2 (6 * mn + 1)) = true then (if (u.1 2 (6 * mn)) = true then false else true) else false))
set_option maxRecDepth 100000 in
set_option maxHeartbeats 4000000 in
theorem c_R_right {l : Launch} {D : va_G} {dk : Nat → ClassId} {a : Nat → Nat} {A : Nat → Prop} {lt : Nat} {u : gm_St} {mn : Nat} (h_mn : mn < 2) : gm_I l D (gm_ty dk) (gr_W dk a) A lt y_R_right b_R_right 4 (some .boolean) rm_R_right [.ref (a 0), .int (nI mn)] u (gm_b (v_R_right u mn)) u := by
  refine gm_enterZ (by decide) (Nat.le_of_ble_eq_true rfl) ?_
  intro p e s m args below meth c ls Q H locs hF hM hl hQ
  have hx := hF.1
  have hb := hF.2.1
  have hml := hF.2.2.1
  have hown := hF.2.2.2.1
  have hts := hF.2.2.2.2.1
  have hl : lv_has ls 4 [(0, .ref (a 0)), (1, .int (nI mn))] := hl
  refine lv_aload_n hx hb d_R_right_0 rfl (lv_at hl 0 rfl) ?_
  refine gf_R_16 hF hM d_R_right_1 ?_
  refine lv_bipush (v := 6) hx hb d_R_right_4 (by decide) ?_
  refine lv_iload_n hx hb d_R_right_6 rfl (lv_at hl 1 rfl) ?_
  refine lv_imul hx hb d_R_right_7 ?_
  refine ga_value (k := (6 * mn)) hF hM (by first | rfl | (simp only [← nI_add, ← pk_mul] <;> rfl)) (by first | omega | exact Nat.mod_lt _ (by decide)) d_R_right_8 ?_
  refine lv_istore_n (lv' := [(2, .int (gm_b (u.1 2 (6 * mn)))), (0, .ref (a 0)), (1, .int (nI mn))]) hx hb d_R_right_9 rfl hl (by decide) rfl (fun ls hl => ?_)
  refine lv_aload_n hx hb d_R_right_10 rfl (lv_at hl 1 rfl) ?_
  refine gf_R_16 hF hM d_R_right_11 ?_
  refine lv_bipush (v := 6) hx hb d_R_right_14 (by decide) ?_
  refine lv_iload_n hx hb d_R_right_16 rfl (lv_at hl 2 rfl) ?_
  refine lv_imul hx hb d_R_right_17 ?_
  refine lv_iconst (v := 1) hx hb d_R_right_18 (by decide) ?_
  refine lv_iadd hx hb d_R_right_19 ?_
  refine ga_value (k := (6 * mn + 1)) hF hM (by first | rfl | (simp only [← nI_add, ← pk_mul] <;> rfl)) (by first | omega | exact Nat.mod_lt _ (by decide)) d_R_right_20 ?_
  refine lv_istore_n (lv' := [(3, .int (gm_b (u.1 2 (6 * mn + 1)))), (2, .int (gm_b (u.1 2 (6 * mn)))), (0, .ref (a 0)), (1, .int (nI mn))]) hx hb d_R_right_21 rfl hl (by decide) rfl (fun ls hl => ?_)
  refine lv_aload_n hx hb d_R_right_22 rfl (lv_at hl 2 rfl) ?_
  refine gf_R_42 hF hM d_R_right_23 ?_
  have J2 : ∀ (ls : Array Slot) (H : Heap) (locs : List Loc), lv_has ls 4 [(0, .ref (a 0)), (1, .int (nI mn)), (2, .int (gm_b (u.1 2 (6 * mn)))), (3, .int (gm_b (u.1 2 (6 * mn + 1))))] → gm_M D A s (gr_W dk a) u H locs → W p l e rm_R_right s m args below meth c H locs 0 0 Q (F0 m 58 ls [.int (gm_b (if (u.1 6 0) = true then (if (u.1 2 (6 * mn)) = true then (if (u.1 2 (6 * mn + 1)) = true then false else true) else false) else (if (u.1 2 (6 * mn + 1)) = true then (if (u.1 2 (6 * mn)) = true then false else true) else false)))]) := by
    intro ls H locs hl hM
    have hq := hQ H locs 58 ls
    simp only [v_R_right] at hq
    exact hq hM d_R_right_58
  refine gm_ifz (b := (u.1 6 0)) (tgt := 45) hx hb d_R_right_26 rfl (fun h1 => ?_) (fun h1 => ?_)
  · refine lv_iload_n hx hb d_R_right_45 rfl (lv_at hl 0 rfl) ?_
    refine gm_ifz (b := (u.1 2 (6 * mn + 1))) (tgt := 57) hx hb d_R_right_46 rfl (fun h3 => ?_) (fun h3 => ?_)
    · refine lv_iconst (v := 0) hx hb d_R_right_57 (by decide) ?_
      have hJ := J2
      try simp only [if_neg (gm_nf h1), if_neg (gm_nf h3)] at hJ
      exact hJ ls H locs (lv_sub hl [2, 3, 1, 0] rfl) hM
    · refine lv_iload_n hx hb d_R_right_49 rfl (lv_at hl 1 rfl) ?_
      refine gm_ifn (b := (u.1 2 (6 * mn))) (tgt := 57) hx hb d_R_right_50 rfl (fun h4 => ?_) (fun h4 => ?_)
      · refine lv_iconst (v := 0) hx hb d_R_right_57 (by decide) ?_
        have hJ := J2
        try simp only [if_neg (gm_nf h1), if_pos h3, if_pos h4] at hJ
        exact hJ ls H locs (lv_sub hl [2, 3, 1, 0] rfl) hM
      · refine lv_iconst (v := 1) hx hb d_R_right_53 (by decide) ?_
        refine lv_goto (tgt := 58) hx hb d_R_right_54 rfl ?_
        have hJ := J2
        try simp only [if_neg (gm_nf h1), if_pos h3, if_neg (gm_nf h4)] at hJ
        exact hJ ls H locs (lv_sub hl [2, 3, 1, 0] rfl) hM
  · refine lv_iload_n hx hb d_R_right_29 rfl (lv_at hl 1 rfl) ?_
    refine gm_ifz (b := (u.1 2 (6 * mn))) (tgt := 41) hx hb d_R_right_30 rfl (fun h5 => ?_) (fun h5 => ?_)
    · refine lv_iconst (v := 0) hx hb d_R_right_41 (by decide) ?_
      refine lv_goto (tgt := 58) hx hb d_R_right_42 rfl ?_
      have hJ := J2
      try simp only [if_pos h1, if_neg (gm_nf h5)] at hJ
      exact hJ ls H locs (lv_sub hl [2, 3, 1, 0] rfl) hM
    · refine lv_iload_n hx hb d_R_right_33 rfl (lv_at hl 0 rfl) ?_
      refine gm_ifn (b := (u.1 2 (6 * mn + 1))) (tgt := 41) hx hb d_R_right_34 rfl (fun h6 => ?_) (fun h6 => ?_)
      · refine lv_iconst (v := 0) hx hb d_R_right_41 (by decide) ?_
        refine lv_goto (tgt := 58) hx hb d_R_right_42 rfl ?_
        have hJ := J2
        try simp only [if_pos h1, if_pos h5, if_pos h6] at hJ
        exact hJ ls H locs (lv_sub hl [2, 3, 1, 0] rfl) hM
      · refine lv_iconst (v := 1) hx hb d_R_right_37 (by decide) ?_
        refine lv_goto (tgt := 58) hx hb d_R_right_38 rfl ?_
        have hJ := J2
        try simp only [if_pos h1, if_pos h5, if_neg (gm_nf h6)] at hJ
        exact hJ ls H locs (lv_sub hl [2, 3, 1, 0] rfl) hM
theorem d_R_wanted_0 : decode b_R_wanted 0 = .ok (.aload_n 0, 1) := by decide +kernel
theorem d_R_wanted_1 : decode b_R_wanted 1 = .ok (.iload_n 1, 1) := by decide +kernel
theorem d_R_wanted_2 : decode b_R_wanted 2 = .ok (.invokevirtual 62, 3) := by decide +kernel
theorem d_R_wanted_5 : decode b_R_wanted 5 = .ok (.istore_n 3, 1) := by decide +kernel
theorem d_R_wanted_6 : decode b_R_wanted 6 = .ok (.iload_n 2, 1) := by decide +kernel
theorem d_R_wanted_7 : decode b_R_wanted 7 = .ok (.iconst 1, 1) := by decide +kernel
theorem d_R_wanted_8 : decode b_R_wanted 8 = .ok (.if_icmp .ne 13, 3) := by decide +kernel
theorem d_R_wanted_11 : decode b_R_wanted 11 = .ok (.iload_n 3, 1) := by decide +kernel
theorem d_R_wanted_12 : decode b_R_wanted 12 = .ok (.ifCond .ne 7, 3) := by decide +kernel
theorem d_R_wanted_15 : decode b_R_wanted 15 = .ok (.iconst 1, 1) := by decide +kernel
theorem d_R_wanted_16 : decode b_R_wanted 16 = .ok (.goto 4, 3) := by decide +kernel
theorem d_R_wanted_19 : decode b_R_wanted 19 = .ok (.iconst 0, 1) := by decide +kernel
theorem d_R_wanted_20 : decode b_R_wanted 20 = .ok (.ireturn, 1) := by decide +kernel
theorem d_R_wanted_21 : decode b_R_wanted 21 = .ok (.iload_n 2, 1) := by decide +kernel
theorem d_R_wanted_22 : decode b_R_wanted 22 = .ok (.iconst 2, 1) := by decide +kernel
theorem d_R_wanted_23 : decode b_R_wanted 23 = .ok (.if_icmp .ne 27, 3) := by decide +kernel
theorem d_R_wanted_26 : decode b_R_wanted 26 = .ok (.iload_n 3, 1) := by decide +kernel
theorem d_R_wanted_27 : decode b_R_wanted 27 = .ok (.ifCond .eq 21, 3) := by decide +kernel
theorem d_R_wanted_30 : decode b_R_wanted 30 = .ok (.aload_n 0, 1) := by decide +kernel
theorem d_R_wanted_31 : decode b_R_wanted 31 = .ok (.getfield 16, 3) := by decide +kernel
theorem d_R_wanted_34 : decode b_R_wanted 34 = .ok (.bipush 6, 2) := by decide +kernel
theorem d_R_wanted_36 : decode b_R_wanted 36 = .ok (.iload_n 1, 1) := by decide +kernel
theorem d_R_wanted_37 : decode b_R_wanted 37 = .ok (.imul, 1) := by decide +kernel
theorem d_R_wanted_38 : decode b_R_wanted 38 = .ok (.iconst 3, 1) := by decide +kernel
theorem d_R_wanted_39 : decode b_R_wanted 39 = .ok (.iadd, 1) := by decide +kernel
theorem d_R_wanted_40 : decode b_R_wanted 40 = .ok (.baload, 1) := by decide +kernel
theorem d_R_wanted_41 : decode b_R_wanted 41 = .ok (.ifCond .ne 7, 3) := by decide +kernel
theorem d_R_wanted_44 : decode b_R_wanted 44 = .ok (.iconst 1, 1) := by decide +kernel
theorem d_R_wanted_45 : decode b_R_wanted 45 = .ok (.goto 4, 3) := by decide +kernel
theorem d_R_wanted_48 : decode b_R_wanted 48 = .ok (.iconst 0, 1) := by decide +kernel
theorem d_R_wanted_49 : decode b_R_wanted 49 = .ok (.ireturn, 1) := by decide +kernel
theorem d_R_wanted_50 : decode b_R_wanted 50 = .ok (.iload_n 3, 1) := by decide +kernel
theorem d_R_wanted_51 : decode b_R_wanted 51 = .ok (.ifCond .ne 38, 3) := by decide +kernel
theorem d_R_wanted_54 : decode b_R_wanted 54 = .ok (.aload_n 0, 1) := by decide +kernel
theorem d_R_wanted_55 : decode b_R_wanted 55 = .ok (.getfield 16, 3) := by decide +kernel
theorem d_R_wanted_58 : decode b_R_wanted 58 = .ok (.bipush 6, 2) := by decide +kernel
theorem d_R_wanted_60 : decode b_R_wanted 60 = .ok (.iload_n 1, 1) := by decide +kernel
theorem d_R_wanted_61 : decode b_R_wanted 61 = .ok (.imul, 1) := by decide +kernel
theorem d_R_wanted_62 : decode b_R_wanted 62 = .ok (.iconst 2, 1) := by decide +kernel
theorem d_R_wanted_63 : decode b_R_wanted 63 = .ok (.iadd, 1) := by decide +kernel
theorem d_R_wanted_64 : decode b_R_wanted 64 = .ok (.baload, 1) := by decide +kernel
theorem d_R_wanted_65 : decode b_R_wanted 65 = .ok (.ifCond .eq 24, 3) := by decide +kernel
theorem d_R_wanted_68 : decode b_R_wanted 68 = .ok (.aload_n 0, 1) := by decide +kernel
theorem d_R_wanted_69 : decode b_R_wanted 69 = .ok (.getfield 42, 3) := by decide +kernel
theorem d_R_wanted_72 : decode b_R_wanted 72 = .ok (.iload_n 2, 1) := by decide +kernel
theorem d_R_wanted_73 : decode b_R_wanted 73 = .ok (.iconst 3, 1) := by decide +kernel
theorem d_R_wanted_74 : decode b_R_wanted 74 = .ok (.if_icmp .ne 7, 3) := by decide +kernel
theorem d_R_wanted_77 : decode b_R_wanted 77 = .ok (.iconst 1, 1) := by decide +kernel
theorem d_R_wanted_78 : decode b_R_wanted 78 = .ok (.goto 4, 3) := by decide +kernel
theorem d_R_wanted_81 : decode b_R_wanted 81 = .ok (.iconst 0, 1) := by decide +kernel
theorem d_R_wanted_82 : decode b_R_wanted 82 = .ok (.if_icmp .ne 7, 3) := by decide +kernel
theorem d_R_wanted_85 : decode b_R_wanted 85 = .ok (.iconst 1, 1) := by decide +kernel
theorem d_R_wanted_86 : decode b_R_wanted 86 = .ok (.goto 4, 3) := by decide +kernel
theorem d_R_wanted_89 : decode b_R_wanted 89 = .ok (.iconst 0, 1) := by decide +kernel
theorem d_R_wanted_90 : decode b_R_wanted 90 = .ok (.ireturn, 1) := by decide +kernel
def v_R_wanted (u : gm_St) (mn : Nat) (vn : Int32) : Bool := (if vn = (1 : Int32) then (if (v_R_right u mn) = true then false else true) else (if vn = (2 : Int32) then (if (v_R_right u mn) = true then (if (u.1 2 (6 * mn + 3)) = true then false else true) else false) else (if (v_R_right u mn) = true then false else (if (u.1 2 (6 * mn + 2)) = true then (if (u.1 6 0) = (if vn = (3 : Int32) then true else false) then true else false) else false))))
set_option maxRecDepth 100000 in
set_option maxHeartbeats 4000000 in
theorem c_R_wanted {l : Launch} {D : va_G} {dk : Nat → ClassId} {a : Nat → Nat} {A : Nat → Prop} {lt : Nat} {u : gm_St} {mn : Nat} {vn : Int32} (h_mn : mn < 2) : gm_I l D (gm_ty dk) (gr_W dk a) A lt y_R_wanted b_R_wanted 4 (some .boolean) rm_R_wanted [.ref (a 0), .int (nI mn), .int vn] u (gm_b (v_R_wanted u mn vn)) u := by
  refine gm_enterZ (by decide) (Nat.le_of_ble_eq_true rfl) ?_
  intro p e s m args below meth c ls Q H locs hF hM hl hQ
  have hx := hF.1
  have hb := hF.2.1
  have hml := hF.2.2.1
  have hown := hF.2.2.2.1
  have hts := hF.2.2.2.2.1
  have hl : lv_has ls 4 [(0, .ref (a 0)), (1, .int (nI mn)), (2, .int vn)] := hl
  refine lv_aload_n hx hb d_R_wanted_0 rfl (lv_at hl 0 rfl) ?_
  refine lv_iload_n hx hb d_R_wanted_1 rfl (lv_at hl 1 rfl) ?_
  refine gm_Vi (As := [.int (nI mn)]) (rest := []) hF hM (c_R_right (u := u) (mn := mn) (by omega)) (gk_R_62 hts ⟨by decide, by decide⟩) (gv_R hF hM rfl) rfl hl.1 rfl (Nat.le_of_ble_eq_true rfl) ⟨Nat.zero_le _, Nat.zero_le _⟩ d_R_wanted_2 (fun H locs hM => ?_)
  refine lv_istore_n (lv' := [(3, .int (gm_b (v_R_right u mn))), (0, .ref (a 0)), (1, .int (nI mn)), (2, .int vn)]) hx hb d_R_wanted_5 rfl hl (by decide) rfl (fun ls hl => ?_)
  refine lv_iload_n hx hb d_R_wanted_6 rfl (lv_at hl 3 rfl) ?_
  refine lv_iconst (v := 1) hx hb d_R_wanted_7 (by decide) ?_
  refine lv_icmp_ne (tgt := 21) hx hb d_R_wanted_8 rfl (fun h1 => ?_) (fun h1 => ?_)
  · refine lv_iload_n hx hb d_R_wanted_21 rfl (lv_at hl 3 rfl) ?_
    refine lv_iconst (v := 2) hx hb d_R_wanted_22 (by decide) ?_
    refine lv_icmp_ne (tgt := 50) hx hb d_R_wanted_23 rfl (fun h2 => ?_) (fun h2 => ?_)
    · refine lv_iload_n hx hb d_R_wanted_50 rfl (lv_at hl 0 rfl) ?_
      have J4 : ∀ (ls : Array Slot) (H : Heap) (locs : List Loc), lv_has ls 4 [(0, .ref (a 0)), (1, .int (nI mn)), (2, .int vn), (3, .int (gm_b (v_R_right u mn)))] → gm_M D A s (gr_W dk a) u H locs → W p l e rm_R_wanted s m args below meth c H locs 0 0 Q (F0 m 90 ls [.int (gm_b (if (v_R_right u mn) = true then false else (if (u.1 2 (6 * mn + 2)) = true then (if (u.1 6 0) = (if vn = (3 : Int32) then true else false) then true else false) else false)))]) := by
        intro ls H locs hl hM
        have hq := hQ H locs 90 ls
        simp only [v_R_wanted, if_neg h1, if_neg h2] at hq
        exact hq hM d_R_wanted_90
      refine gm_ifn (b := (v_R_right u mn)) (tgt := 89) hx hb d_R_wanted_51 rfl (fun h3 => ?_) (fun h3 => ?_)
      · refine lv_iconst (v := 0) hx hb d_R_wanted_89 (by decide) ?_
        have hJ := J4
        try simp only [if_pos h3] at hJ
        exact hJ ls H locs (lv_sub hl [1, 2, 3, 0] rfl) hM
      · refine lv_aload_n hx hb d_R_wanted_54 rfl (lv_at hl 1 rfl) ?_
        refine gf_R_16 hF hM d_R_wanted_55 ?_
        refine lv_bipush (v := 6) hx hb d_R_wanted_58 (by decide) ?_
        refine lv_iload_n hx hb d_R_wanted_60 rfl (lv_at hl 2 rfl) ?_
        refine lv_imul hx hb d_R_wanted_61 ?_
        refine lv_iconst (v := 2) hx hb d_R_wanted_62 (by decide) ?_
        refine lv_iadd hx hb d_R_wanted_63 ?_
        refine ga_value (k := (6 * mn + 2)) hF hM (by first | rfl | (simp only [← nI_add, ← pk_mul] <;> rfl)) (by first | omega | exact Nat.mod_lt _ (by decide)) d_R_wanted_64 ?_
        refine gm_ifz (b := (u.1 2 (6 * mn + 2))) (tgt := 89) hx hb d_R_wanted_65 rfl (fun h5 => ?_) (fun h5 => ?_)
        · refine lv_iconst (v := 0) hx hb d_R_wanted_89 (by decide) ?_
          have hJ := J4
          try simp only [if_neg (gm_nf h3), if_neg (gm_nf h5)] at hJ
          exact hJ ls H locs (lv_sub hl [1, 2, 3, 0] rfl) hM
        · refine lv_aload_n hx hb d_R_wanted_68 rfl (lv_at hl 1 rfl) ?_
          refine gf_R_42 hF hM d_R_wanted_69 ?_
          refine lv_iload_n hx hb d_R_wanted_72 rfl (lv_at hl 3 rfl) ?_
          refine lv_iconst (v := 3) hx hb d_R_wanted_73 (by decide) ?_
          have J7 : ∀ (ls : Array Slot) (H : Heap) (locs : List Loc), lv_has ls 4 [(0, .ref (a 0)), (1, .int (nI mn)), (2, .int vn), (3, .int (gm_b (v_R_right u mn)))] → gm_M D A s (gr_W dk a) u H locs → W p l e rm_R_wanted s m args below meth c H locs 0 0 Q (F0 m 82 ls [.int (gm_b (if vn = (3 : Int32) then true else false)), .int (gm_b (u.1 6 0))]) := by
            intro ls H locs hl hM
            refine gm_icn (b := (u.1 6 0)) (d := (if vn = (3 : Int32) then true else false)) (tgt := 89) hx hb d_R_wanted_82 rfl (fun h8 => ?_) (fun h8 => ?_)
            · refine lv_iconst (v := 0) hx hb d_R_wanted_89 (by decide) ?_
              have hJ := J4
              try simp only [if_neg (gm_nf h3), if_pos h5, if_neg h8] at hJ
              exact hJ ls H locs hl hM
            · refine lv_iconst (v := 1) hx hb d_R_wanted_85 (by decide) ?_
              refine lv_goto (tgt := 90) hx hb d_R_wanted_86 rfl ?_
              have hJ := J4
              try simp only [if_neg (gm_nf h3), if_pos h5, if_pos h8] at hJ
              exact hJ ls H locs hl hM
          refine lv_icmp_ne (tgt := 81) hx hb d_R_wanted_74 rfl (fun h6 => ?_) (fun h6 => ?_)
          · refine lv_iconst (v := 0) hx hb d_R_wanted_81 (by decide) ?_
            have hJ := J7
            try simp only [if_neg h6] at hJ
            exact hJ ls H locs (lv_sub hl [1, 2, 3, 0] rfl) hM
          · refine lv_iconst (v := 1) hx hb d_R_wanted_77 (by decide) ?_
            refine lv_goto (tgt := 82) hx hb d_R_wanted_78 rfl ?_
            have hJ := J7
            try simp only [if_pos h6] at hJ
            exact hJ ls H locs (lv_sub hl [1, 2, 3, 0] rfl) hM
    · refine lv_iload_n hx hb d_R_wanted_26 rfl (lv_at hl 0 rfl) ?_
      have J10 : ∀ (ls : Array Slot) (H : Heap) (locs : List Loc), lv_has ls 4 [(0, .ref (a 0)), (1, .int (nI mn)), (2, .int vn), (3, .int (gm_b (v_R_right u mn)))] → gm_M D A s (gr_W dk a) u H locs → W p l e rm_R_wanted s m args below meth c H locs 0 0 Q (F0 m 49 ls [.int (gm_b (if (v_R_right u mn) = true then (if (u.1 2 (6 * mn + 3)) = true then false else true) else false))]) := by
        intro ls H locs hl hM
        have hq := hQ H locs 49 ls
        simp only [v_R_wanted, if_neg h1, if_pos h2] at hq
        exact hq hM d_R_wanted_49
      refine gm_ifz (b := (v_R_right u mn)) (tgt := 48) hx hb d_R_wanted_27 rfl (fun h9 => ?_) (fun h9 => ?_)
      · refine lv_iconst (v := 0) hx hb d_R_wanted_48 (by decide) ?_
        have hJ := J10
        try simp only [if_neg (gm_nf h9)] at hJ
        exact hJ ls H locs (lv_sub hl [1, 2, 3, 0] rfl) hM
      · refine lv_aload_n hx hb d_R_wanted_30 rfl (lv_at hl 1 rfl) ?_
        refine gf_R_16 hF hM d_R_wanted_31 ?_
        refine lv_bipush (v := 6) hx hb d_R_wanted_34 (by decide) ?_
        refine lv_iload_n hx hb d_R_wanted_36 rfl (lv_at hl 2 rfl) ?_
        refine lv_imul hx hb d_R_wanted_37 ?_
        refine lv_iconst (v := 3) hx hb d_R_wanted_38 (by decide) ?_
        refine lv_iadd hx hb d_R_wanted_39 ?_
        refine ga_value (k := (6 * mn + 3)) hF hM (by first | rfl | (simp only [← nI_add, ← pk_mul] <;> rfl)) (by first | omega | exact Nat.mod_lt _ (by decide)) d_R_wanted_40 ?_
        refine gm_ifn (b := (u.1 2 (6 * mn + 3))) (tgt := 48) hx hb d_R_wanted_41 rfl (fun h11 => ?_) (fun h11 => ?_)
        · refine lv_iconst (v := 0) hx hb d_R_wanted_48 (by decide) ?_
          have hJ := J10
          try simp only [if_pos h9, if_pos h11] at hJ
          exact hJ ls H locs (lv_sub hl [1, 2, 3, 0] rfl) hM
        · refine lv_iconst (v := 1) hx hb d_R_wanted_44 (by decide) ?_
          refine lv_goto (tgt := 49) hx hb d_R_wanted_45 rfl ?_
          have hJ := J10
          try simp only [if_pos h9, if_neg (gm_nf h11)] at hJ
          exact hJ ls H locs (lv_sub hl [1, 2, 3, 0] rfl) hM
  · refine lv_iload_n hx hb d_R_wanted_11 rfl (lv_at hl 0 rfl) ?_
    have J13 : ∀ (ls : Array Slot) (H : Heap) (locs : List Loc), lv_has ls 4 [(0, .ref (a 0)), (1, .int (nI mn)), (2, .int vn), (3, .int (gm_b (v_R_right u mn)))] → gm_M D A s (gr_W dk a) u H locs → W p l e rm_R_wanted s m args below meth c H locs 0 0 Q (F0 m 20 ls [.int (gm_b (if (v_R_right u mn) = true then false else true))]) := by
      intro ls H locs hl hM
      have hq := hQ H locs 20 ls
      simp only [v_R_wanted, if_pos h1] at hq
      exact hq hM d_R_wanted_20
    refine gm_ifn (b := (v_R_right u mn)) (tgt := 19) hx hb d_R_wanted_12 rfl (fun h12 => ?_) (fun h12 => ?_)
    · refine lv_iconst (v := 0) hx hb d_R_wanted_19 (by decide) ?_
      have hJ := J13
      try simp only [if_pos h12] at hJ
      exact hJ ls H locs (lv_sub hl [1, 2, 3, 0] rfl) hM
    · refine lv_iconst (v := 1) hx hb d_R_wanted_15 (by decide) ?_
      refine lv_goto (tgt := 20) hx hb d_R_wanted_16 rfl ?_
      have hJ := J13
      try simp only [if_neg (gm_nf h12)] at hJ
      exact hJ ls H locs (lv_sub hl [1, 2, 3, 0] rfl) hM
theorem d_R_opposite_0 : decode b_R_opposite 0 = .ok (.iload_n 0, 1) := by decide +kernel
theorem d_R_opposite_1 : decode b_R_opposite 1 = .ok (.iconst 1, 1) := by decide +kernel
theorem d_R_opposite_2 : decode b_R_opposite 2 = .ok (.if_icmp .ne 7, 3) := by decide +kernel
theorem d_R_opposite_5 : decode b_R_opposite 5 = .ok (.iconst 2, 1) := by decide +kernel
theorem d_R_opposite_6 : decode b_R_opposite 6 = .ok (.goto 22, 3) := by decide +kernel
theorem d_R_opposite_9 : decode b_R_opposite 9 = .ok (.iload_n 0, 1) := by decide +kernel
theorem d_R_opposite_10 : decode b_R_opposite 10 = .ok (.iconst 2, 1) := by decide +kernel
theorem d_R_opposite_11 : decode b_R_opposite 11 = .ok (.if_icmp .ne 7, 3) := by decide +kernel
theorem d_R_opposite_14 : decode b_R_opposite 14 = .ok (.iconst 1, 1) := by decide +kernel
theorem d_R_opposite_15 : decode b_R_opposite 15 = .ok (.goto 13, 3) := by decide +kernel
theorem d_R_opposite_18 : decode b_R_opposite 18 = .ok (.iload_n 0, 1) := by decide +kernel
theorem d_R_opposite_19 : decode b_R_opposite 19 = .ok (.iconst 3, 1) := by decide +kernel
theorem d_R_opposite_20 : decode b_R_opposite 20 = .ok (.if_icmp .ne 7, 3) := by decide +kernel
theorem d_R_opposite_23 : decode b_R_opposite 23 = .ok (.iconst 4, 1) := by decide +kernel
theorem d_R_opposite_24 : decode b_R_opposite 24 = .ok (.goto 4, 3) := by decide +kernel
theorem d_R_opposite_27 : decode b_R_opposite 27 = .ok (.iconst 3, 1) := by decide +kernel
theorem d_R_opposite_28 : decode b_R_opposite 28 = .ok (.ireturn, 1) := by decide +kernel
def v_R_opposite (x : Int32) : Int32 := (if x = (1 : Int32) then (2 : Int32) else (if x = (2 : Int32) then (1 : Int32) else (if x = (3 : Int32) then (4 : Int32) else (3 : Int32))))
set_option maxRecDepth 100000 in
set_option maxHeartbeats 4000000 in
theorem c_R_opposite {l : Launch} {D : va_G} {dk : Nat → ClassId} {Wd : gm_St → va_W} {A : Nat → Prop} {lt : Nat} {u : gm_St} {x : Int32} : gm_I l D (gm_ty dk) Wd A lt y_R_opposite b_R_opposite 1 (some .int) rm_R_opposite [.int x] u (v_R_opposite x) u := by
  refine gm_enterI (by decide) (Nat.le_of_ble_eq_true rfl) ?_
  intro p e s m args below meth c ls Q H locs hF hM hl hQ
  have hx := hF.1
  have hb := hF.2.1
  have hml := hF.2.2.1
  have hown := hF.2.2.2.1
  have hts := hF.2.2.2.2.1
  have hl : lv_has ls 1 [(0, .int x)] := hl
  refine lv_iload_n hx hb d_R_opposite_0 rfl (lv_at hl 0 rfl) ?_
  refine lv_iconst (v := 1) hx hb d_R_opposite_1 (by decide) ?_
  have J2 : ∀ (ls : Array Slot) (H : Heap) (locs : List Loc), lv_has ls 1 [(0, .int x)] → gm_M D A s Wd u H locs → W p l e rm_R_opposite s m args below meth c H locs 0 0 Q (F0 m 28 ls [.int (if x = (1 : Int32) then (2 : Int32) else (if x = (2 : Int32) then (1 : Int32) else (if x = (3 : Int32) then (4 : Int32) else (3 : Int32))))]) := by
    intro ls H locs hl hM
    have hq := hQ H locs 28 ls
    simp only [v_R_opposite] at hq
    exact hq hM d_R_opposite_28
  refine lv_icmp_ne (tgt := 9) hx hb d_R_opposite_2 rfl (fun h1 => ?_) (fun h1 => ?_)
  · refine lv_iload_n hx hb d_R_opposite_9 rfl (lv_at hl 0 rfl) ?_
    refine lv_iconst (v := 2) hx hb d_R_opposite_10 (by decide) ?_
    refine lv_icmp_ne (tgt := 18) hx hb d_R_opposite_11 rfl (fun h3 => ?_) (fun h3 => ?_)
    · refine lv_iload_n hx hb d_R_opposite_18 rfl (lv_at hl 0 rfl) ?_
      refine lv_iconst (v := 3) hx hb d_R_opposite_19 (by decide) ?_
      refine lv_icmp_ne (tgt := 27) hx hb d_R_opposite_20 rfl (fun h4 => ?_) (fun h4 => ?_)
      · refine lv_iconst (v := 3) hx hb d_R_opposite_27 (by decide) ?_
        have hJ := J2
        try simp only [if_neg h1, if_neg h3, if_neg h4] at hJ
        exact hJ ls H locs hl hM
      · refine lv_iconst (v := 4) hx hb d_R_opposite_23 (by decide) ?_
        refine lv_goto (tgt := 28) hx hb d_R_opposite_24 rfl ?_
        have hJ := J2
        try simp only [if_neg h1, if_neg h3, if_pos h4] at hJ
        exact hJ ls H locs hl hM
    · refine lv_iconst (v := 1) hx hb d_R_opposite_14 (by decide) ?_
      refine lv_goto (tgt := 28) hx hb d_R_opposite_15 rfl ?_
      have hJ := J2
      try simp only [if_neg h1, if_pos h3] at hJ
      exact hJ ls H locs hl hM
  · refine lv_iconst (v := 2) hx hb d_R_opposite_5 (by decide) ?_
    refine lv_goto (tgt := 28) hx hb d_R_opposite_6 rfl ?_
    have hJ := J2
    try simp only [if_pos h1] at hJ
    exact hJ ls H locs hl hM
theorem d_R_valvesNow_0 : decode b_R_valvesNow 0 = .ok (.iconst 0, 1) := by decide +kernel
theorem d_R_valvesNow_1 : decode b_R_valvesNow 1 = .ok (.istore_n 2, 1) := by decide +kernel
theorem d_R_valvesNow_2 : decode b_R_valvesNow 2 = .ok (.iconst 0, 1) := by decide +kernel
theorem d_R_valvesNow_3 : decode b_R_valvesNow 3 = .ok (.istore_n 3, 1) := by decide +kernel
theorem d_R_valvesNow_4 : decode b_R_valvesNow 4 = .ok (.iconst 1, 1) := by decide +kernel
theorem d_R_valvesNow_5 : decode b_R_valvesNow 5 = .ok (.istore 4, 2) := by decide +kernel
theorem d_R_valvesNow_7 : decode b_R_valvesNow 7 = .ok (.iload 4, 2) := by decide +kernel
theorem d_R_valvesNow_9 : decode b_R_valvesNow 9 = .ok (.iconst 5, 1) := by decide +kernel
theorem d_R_valvesNow_10 : decode b_R_valvesNow 10 = .ok (.if_icmp .ge 133, 3) := by decide +kernel
theorem d_R_valvesNow_13 : decode b_R_valvesNow 13 = .ok (.aload_n 0, 1) := by decide +kernel
theorem d_R_valvesNow_14 : decode b_R_valvesNow 14 = .ok (.iload_n 1, 1) := by decide +kernel
theorem d_R_valvesNow_15 : decode b_R_valvesNow 15 = .ok (.iload 4, 2) := by decide +kernel
theorem d_R_valvesNow_17 : decode b_R_valvesNow 17 = .ok (.invokevirtual 66, 3) := by decide +kernel
theorem d_R_valvesNow_20 : decode b_R_valvesNow 20 = .ok (.istore 5, 2) := by decide +kernel
theorem d_R_valvesNow_22 : decode b_R_valvesNow 22 = .ok (.iload_n 3, 1) := by decide +kernel
theorem d_R_valvesNow_23 : decode b_R_valvesNow 23 = .ok (.ifCond .ne 8, 3) := by decide +kernel
theorem d_R_valvesNow_26 : decode b_R_valvesNow 26 = .ok (.iload 5, 2) := by decide +kernel
theorem d_R_valvesNow_28 : decode b_R_valvesNow 28 = .ok (.ifCond .eq 7, 3) := by decide +kernel
theorem d_R_valvesNow_31 : decode b_R_valvesNow 31 = .ok (.iconst 1, 1) := by decide +kernel
theorem d_R_valvesNow_32 : decode b_R_valvesNow 32 = .ok (.goto 4, 3) := by decide +kernel
theorem d_R_valvesNow_35 : decode b_R_valvesNow 35 = .ok (.iconst 0, 1) := by decide +kernel
theorem d_R_valvesNow_36 : decode b_R_valvesNow 36 = .ok (.istore_n 3, 1) := by decide +kernel
theorem d_R_valvesNow_37 : decode b_R_valvesNow 37 = .ok (.iconst 0, 1) := by decide +kernel
theorem d_R_valvesNow_38 : decode b_R_valvesNow 38 = .ok (.istore 6, 2) := by decide +kernel
theorem d_R_valvesNow_40 : decode b_R_valvesNow 40 = .ok (.iload 6, 2) := by decide +kernel
theorem d_R_valvesNow_42 : decode b_R_valvesNow 42 = .ok (.bipush 10, 2) := by decide +kernel
theorem d_R_valvesNow_44 : decode b_R_valvesNow 44 = .ok (.if_icmp .ge 31, 3) := by decide +kernel
theorem d_R_valvesNow_47 : decode b_R_valvesNow 47 = .ok (.iload_n 3, 1) := by decide +kernel
theorem d_R_valvesNow_48 : decode b_R_valvesNow 48 = .ok (.ifCond .ne 15, 3) := by decide +kernel
theorem d_R_valvesNow_51 : decode b_R_valvesNow 51 = .ok (.aload_n 0, 1) := by decide +kernel
theorem d_R_valvesNow_52 : decode b_R_valvesNow 52 = .ok (.iload_n 1, 1) := by decide +kernel
theorem d_R_valvesNow_53 : decode b_R_valvesNow 53 = .ok (.iload 4, 2) := by decide +kernel
theorem d_R_valvesNow_55 : decode b_R_valvesNow 55 = .ok (.iload 6, 2) := by decide +kernel
theorem d_R_valvesNow_57 : decode b_R_valvesNow 57 = .ok (.invokevirtual 69, 3) := by decide +kernel
theorem d_R_valvesNow_60 : decode b_R_valvesNow 60 = .ok (.ifCond .eq 7, 3) := by decide +kernel
theorem d_R_valvesNow_63 : decode b_R_valvesNow 63 = .ok (.iconst 1, 1) := by decide +kernel
theorem d_R_valvesNow_64 : decode b_R_valvesNow 64 = .ok (.goto 4, 3) := by decide +kernel
theorem d_R_valvesNow_67 : decode b_R_valvesNow 67 = .ok (.iconst 0, 1) := by decide +kernel
theorem d_R_valvesNow_68 : decode b_R_valvesNow 68 = .ok (.istore_n 3, 1) := by decide +kernel
theorem d_R_valvesNow_69 : decode b_R_valvesNow 69 = .ok (.iinc 6 1, 3) := by decide +kernel
theorem d_R_valvesNow_72 : decode b_R_valvesNow 72 = .ok (.goto (-32), 3) := by decide +kernel
theorem d_R_valvesNow_75 : decode b_R_valvesNow 75 = .ok (.iload 5, 2) := by decide +kernel
theorem d_R_valvesNow_77 : decode b_R_valvesNow 77 = .ok (.ifCond .eq 41, 3) := by decide +kernel
theorem d_R_valvesNow_80 : decode b_R_valvesNow 80 = .ok (.aload_n 0, 1) := by decide +kernel
theorem d_R_valvesNow_81 : decode b_R_valvesNow 81 = .ok (.iload_n 1, 1) := by decide +kernel
theorem d_R_valvesNow_82 : decode b_R_valvesNow 82 = .ok (.iconst 0, 1) := by decide +kernel
theorem d_R_valvesNow_83 : decode b_R_valvesNow 83 = .ok (.iconst 0, 1) := by decide +kernel
theorem d_R_valvesNow_84 : decode b_R_valvesNow 84 = .ok (.invokevirtual 69, 3) := by decide +kernel
theorem d_R_valvesNow_87 : decode b_R_valvesNow 87 = .ok (.ifCond .eq 31, 3) := by decide +kernel
theorem d_R_valvesNow_90 : decode b_R_valvesNow 90 = .ok (.aload_n 0, 1) := by decide +kernel
theorem d_R_valvesNow_91 : decode b_R_valvesNow 91 = .ok (.iload_n 1, 1) := by decide +kernel
theorem d_R_valvesNow_92 : decode b_R_valvesNow 92 = .ok (.iconst 0, 1) := by decide +kernel
theorem d_R_valvesNow_93 : decode b_R_valvesNow 93 = .ok (.iconst 1, 1) := by decide +kernel
theorem d_R_valvesNow_94 : decode b_R_valvesNow 94 = .ok (.invokevirtual 69, 3) := by decide +kernel
theorem d_R_valvesNow_97 : decode b_R_valvesNow 97 = .ok (.ifCond .eq 21, 3) := by decide +kernel
theorem d_R_valvesNow_100 : decode b_R_valvesNow 100 = .ok (.aload_n 0, 1) := by decide +kernel
theorem d_R_valvesNow_101 : decode b_R_valvesNow 101 = .ok (.iload_n 1, 1) := by decide +kernel
theorem d_R_valvesNow_102 : decode b_R_valvesNow 102 = .ok (.iload 4, 2) := by decide +kernel
theorem d_R_valvesNow_104 : decode b_R_valvesNow 104 = .ok (.invokestatic 73, 3) := by decide +kernel
theorem d_R_valvesNow_107 : decode b_R_valvesNow 107 = .ok (.iconst 0, 1) := by decide +kernel
theorem d_R_valvesNow_108 : decode b_R_valvesNow 108 = .ok (.invokevirtual 69, 3) := by decide +kernel
theorem d_R_valvesNow_111 : decode b_R_valvesNow 111 = .ok (.ifCond .ne 7, 3) := by decide +kernel
theorem d_R_valvesNow_114 : decode b_R_valvesNow 114 = .ok (.iconst 1, 1) := by decide +kernel
theorem d_R_valvesNow_115 : decode b_R_valvesNow 115 = .ok (.goto 4, 3) := by decide +kernel
theorem d_R_valvesNow_118 : decode b_R_valvesNow 118 = .ok (.iconst 0, 1) := by decide +kernel
theorem d_R_valvesNow_119 : decode b_R_valvesNow 119 = .ok (.istore 6, 2) := by decide +kernel
theorem d_R_valvesNow_121 : decode b_R_valvesNow 121 = .ok (.iload 6, 2) := by decide +kernel
theorem d_R_valvesNow_123 : decode b_R_valvesNow 123 = .ok (.ifCond .eq 12, 3) := by decide +kernel
theorem d_R_valvesNow_126 : decode b_R_valvesNow 126 = .ok (.iload_n 2, 1) := by decide +kernel
theorem d_R_valvesNow_127 : decode b_R_valvesNow 127 = .ok (.iconst 1, 1) := by decide +kernel
theorem d_R_valvesNow_128 : decode b_R_valvesNow 128 = .ok (.iload 4, 2) := by decide +kernel
theorem d_R_valvesNow_130 : decode b_R_valvesNow 130 = .ok (.ishl, 1) := by decide +kernel
theorem d_R_valvesNow_131 : decode b_R_valvesNow 131 = .ok (.ior, 1) := by decide +kernel
theorem d_R_valvesNow_132 : decode b_R_valvesNow 132 = .ok (.goto 4, 3) := by decide +kernel
theorem d_R_valvesNow_135 : decode b_R_valvesNow 135 = .ok (.iload_n 2, 1) := by decide +kernel
theorem d_R_valvesNow_136 : decode b_R_valvesNow 136 = .ok (.istore_n 2, 1) := by decide +kernel
theorem d_R_valvesNow_137 : decode b_R_valvesNow 137 = .ok (.iinc 4 1, 3) := by decide +kernel
theorem d_R_valvesNow_140 : decode b_R_valvesNow 140 = .ok (.goto (-133), 3) := by decide +kernel
theorem d_R_valvesNow_143 : decode b_R_valvesNow 143 = .ok (.iload_n 3, 1) := by decide +kernel
theorem d_R_valvesNow_144 : decode b_R_valvesNow 144 = .ok (.ifCond .eq 9, 3) := by decide +kernel
theorem d_R_valvesNow_147 : decode b_R_valvesNow 147 = .ok (.iload_n 2, 1) := by decide +kernel
theorem d_R_valvesNow_148 : decode b_R_valvesNow 148 = .ok (.iconst 1, 1) := by decide +kernel
theorem d_R_valvesNow_149 : decode b_R_valvesNow 149 = .ok (.ior, 1) := by decide +kernel
theorem d_R_valvesNow_150 : decode b_R_valvesNow 150 = .ok (.goto 4, 3) := by decide +kernel
theorem d_R_valvesNow_153 : decode b_R_valvesNow 153 = .ok (.iload_n 2, 1) := by decide +kernel
theorem d_R_valvesNow_154 : decode b_R_valvesNow 154 = .ok (.ireturn, 1) := by decide +kernel
def lp_R_vN2 (u : gm_St) (mn : Nat) (vv : Nat) : Nat → Nat → Bool → Bool
  | 0, _, gb => gb
  | k + 1, i, gb => lp_R_vN2 u mn vv k (i + 1) (if gb = true then true else (if (v_R_was u mn (nI vv) i) = true then true else false))
def lp_R_vN (u : gm_St) (mn : Nat) : Nat → Nat → Int32 → Bool → Int32 × Bool
  | 0, _, x, gb => (x, gb)
  | k + 1, i, x, gb => lp_R_vN u mn k (i + 1) (if (if (v_R_wanted u mn (nI i)) = true then (if (v_R_was u mn (0 : Int32) 0) = true then (if (v_R_was u mn (0 : Int32) 1) = true then (if (v_R_was u mn (v_R_opposite (nI i)) 0) = true then false else true) else false) else false) else false) = true then (x ||| ((1 : Int32) <<< ((nI i) &&& 31))) else x) (lp_R_vN2 u mn i 10 0 (if gb = true then true else (if (v_R_wanted u mn (nI i)) = true then true else false)))
def v_R_valvesNow (u : gm_St) (mn : Nat) : Int32 := (if ((lp_R_vN u mn 4 1 (0 : Int32) false).2) = true then (((lp_R_vN u mn 4 1 (0 : Int32) false).1) ||| (1 : Int32)) else ((lp_R_vN u mn 4 1 (0 : Int32) false).1))
set_option maxRecDepth 100000 in
set_option maxHeartbeats 4000000 in
theorem c_R_valvesNow {l : Launch} {D : va_G} {dk : Nat → ClassId} {a : Nat → Nat} {A : Nat → Prop} {lt : Nat} {u : gm_St} {mn : Nat} (h_mn : mn < 2) : gm_I l D (gm_ty dk) (gr_W dk a) A lt y_R_valvesNow b_R_valvesNow 7 (some .int) rm_R_valvesNow [.ref (a 0), .int (nI mn)] u (v_R_valvesNow u mn) u := by
  refine gm_enterI (by decide) (Nat.le_of_ble_eq_true rfl) ?_
  intro p e s m args below meth c ls Q H locs hF hM hl hQ
  have hx := hF.1
  have hb := hF.2.1
  have hml := hF.2.2.1
  have hown := hF.2.2.2.1
  have hts := hF.2.2.2.2.1
  have hl : lv_has ls 7 [(0, .ref (a 0)), (1, .int (nI mn))] := hl
  refine lv_iconst (v := 0) hx hb d_R_valvesNow_0 (by decide) ?_
  refine lv_istore_n (lv' := [(2, .int (0 : Int32)), (0, .ref (a 0)), (1, .int (nI mn))]) hx hb d_R_valvesNow_1 rfl hl (by decide) rfl (fun ls hl => ?_)
  refine lv_iconst (v := 0) hx hb d_R_valvesNow_2 (by decide) ?_
  refine lv_istore_n (lv' := [(3, .int (0 : Int32)), (2, .int (0 : Int32)), (0, .ref (a 0)), (1, .int (nI mn))]) hx hb d_R_valvesNow_3 rfl hl (by decide) rfl (fun ls hl => ?_)
  refine lv_iconst (v := 1) hx hb d_R_valvesNow_4 (by decide) ?_
  refine lv_istore (lv' := [(4, .int (1 : Int32)), (3, .int (0 : Int32)), (2, .int (0 : Int32)), (0, .ref (a 0)), (1, .int (nI mn))]) hx hb d_R_valvesNow_5 hl (by decide) rfl (fun ls hl => ?_)
  have L1 : ∀ (k1 i1 : Nat) (x1 : Int32) (gb1 : Bool) (ls : Array Slot) (H : Heap) (locs : List Loc), i1 + k1 = 5 → lv_has ls 7 [(4, .int (nI i1)), (3, .int (gm_b gb1)), (2, .int x1), (0, .ref (a 0)), (1, .int (nI mn))] → gm_M D A s (gr_W dk a) u H locs → (∀ (ls : Array Slot) (H : Heap) (locs : List Loc), lv_has ls 7 [(4, .int (nI 5)), (3, .int (gm_b ((lp_R_vN u mn k1 i1 x1 gb1).2))), (2, .int ((lp_R_vN u mn k1 i1 x1 gb1).1)), (0, .ref (a 0)), (1, .int (nI mn))] → gm_M D A s (gr_W dk a) u H locs → W p l e rm_R_valvesNow s m args below meth c H locs 0 0 Q (F0 m 143 ls [])) → W p l e rm_R_valvesNow s m args below meth c H locs 0 0 Q (F0 m 7 ls []) := by
    intro k1
    induction k1 with
    | zero =>
      intro i1 x1 gb1 ls H locs hk1 hl hM kk
      obtain rfl : i1 = 5 := by omega
      refine lv_iload hx hb d_R_valvesNow_7 (lv_at hl 0 rfl) ?_
      refine lv_iconst (v := 5) hx hb d_R_valvesNow_9 (by decide) ?_
      refine lv_icmp_ge (tgt := 143) hx hb d_R_valvesNow_10 rfl (fun _ => ?_) (fun h => absurd (by decide) h)
      exact kk ls H locs hl hM
    | succ k1 ih =>
      intro i1 x1 gb1 ls H locs hk1 hl hM kk
      refine lv_iload hx hb d_R_valvesNow_7 (lv_at hl 0 rfl) ?_
      refine lv_iconst (v := 5) hx hb d_R_valvesNow_9 (by decide) ?_
      refine lv_icmp_ge (tgt := 143) hx hb d_R_valvesNow_10 rfl (fun h => absurd h (nI_ge (a := i1) (b := 5) (by omega) (by first | decide | omega))) (fun _ => ?_)
      refine lv_aload_n hx hb d_R_valvesNow_13 rfl (lv_at hl 3 rfl) ?_
      refine lv_iload_n hx hb d_R_valvesNow_14 rfl (lv_at hl 4 rfl) ?_
      refine lv_iload hx hb d_R_valvesNow_15 (lv_at hl 0 rfl) ?_
      refine gm_Vi (As := [.int (nI mn), .int (nI i1)]) (rest := []) hF hM (c_R_wanted (u := u) (mn := mn) (vn := (nI i1)) (by omega)) (gk_R_66 hts ⟨by decide, by decide⟩) (gv_R hF hM rfl) rfl hl.1 rfl (Nat.le_of_ble_eq_true rfl) ⟨Nat.zero_le _, Nat.zero_le _⟩ d_R_valvesNow_17 (fun H locs hM => ?_)
      refine lv_istore (lv' := [(5, .int (gm_b (v_R_wanted u mn (nI i1)))), (4, .int (nI i1)), (3, .int (gm_b gb1)), (2, .int x1), (0, .ref (a 0)), (1, .int (nI mn))]) hx hb d_R_valvesNow_20 hl (by decide) rfl (fun ls hl => ?_)
      refine lv_iload_n hx hb d_R_valvesNow_22 rfl (lv_at hl 2 rfl) ?_
      have J3 : ∀ (ls : Array Slot) (H : Heap) (locs : List Loc), lv_has ls 7 [(0, .ref (a 0)), (1, .int (nI mn)), (2, .int x1), (3, .int (gm_b gb1)), (4, .int (nI i1)), (5, .int (gm_b (v_R_wanted u mn (nI i1))))] → gm_M D A s (gr_W dk a) u H locs → W p l e rm_R_valvesNow s m args below meth c H locs 0 0 Q (F0 m 36 ls [.int (gm_b (if gb1 = true then true else (if (v_R_wanted u mn (nI i1)) = true then true else false)))]) := by
        intro ls H locs hl hM
        refine lv_istore_n (lv' := [(3, .int (gm_b (if gb1 = true then true else (if (v_R_wanted u mn (nI i1)) = true then true else false)))), (0, .ref (a 0)), (1, .int (nI mn)), (2, .int x1), (4, .int (nI i1)), (5, .int (gm_b (v_R_wanted u mn (nI i1))))]) hx hb d_R_valvesNow_36 rfl hl (by decide) rfl (fun ls hl => ?_)
        refine lv_iconst (v := 0) hx hb d_R_valvesNow_37 (by decide) ?_
        refine lv_istore (lv' := [(6, .int (0 : Int32)), (3, .int (gm_b (if gb1 = true then true else (if (v_R_wanted u mn (nI i1)) = true then true else false)))), (0, .ref (a 0)), (1, .int (nI mn)), (2, .int x1), (4, .int (nI i1)), (5, .int (gm_b (v_R_wanted u mn (nI i1))))]) hx hb d_R_valvesNow_38 hl (by decide) rfl (fun ls hl => ?_)
        have L4 : ∀ (k4 i4 : Nat) (gb4 : Bool) (ls : Array Slot) (H : Heap) (locs : List Loc), i4 + k4 = 10 → lv_has ls 7 [(6, .int (nI i4)), (3, .int (gm_b gb4)), (0, .ref (a 0)), (1, .int (nI mn)), (2, .int x1), (4, .int (nI i1)), (5, .int (gm_b (v_R_wanted u mn (nI i1))))] → gm_M D A s (gr_W dk a) u H locs → (∀ (ls : Array Slot) (H : Heap) (locs : List Loc), lv_has ls 7 [(6, .int (nI 10)), (3, .int (gm_b (lp_R_vN2 u mn i1 k4 i4 gb4))), (0, .ref (a 0)), (1, .int (nI mn)), (2, .int x1), (4, .int (nI i1)), (5, .int (gm_b (v_R_wanted u mn (nI i1))))] → gm_M D A s (gr_W dk a) u H locs → W p l e rm_R_valvesNow s m args below meth c H locs 0 0 Q (F0 m 75 ls [])) → W p l e rm_R_valvesNow s m args below meth c H locs 0 0 Q (F0 m 40 ls []) := by
          intro k4
          induction k4 with
          | zero =>
            intro i4 gb4 ls H locs hk4 hl hM kk
            obtain rfl : i4 = 10 := by omega
            refine lv_iload hx hb d_R_valvesNow_40 (lv_at hl 0 rfl) ?_
            refine lv_bipush (v := 10) hx hb d_R_valvesNow_42 (by decide) ?_
            refine lv_icmp_ge (tgt := 75) hx hb d_R_valvesNow_44 rfl (fun _ => ?_) (fun h => absurd (by decide) h)
            exact kk ls H locs hl hM
          | succ k4 ih =>
            intro i4 gb4 ls H locs hk4 hl hM kk
            refine lv_iload hx hb d_R_valvesNow_40 (lv_at hl 0 rfl) ?_
            refine lv_bipush (v := 10) hx hb d_R_valvesNow_42 (by decide) ?_
            refine lv_icmp_ge (tgt := 75) hx hb d_R_valvesNow_44 rfl (fun h => absurd h (nI_ge (a := i4) (b := 10) (by omega) (by first | decide | omega))) (fun _ => ?_)
            refine lv_iload_n hx hb d_R_valvesNow_47 rfl (lv_at hl 1 rfl) ?_
            have J6 : ∀ (ls : Array Slot) (H : Heap) (locs : List Loc), lv_has ls 7 [(0, .ref (a 0)), (1, .int (nI mn)), (2, .int x1), (3, .int (gm_b gb4)), (4, .int (nI i1)), (5, .int (gm_b (v_R_wanted u mn (nI i1)))), (6, .int (nI i4))] → gm_M D A s (gr_W dk a) u H locs → W p l e rm_R_valvesNow s m args below meth c H locs 0 0 Q (F0 m 68 ls [.int (gm_b (if gb4 = true then true else (if (v_R_was u mn (nI i1) i4) = true then true else false)))]) := by
              intro ls H locs hl hM
              refine lv_istore_n (lv' := [(3, .int (gm_b (if gb4 = true then true else (if (v_R_was u mn (nI i1) i4) = true then true else false)))), (0, .ref (a 0)), (1, .int (nI mn)), (2, .int x1), (4, .int (nI i1)), (5, .int (gm_b (v_R_wanted u mn (nI i1)))), (6, .int (nI i4))]) hx hb d_R_valvesNow_68 rfl hl (by decide) rfl (fun ls hl => ?_)
              refine lv_iinc (k := 6) (v := (nI (i4 + 1))) (lv' := [(6, .int (nI (i4 + 1))), (3, .int (gm_b (if gb4 = true then true else (if (v_R_was u mn (nI i1) i4) = true then true else false)))), (0, .ref (a 0)), (1, .int (nI mn)), (2, .int x1), (4, .int (nI i1)), (5, .int (gm_b (v_R_wanted u mn (nI i1))))]) hx hb d_R_valvesNow_69 hl rfl (nI_1 _) (by decide) rfl (fun ls hl => ?_)
              refine lv_goto (tgt := 40) hx hb d_R_valvesNow_72 rfl ?_
              have hK := kk
              simp only [lp_R_vN2] at hK
              exact ih (i4 + 1) (if gb4 = true then true else (if (v_R_was u mn (nI i1) i4) = true then true else false)) ls H locs (by omega) hl hM hK
            refine gm_ifn (b := gb4) (tgt := 63) hx hb d_R_valvesNow_48 rfl (fun h5 => ?_) (fun h5 => ?_)
            · refine lv_iconst (v := 1) hx hb d_R_valvesNow_63 (by decide) ?_
              refine lv_goto (tgt := 68) hx hb d_R_valvesNow_64 rfl ?_
              have hJ := J6
              try simp only [if_pos h5] at hJ
              exact hJ ls H locs (lv_sub hl [2, 3, 4, 1, 5, 6, 0] rfl) hM
            · refine lv_aload_n hx hb d_R_valvesNow_51 rfl (lv_at hl 2 rfl) ?_
              refine lv_iload_n hx hb d_R_valvesNow_52 rfl (lv_at hl 3 rfl) ?_
              refine lv_iload hx hb d_R_valvesNow_53 (lv_at hl 5 rfl) ?_
              refine lv_iload hx hb d_R_valvesNow_55 (lv_at hl 0 rfl) ?_
              refine gm_Vi (As := [.int (nI mn), .int (nI i1), .int (nI i4)]) (rest := []) hF hM (c_R_was (u := u) (mn := mn) (vn := (nI i1)) (an := i4) (by omega) (by omega)) (gk_R_69 hts ⟨by decide, by decide⟩) (gv_R hF hM rfl) rfl hl.1 rfl (Nat.le_of_ble_eq_true rfl) ⟨Nat.zero_le _, Nat.zero_le _⟩ d_R_valvesNow_57 (fun H locs hM => ?_)
              refine gm_ifz (b := (v_R_was u mn (nI i1) i4)) (tgt := 67) hx hb d_R_valvesNow_60 rfl (fun h7 => ?_) (fun h7 => ?_)
              · refine lv_iconst (v := 0) hx hb d_R_valvesNow_67 (by decide) ?_
                have hJ := J6
                try simp only [if_neg (gm_nf h5), if_neg (gm_nf h7)] at hJ
                exact hJ ls H locs (lv_sub hl [2, 3, 4, 1, 5, 6, 0] rfl) hM
              · refine lv_iconst (v := 1) hx hb d_R_valvesNow_63 (by decide) ?_
                refine lv_goto (tgt := 68) hx hb d_R_valvesNow_64 rfl ?_
                have hJ := J6
                try simp only [if_neg (gm_nf h5), if_pos h7] at hJ
                exact hJ ls H locs (lv_sub hl [2, 3, 4, 1, 5, 6, 0] rfl) hM
        refine L4 10 0 (if gb1 = true then true else (if (v_R_wanted u mn (nI i1)) = true then true else false)) ls H locs (by omega) hl hM (fun ls H locs hl hM => ?_)
        refine lv_iload hx hb d_R_valvesNow_75 (lv_at hl 6 rfl) ?_
        have J9 : ∀ (ls : Array Slot) (H : Heap) (locs : List Loc), lv_has ls 7 [(0, .ref (a 0)), (1, .int (nI mn)), (2, .int x1), (3, .int (gm_b (lp_R_vN2 u mn i1 10 0 (if gb1 = true then true else (if (v_R_wanted u mn (nI i1)) = true then true else false))))), (4, .int (nI i1)), (5, .int (gm_b (v_R_wanted u mn (nI i1)))), (6, .int (nI 10))] → gm_M D A s (gr_W dk a) u H locs → W p l e rm_R_valvesNow s m args below meth c H locs 0 0 Q (F0 m 119 ls [.int (gm_b (if (v_R_wanted u mn (nI i1)) = true then (if (v_R_was u mn (0 : Int32) 0) = true then (if (v_R_was u mn (0 : Int32) 1) = true then (if (v_R_was u mn (v_R_opposite (nI i1)) 0) = true then false else true) else false) else false) else false))]) := by
          intro ls H locs hl hM
          refine lv_istore (lv' := [(6, .int (gm_b (if (v_R_wanted u mn (nI i1)) = true then (if (v_R_was u mn (0 : Int32) 0) = true then (if (v_R_was u mn (0 : Int32) 1) = true then (if (v_R_was u mn (v_R_opposite (nI i1)) 0) = true then false else true) else false) else false) else false))), (0, .ref (a 0)), (1, .int (nI mn)), (2, .int x1), (3, .int (gm_b (lp_R_vN2 u mn i1 10 0 (if gb1 = true then true else (if (v_R_wanted u mn (nI i1)) = true then true else false))))), (4, .int (nI i1)), (5, .int (gm_b (v_R_wanted u mn (nI i1))))]) hx hb d_R_valvesNow_119 hl (by decide) rfl (fun ls hl => ?_)
          refine lv_iload hx hb d_R_valvesNow_121 (lv_at hl 0 rfl) ?_
          have J11 : ∀ (ls : Array Slot) (H : Heap) (locs : List Loc), lv_has ls 7 [(0, .ref (a 0)), (1, .int (nI mn)), (2, .int x1), (3, .int (gm_b (lp_R_vN2 u mn i1 10 0 (if gb1 = true then true else (if (v_R_wanted u mn (nI i1)) = true then true else false))))), (4, .int (nI i1)), (5, .int (gm_b (v_R_wanted u mn (nI i1)))), (6, .int (gm_b (if (v_R_wanted u mn (nI i1)) = true then (if (v_R_was u mn (0 : Int32) 0) = true then (if (v_R_was u mn (0 : Int32) 1) = true then (if (v_R_was u mn (v_R_opposite (nI i1)) 0) = true then false else true) else false) else false) else false)))] → gm_M D A s (gr_W dk a) u H locs → W p l e rm_R_valvesNow s m args below meth c H locs 0 0 Q (F0 m 136 ls [.int (if (if (v_R_wanted u mn (nI i1)) = true then (if (v_R_was u mn (0 : Int32) 0) = true then (if (v_R_was u mn (0 : Int32) 1) = true then (if (v_R_was u mn (v_R_opposite (nI i1)) 0) = true then false else true) else false) else false) else false) = true then (x1 ||| ((1 : Int32) <<< ((nI i1) &&& 31))) else x1)]) := by
            intro ls H locs hl hM
            refine lv_istore_n (lv' := [(2, .int (if (if (v_R_wanted u mn (nI i1)) = true then (if (v_R_was u mn (0 : Int32) 0) = true then (if (v_R_was u mn (0 : Int32) 1) = true then (if (v_R_was u mn (v_R_opposite (nI i1)) 0) = true then false else true) else false) else false) else false) = true then (x1 ||| ((1 : Int32) <<< ((nI i1) &&& 31))) else x1)), (0, .ref (a 0)), (1, .int (nI mn)), (3, .int (gm_b (lp_R_vN2 u mn i1 10 0 (if gb1 = true then true else (if (v_R_wanted u mn (nI i1)) = true then true else false))))), (4, .int (nI i1)), (5, .int (gm_b (v_R_wanted u mn (nI i1)))), (6, .int (gm_b (if (v_R_wanted u mn (nI i1)) = true then (if (v_R_was u mn (0 : Int32) 0) = true then (if (v_R_was u mn (0 : Int32) 1) = true then (if (v_R_was u mn (v_R_opposite (nI i1)) 0) = true then false else true) else false) else false) else false)))]) hx hb d_R_valvesNow_136 rfl hl (by decide) rfl (fun ls hl => ?_)
            refine lv_iinc (k := 4) (v := (nI (i1 + 1))) (lv' := [(4, .int (nI (i1 + 1))), (2, .int (if (if (v_R_wanted u mn (nI i1)) = true then (if (v_R_was u mn (0 : Int32) 0) = true then (if (v_R_was u mn (0 : Int32) 1) = true then (if (v_R_was u mn (v_R_opposite (nI i1)) 0) = true then false else true) else false) else false) else false) = true then (x1 ||| ((1 : Int32) <<< ((nI i1) &&& 31))) else x1)), (0, .ref (a 0)), (1, .int (nI mn)), (3, .int (gm_b (lp_R_vN2 u mn i1 10 0 (if gb1 = true then true else (if (v_R_wanted u mn (nI i1)) = true then true else false))))), (5, .int (gm_b (v_R_wanted u mn (nI i1)))), (6, .int (gm_b (if (v_R_wanted u mn (nI i1)) = true then (if (v_R_was u mn (0 : Int32) 0) = true then (if (v_R_was u mn (0 : Int32) 1) = true then (if (v_R_was u mn (v_R_opposite (nI i1)) 0) = true then false else true) else false) else false) else false)))]) hx hb d_R_valvesNow_137 hl rfl (nI_1 _) (by decide) rfl (fun ls hl => ?_)
            refine lv_goto (tgt := 7) hx hb d_R_valvesNow_140 rfl ?_
            have hK := kk
            simp only [lp_R_vN] at hK
            exact ih (i1 + 1) (if (if (v_R_wanted u mn (nI i1)) = true then (if (v_R_was u mn (0 : Int32) 0) = true then (if (v_R_was u mn (0 : Int32) 1) = true then (if (v_R_was u mn (v_R_opposite (nI i1)) 0) = true then false else true) else false) else false) else false) = true then (x1 ||| ((1 : Int32) <<< ((nI i1) &&& 31))) else x1) (lp_R_vN2 u mn i1 10 0 (if gb1 = true then true else (if (v_R_wanted u mn (nI i1)) = true then true else false))) ls H locs (by omega) (lv_sub hl [0, 4, 1, 2, 3] rfl) hM hK
          refine gm_ifz (b := (if (v_R_wanted u mn (nI i1)) = true then (if (v_R_was u mn (0 : Int32) 0) = true then (if (v_R_was u mn (0 : Int32) 1) = true then (if (v_R_was u mn (v_R_opposite (nI i1)) 0) = true then false else true) else false) else false) else false)) (tgt := 135) hx hb d_R_valvesNow_123 rfl (fun h10 => ?_) (fun h10 => ?_)
          · refine lv_iload_n hx hb d_R_valvesNow_135 rfl (lv_at hl 3 rfl) ?_
            have hJ := J11
            try simp only [if_neg (gm_nf h10)] at hJ
            exact hJ ls H locs (lv_sub hl [1, 2, 3, 4, 5, 6, 0] rfl) hM
          · refine lv_iload_n hx hb d_R_valvesNow_126 rfl (lv_at hl 3 rfl) ?_
            refine lv_iconst (v := 1) hx hb d_R_valvesNow_127 (by decide) ?_
            refine lv_iload hx hb d_R_valvesNow_128 (lv_at hl 5 rfl) ?_
            refine lv_ishl hx hb d_R_valvesNow_130 ?_
            refine lv_ior hx hb d_R_valvesNow_131 ?_
            refine lv_goto (tgt := 136) hx hb d_R_valvesNow_132 rfl ?_
            have hJ := J11
            try simp only [if_pos h10] at hJ
            exact hJ ls H locs (lv_sub hl [1, 2, 3, 4, 5, 6, 0] rfl) hM
        refine gm_ifz (b := (v_R_wanted u mn (nI i1))) (tgt := 118) hx hb d_R_valvesNow_77 rfl (fun h8 => ?_) (fun h8 => ?_)
        · refine lv_iconst (v := 0) hx hb d_R_valvesNow_118 (by decide) ?_
          have hJ := J9
          try simp only [if_neg (gm_nf h8)] at hJ
          try simp only [if_neg (gm_nf h8)] at hl
          try simp only [if_neg (gm_nf h8)] at hM
          try simp only [if_neg (gm_nf h8)]
          exact hJ ls H locs (lv_sub hl [2, 3, 4, 1, 5, 6, 0] rfl) hM
        · refine lv_aload_n hx hb d_R_valvesNow_80 rfl (lv_at hl 2 rfl) ?_
          refine lv_iload_n hx hb d_R_valvesNow_81 rfl (lv_at hl 3 rfl) ?_
          refine lv_iconst (v := 0) hx hb d_R_valvesNow_82 (by decide) ?_
          refine lv_iconst (v := 0) hx hb d_R_valvesNow_83 (by decide) ?_
          refine gm_Vi (As := [.int (nI mn), .int (0 : Int32), .int (nI 0)]) (rest := []) hF hM (c_R_was (u := u) (mn := mn) (vn := (0 : Int32)) (an := 0) (by omega) (by omega)) (gk_R_69 hts ⟨by decide, by decide⟩) (gv_R hF hM rfl) rfl hl.1 rfl (Nat.le_of_ble_eq_true rfl) ⟨Nat.zero_le _, Nat.zero_le _⟩ d_R_valvesNow_84 (fun H locs hM => ?_)
          refine gm_ifz (b := (v_R_was u mn (0 : Int32) 0)) (tgt := 118) hx hb d_R_valvesNow_87 rfl (fun h12 => ?_) (fun h12 => ?_)
          · refine lv_iconst (v := 0) hx hb d_R_valvesNow_118 (by decide) ?_
            have hJ := J9
            try simp only [if_pos h8, if_neg (gm_nf h12)] at hJ
            try simp only [if_pos h8, if_neg (gm_nf h12)] at hl
            try simp only [if_pos h8, if_neg (gm_nf h12)] at hM
            try simp only [if_pos h8, if_neg (gm_nf h12)]
            exact hJ ls H locs (lv_sub hl [2, 3, 4, 1, 5, 6, 0] rfl) hM
          · refine lv_aload_n hx hb d_R_valvesNow_90 rfl (lv_at hl 2 rfl) ?_
            refine lv_iload_n hx hb d_R_valvesNow_91 rfl (lv_at hl 3 rfl) ?_
            refine lv_iconst (v := 0) hx hb d_R_valvesNow_92 (by decide) ?_
            refine lv_iconst (v := 1) hx hb d_R_valvesNow_93 (by decide) ?_
            refine gm_Vi (As := [.int (nI mn), .int (0 : Int32), .int (nI 1)]) (rest := []) hF hM (c_R_was (u := u) (mn := mn) (vn := (0 : Int32)) (an := 1) (by omega) (by omega)) (gk_R_69 hts ⟨by decide, by decide⟩) (gv_R hF hM rfl) rfl hl.1 rfl (Nat.le_of_ble_eq_true rfl) ⟨Nat.zero_le _, Nat.zero_le _⟩ d_R_valvesNow_94 (fun H locs hM => ?_)
            refine gm_ifz (b := (v_R_was u mn (0 : Int32) 1)) (tgt := 118) hx hb d_R_valvesNow_97 rfl (fun h13 => ?_) (fun h13 => ?_)
            · refine lv_iconst (v := 0) hx hb d_R_valvesNow_118 (by decide) ?_
              have hJ := J9
              try simp only [if_pos h8, if_pos h12, if_neg (gm_nf h13)] at hJ
              try simp only [if_pos h8, if_pos h12, if_neg (gm_nf h13)] at hl
              try simp only [if_pos h8, if_pos h12, if_neg (gm_nf h13)] at hM
              try simp only [if_pos h8, if_pos h12, if_neg (gm_nf h13)]
              exact hJ ls H locs (lv_sub hl [2, 3, 4, 1, 5, 6, 0] rfl) hM
            · refine lv_aload_n hx hb d_R_valvesNow_100 rfl (lv_at hl 2 rfl) ?_
              refine lv_iload_n hx hb d_R_valvesNow_101 rfl (lv_at hl 3 rfl) ?_
              refine lv_iload hx hb d_R_valvesNow_102 (lv_at hl 5 rfl) ?_
              refine gm_Si (As := [.int (nI i1)]) (rest := [.int (nI mn), .ref (a 0)]) hF hM (c_R_opposite (u := u) (x := (nI i1)) ) (gk_R_73 hts ⟨by decide, by decide⟩) rfl hl.1 rfl (Nat.le_of_ble_eq_true rfl) ⟨Nat.zero_le _, Nat.zero_le _⟩ d_R_valvesNow_104 (fun H locs hM => ?_)
              refine lv_iconst (v := 0) hx hb d_R_valvesNow_107 (by decide) ?_
              refine gm_Vi (As := [.int (nI mn), .int (v_R_opposite (nI i1)), .int (nI 0)]) (rest := []) hF hM (c_R_was (u := u) (mn := mn) (vn := (v_R_opposite (nI i1))) (an := 0) (by omega) (by omega)) (gk_R_69 hts ⟨by decide, by decide⟩) (gv_R hF hM rfl) rfl hl.1 rfl (Nat.le_of_ble_eq_true rfl) ⟨Nat.zero_le _, Nat.zero_le _⟩ d_R_valvesNow_108 (fun H locs hM => ?_)
              refine gm_ifn (b := (v_R_was u mn (v_R_opposite (nI i1)) 0)) (tgt := 118) hx hb d_R_valvesNow_111 rfl (fun h14 => ?_) (fun h14 => ?_)
              · refine lv_iconst (v := 0) hx hb d_R_valvesNow_118 (by decide) ?_
                have hJ := J9
                try simp only [if_pos h8, if_pos h12, if_pos h13, if_pos h14] at hJ
                try simp only [if_pos h8, if_pos h12, if_pos h13, if_pos h14] at hl
                try simp only [if_pos h8, if_pos h12, if_pos h13, if_pos h14] at hM
                try simp only [if_pos h8, if_pos h12, if_pos h13, if_pos h14]
                exact hJ ls H locs (lv_sub hl [2, 3, 4, 1, 5, 6, 0] rfl) hM
              · refine lv_iconst (v := 1) hx hb d_R_valvesNow_114 (by decide) ?_
                refine lv_goto (tgt := 119) hx hb d_R_valvesNow_115 rfl ?_
                have hJ := J9
                try simp only [if_pos h8, if_pos h12, if_pos h13, if_neg (gm_nf h14)] at hJ
                try simp only [if_pos h8, if_pos h12, if_pos h13, if_neg (gm_nf h14)] at hl
                try simp only [if_pos h8, if_pos h12, if_pos h13, if_neg (gm_nf h14)] at hM
                try simp only [if_pos h8, if_pos h12, if_pos h13, if_neg (gm_nf h14)]
                exact hJ ls H locs (lv_sub hl [2, 3, 4, 1, 5, 6, 0] rfl) hM
      refine gm_ifn (b := gb1) (tgt := 31) hx hb d_R_valvesNow_23 rfl (fun h2 => ?_) (fun h2 => ?_)
      · refine lv_iconst (v := 1) hx hb d_R_valvesNow_31 (by decide) ?_
        refine lv_goto (tgt := 36) hx hb d_R_valvesNow_32 rfl ?_
        have hJ := J3
        try simp only [if_pos h2] at hJ
        exact hJ ls H locs (lv_sub hl [4, 5, 3, 2, 1, 0] rfl) hM
      · refine lv_iload hx hb d_R_valvesNow_26 (lv_at hl 0 rfl) ?_
        refine gm_ifz (b := (v_R_wanted u mn (nI i1))) (tgt := 35) hx hb d_R_valvesNow_28 rfl (fun h15 => ?_) (fun h15 => ?_)
        · refine lv_iconst (v := 0) hx hb d_R_valvesNow_35 (by decide) ?_
          have hJ := J3
          try simp only [if_neg (gm_nf h2), if_neg (gm_nf h15)] at hJ
          exact hJ ls H locs (lv_sub hl [4, 5, 3, 2, 1, 0] rfl) hM
        · refine lv_iconst (v := 1) hx hb d_R_valvesNow_31 (by decide) ?_
          refine lv_goto (tgt := 36) hx hb d_R_valvesNow_32 rfl ?_
          have hJ := J3
          try simp only [if_neg (gm_nf h2), if_pos h15] at hJ
          exact hJ ls H locs (lv_sub hl [4, 5, 3, 2, 1, 0] rfl) hM
  refine L1 4 1 (0 : Int32) false ls H locs (by omega) hl hM (fun ls H locs hl hM => ?_)
  refine lv_iload_n hx hb d_R_valvesNow_143 rfl (lv_at hl 1 rfl) ?_
  have J17 : ∀ (ls : Array Slot) (H : Heap) (locs : List Loc), lv_has ls 7 [(0, .ref (a 0)), (1, .int (nI mn)), (2, .int ((lp_R_vN u mn 4 1 (0 : Int32) false).1)), (3, .int (gm_b ((lp_R_vN u mn 4 1 (0 : Int32) false).2))), (4, .int (nI 5))] → gm_M D A s (gr_W dk a) u H locs → W p l e rm_R_valvesNow s m args below meth c H locs 0 0 Q (F0 m 154 ls [.int (if ((lp_R_vN u mn 4 1 (0 : Int32) false).2) = true then (((lp_R_vN u mn 4 1 (0 : Int32) false).1) ||| (1 : Int32)) else ((lp_R_vN u mn 4 1 (0 : Int32) false).1))]) := by
    intro ls H locs hl hM
    have hq := hQ H locs 154 ls
    simp only [v_R_valvesNow] at hq
    exact hq hM d_R_valvesNow_154
  refine gm_ifz (b := ((lp_R_vN u mn 4 1 (0 : Int32) false).2)) (tgt := 153) hx hb d_R_valvesNow_144 rfl (fun h16 => ?_) (fun h16 => ?_)
  · refine lv_iload_n hx hb d_R_valvesNow_153 rfl (lv_at hl 2 rfl) ?_
    have hJ := J17
    try simp only [if_neg (gm_nf h16)] at hJ
    exact hJ ls H locs (lv_sub hl [3, 4, 2, 1, 0] rfl) hM
  · refine lv_iload_n hx hb d_R_valvesNow_147 rfl (lv_at hl 2 rfl) ?_
    refine lv_iconst (v := 1) hx hb d_R_valvesNow_148 (by decide) ?_
    refine lv_ior hx hb d_R_valvesNow_149 ?_
    refine lv_goto (tgt := 154) hx hb d_R_valvesNow_150 rfl ?_
    have hJ := J17
    try simp only [if_pos h16] at hJ
    exact hJ ls H locs (lv_sub hl [3, 4, 2, 1, 0] rfl) hM
theorem d_R_limit_0 : decode b_R_limit 0 = .ok (.iload_n 0, 1) := by decide +kernel
theorem d_R_limit_1 : decode b_R_limit 1 = .ok (.bipush 9, 2) := by decide +kernel
theorem d_R_limit_3 : decode b_R_limit 3 = .ok (.if_icmp .eq 15, 3) := by decide +kernel
theorem d_R_limit_6 : decode b_R_limit 6 = .ok (.iload_n 0, 1) := by decide +kernel
theorem d_R_limit_7 : decode b_R_limit 7 = .ok (.bipush 11, 2) := by decide +kernel
theorem d_R_limit_9 : decode b_R_limit 9 = .ok (.if_icmp .eq 9, 3) := by decide +kernel
theorem d_R_limit_12 : decode b_R_limit 12 = .ok (.iload_n 0, 1) := by decide +kernel
theorem d_R_limit_13 : decode b_R_limit 13 = .ok (.bipush 13, 2) := by decide +kernel
theorem d_R_limit_15 : decode b_R_limit 15 = .ok (.if_icmp .ne 8, 3) := by decide +kernel
theorem d_R_limit_18 : decode b_R_limit 18 = .ok (.bipush 100, 2) := by decide +kernel
theorem d_R_limit_20 : decode b_R_limit 20 = .ok (.goto 27, 3) := by decide +kernel
theorem d_R_limit_23 : decode b_R_limit 23 = .ok (.iload_n 0, 1) := by decide +kernel
theorem d_R_limit_24 : decode b_R_limit 24 = .ok (.bipush 12, 2) := by decide +kernel
theorem d_R_limit_26 : decode b_R_limit 26 = .ok (.if_icmp .ne 8, 3) := by decide +kernel
theorem d_R_limit_29 : decode b_R_limit 29 = .ok (.bipush 20, 2) := by decide +kernel
theorem d_R_limit_31 : decode b_R_limit 31 = .ok (.goto 16, 3) := by decide +kernel
theorem d_R_limit_34 : decode b_R_limit 34 = .ok (.iload_n 0, 1) := by decide +kernel
theorem d_R_limit_35 : decode b_R_limit 35 = .ok (.bipush 15, 2) := by decide +kernel
theorem d_R_limit_37 : decode b_R_limit 37 = .ok (.if_icmp .ne 8, 3) := by decide +kernel
theorem d_R_limit_40 : decode b_R_limit 40 = .ok (.bipush 30, 2) := by decide +kernel
theorem d_R_limit_42 : decode b_R_limit 42 = .ok (.goto 5, 3) := by decide +kernel
theorem d_R_limit_45 : decode b_R_limit 45 = .ok (.bipush 70, 2) := by decide +kernel
theorem d_R_limit_47 : decode b_R_limit 47 = .ok (.ireturn, 1) := by decide +kernel
def v_R_limit (x : Int32) : Int32 := (if x = (9 : Int32) then (100 : Int32) else (if x = (11 : Int32) then (100 : Int32) else (if x = (13 : Int32) then (100 : Int32) else (if x = (12 : Int32) then (20 : Int32) else (if x = (15 : Int32) then (30 : Int32) else (70 : Int32))))))
set_option maxRecDepth 100000 in
set_option maxHeartbeats 4000000 in
theorem c_R_limit {l : Launch} {D : va_G} {dk : Nat → ClassId} {Wd : gm_St → va_W} {A : Nat → Prop} {lt : Nat} {u : gm_St} {x : Int32} : gm_I l D (gm_ty dk) Wd A lt y_R_limit b_R_limit 1 (some .int) rm_R_limit [.int x] u (v_R_limit x) u := by
  refine gm_enterI (by decide) (Nat.le_of_ble_eq_true rfl) ?_
  intro p e s m args below meth c ls Q H locs hF hM hl hQ
  have hx := hF.1
  have hb := hF.2.1
  have hml := hF.2.2.1
  have hown := hF.2.2.2.1
  have hts := hF.2.2.2.2.1
  have hl : lv_has ls 1 [(0, .int x)] := hl
  refine lv_iload_n hx hb d_R_limit_0 rfl (lv_at hl 0 rfl) ?_
  refine lv_bipush (v := 9) hx hb d_R_limit_1 (by decide) ?_
  have J2 : ∀ (ls : Array Slot) (H : Heap) (locs : List Loc), lv_has ls 1 [(0, .int x)] → gm_M D A s Wd u H locs → W p l e rm_R_limit s m args below meth c H locs 0 0 Q (F0 m 47 ls [.int (if x = (9 : Int32) then (100 : Int32) else (if x = (11 : Int32) then (100 : Int32) else (if x = (13 : Int32) then (100 : Int32) else (if x = (12 : Int32) then (20 : Int32) else (if x = (15 : Int32) then (30 : Int32) else (70 : Int32))))))]) := by
    intro ls H locs hl hM
    have hq := hQ H locs 47 ls
    simp only [v_R_limit] at hq
    exact hq hM d_R_limit_47
  refine lv_icmp_eq (tgt := 18) hx hb d_R_limit_3 rfl (fun h1 => ?_) (fun h1 => ?_)
  · refine lv_bipush (v := 100) hx hb d_R_limit_18 (by decide) ?_
    refine lv_goto (tgt := 47) hx hb d_R_limit_20 rfl ?_
    have hJ := J2
    try simp only [if_pos h1] at hJ
    exact hJ ls H locs hl hM
  · refine lv_iload_n hx hb d_R_limit_6 rfl (lv_at hl 0 rfl) ?_
    refine lv_bipush (v := 11) hx hb d_R_limit_7 (by decide) ?_
    refine lv_icmp_eq (tgt := 18) hx hb d_R_limit_9 rfl (fun h3 => ?_) (fun h3 => ?_)
    · refine lv_bipush (v := 100) hx hb d_R_limit_18 (by decide) ?_
      refine lv_goto (tgt := 47) hx hb d_R_limit_20 rfl ?_
      have hJ := J2
      try simp only [if_neg h1, if_pos h3] at hJ
      exact hJ ls H locs hl hM
    · refine lv_iload_n hx hb d_R_limit_12 rfl (lv_at hl 0 rfl) ?_
      refine lv_bipush (v := 13) hx hb d_R_limit_13 (by decide) ?_
      refine lv_icmp_ne (tgt := 23) hx hb d_R_limit_15 rfl (fun h4 => ?_) (fun h4 => ?_)
      · refine lv_iload_n hx hb d_R_limit_23 rfl (lv_at hl 0 rfl) ?_
        refine lv_bipush (v := 12) hx hb d_R_limit_24 (by decide) ?_
        refine lv_icmp_ne (tgt := 34) hx hb d_R_limit_26 rfl (fun h5 => ?_) (fun h5 => ?_)
        · refine lv_iload_n hx hb d_R_limit_34 rfl (lv_at hl 0 rfl) ?_
          refine lv_bipush (v := 15) hx hb d_R_limit_35 (by decide) ?_
          refine lv_icmp_ne (tgt := 45) hx hb d_R_limit_37 rfl (fun h6 => ?_) (fun h6 => ?_)
          · refine lv_bipush (v := 70) hx hb d_R_limit_45 (by decide) ?_
            have hJ := J2
            try simp only [if_neg h1, if_neg h3, if_neg h4, if_neg h5, if_neg h6] at hJ
            exact hJ ls H locs hl hM
          · refine lv_bipush (v := 30) hx hb d_R_limit_40 (by decide) ?_
            refine lv_goto (tgt := 47) hx hb d_R_limit_42 rfl ?_
            have hJ := J2
            try simp only [if_neg h1, if_neg h3, if_neg h4, if_neg h5, if_pos h6] at hJ
            exact hJ ls H locs hl hM
        · refine lv_bipush (v := 20) hx hb d_R_limit_29 (by decide) ?_
          refine lv_goto (tgt := 47) hx hb d_R_limit_31 rfl ?_
          have hJ := J2
          try simp only [if_neg h1, if_neg h3, if_neg h4, if_pos h5] at hJ
          exact hJ ls H locs hl hM
      · refine lv_bipush (v := 100) hx hb d_R_limit_18 (by decide) ?_
        refine lv_goto (tgt := 47) hx hb d_R_limit_20 rfl ?_
        have hJ := J2
        try simp only [if_neg h1, if_neg h3, if_pos h4] at hJ
        exact hJ ls H locs hl hM
theorem d_R_condition_0 : decode b_R_condition 0 = .ok (.iload_n 2, 1) := by decide +kernel
theorem d_R_condition_1 : decode b_R_condition 1 = .ok (.tableswitch 283 6 13 #[47, 77, 107, 137, 165, 193, 223, 253], 47) := by decide +kernel
theorem d_R_condition_48 : decode b_R_condition 48 = .ok (.aload_n 0, 1) := by decide +kernel
theorem d_R_condition_49 : decode b_R_condition 49 = .ok (.iload_n 1, 1) := by decide +kernel
theorem d_R_condition_50 : decode b_R_condition 50 = .ok (.iconst 1, 1) := by decide +kernel
theorem d_R_condition_51 : decode b_R_condition 51 = .ok (.iconst 0, 1) := by decide +kernel
theorem d_R_condition_52 : decode b_R_condition 52 = .ok (.invokevirtual 69, 3) := by decide +kernel
theorem d_R_condition_55 : decode b_R_condition 55 = .ok (.ifCond .eq 21, 3) := by decide +kernel
theorem d_R_condition_58 : decode b_R_condition 58 = .ok (.aload_n 0, 1) := by decide +kernel
theorem d_R_condition_59 : decode b_R_condition 59 = .ok (.getfield 16, 3) := by decide +kernel
theorem d_R_condition_62 : decode b_R_condition 62 = .ok (.bipush 6, 2) := by decide +kernel
theorem d_R_condition_64 : decode b_R_condition 64 = .ok (.iload_n 1, 1) := by decide +kernel
theorem d_R_condition_65 : decode b_R_condition 65 = .ok (.imul, 1) := by decide +kernel
theorem d_R_condition_66 : decode b_R_condition 66 = .ok (.iconst 2, 1) := by decide +kernel
theorem d_R_condition_67 : decode b_R_condition 67 = .ok (.iadd, 1) := by decide +kernel
theorem d_R_condition_68 : decode b_R_condition 68 = .ok (.baload, 1) := by decide +kernel
theorem d_R_condition_69 : decode b_R_condition 69 = .ok (.ifCond .ne 7, 3) := by decide +kernel
theorem d_R_condition_72 : decode b_R_condition 72 = .ok (.iconst 1, 1) := by decide +kernel
theorem d_R_condition_73 : decode b_R_condition 73 = .ok (.goto 4, 3) := by decide +kernel
theorem d_R_condition_76 : decode b_R_condition 76 = .ok (.iconst 0, 1) := by decide +kernel
theorem d_R_condition_77 : decode b_R_condition 77 = .ok (.ireturn, 1) := by decide +kernel
theorem d_R_condition_78 : decode b_R_condition 78 = .ok (.aload_n 0, 1) := by decide +kernel
theorem d_R_condition_79 : decode b_R_condition 79 = .ok (.iload_n 1, 1) := by decide +kernel
theorem d_R_condition_80 : decode b_R_condition 80 = .ok (.iconst 2, 1) := by decide +kernel
theorem d_R_condition_81 : decode b_R_condition 81 = .ok (.iconst 0, 1) := by decide +kernel
theorem d_R_condition_82 : decode b_R_condition 82 = .ok (.invokevirtual 69, 3) := by decide +kernel
theorem d_R_condition_85 : decode b_R_condition 85 = .ok (.ifCond .eq 21, 3) := by decide +kernel
theorem d_R_condition_88 : decode b_R_condition 88 = .ok (.aload_n 0, 1) := by decide +kernel
theorem d_R_condition_89 : decode b_R_condition 89 = .ok (.getfield 16, 3) := by decide +kernel
theorem d_R_condition_92 : decode b_R_condition 92 = .ok (.bipush 6, 2) := by decide +kernel
theorem d_R_condition_94 : decode b_R_condition 94 = .ok (.iload_n 1, 1) := by decide +kernel
theorem d_R_condition_95 : decode b_R_condition 95 = .ok (.imul, 1) := by decide +kernel
theorem d_R_condition_96 : decode b_R_condition 96 = .ok (.iconst 3, 1) := by decide +kernel
theorem d_R_condition_97 : decode b_R_condition 97 = .ok (.iadd, 1) := by decide +kernel
theorem d_R_condition_98 : decode b_R_condition 98 = .ok (.baload, 1) := by decide +kernel
theorem d_R_condition_99 : decode b_R_condition 99 = .ok (.ifCond .ne 7, 3) := by decide +kernel
theorem d_R_condition_102 : decode b_R_condition 102 = .ok (.iconst 1, 1) := by decide +kernel
theorem d_R_condition_103 : decode b_R_condition 103 = .ok (.goto 4, 3) := by decide +kernel
theorem d_R_condition_106 : decode b_R_condition 106 = .ok (.iconst 0, 1) := by decide +kernel
theorem d_R_condition_107 : decode b_R_condition 107 = .ok (.ireturn, 1) := by decide +kernel
theorem d_R_condition_108 : decode b_R_condition 108 = .ok (.aload_n 0, 1) := by decide +kernel
theorem d_R_condition_109 : decode b_R_condition 109 = .ok (.iload_n 1, 1) := by decide +kernel
theorem d_R_condition_110 : decode b_R_condition 110 = .ok (.iconst 3, 1) := by decide +kernel
theorem d_R_condition_111 : decode b_R_condition 111 = .ok (.iconst 0, 1) := by decide +kernel
theorem d_R_condition_112 : decode b_R_condition 112 = .ok (.invokevirtual 69, 3) := by decide +kernel
theorem d_R_condition_115 : decode b_R_condition 115 = .ok (.ifCond .eq 21, 3) := by decide +kernel
theorem d_R_condition_118 : decode b_R_condition 118 = .ok (.aload_n 0, 1) := by decide +kernel
theorem d_R_condition_119 : decode b_R_condition 119 = .ok (.getfield 16, 3) := by decide +kernel
theorem d_R_condition_122 : decode b_R_condition 122 = .ok (.bipush 6, 2) := by decide +kernel
theorem d_R_condition_124 : decode b_R_condition 124 = .ok (.iload_n 1, 1) := by decide +kernel
theorem d_R_condition_125 : decode b_R_condition 125 = .ok (.imul, 1) := by decide +kernel
theorem d_R_condition_126 : decode b_R_condition 126 = .ok (.iconst 1, 1) := by decide +kernel
theorem d_R_condition_127 : decode b_R_condition 127 = .ok (.iadd, 1) := by decide +kernel
theorem d_R_condition_128 : decode b_R_condition 128 = .ok (.baload, 1) := by decide +kernel
theorem d_R_condition_129 : decode b_R_condition 129 = .ok (.ifCond .eq 7, 3) := by decide +kernel
theorem d_R_condition_132 : decode b_R_condition 132 = .ok (.iconst 1, 1) := by decide +kernel
theorem d_R_condition_133 : decode b_R_condition 133 = .ok (.goto 4, 3) := by decide +kernel
theorem d_R_condition_136 : decode b_R_condition 136 = .ok (.iconst 0, 1) := by decide +kernel
theorem d_R_condition_137 : decode b_R_condition 137 = .ok (.ireturn, 1) := by decide +kernel
theorem d_R_condition_138 : decode b_R_condition 138 = .ok (.aload_n 0, 1) := by decide +kernel
theorem d_R_condition_139 : decode b_R_condition 139 = .ok (.iload_n 1, 1) := by decide +kernel
theorem d_R_condition_140 : decode b_R_condition 140 = .ok (.iconst 3, 1) := by decide +kernel
theorem d_R_condition_141 : decode b_R_condition 141 = .ok (.iconst 0, 1) := by decide +kernel
theorem d_R_condition_142 : decode b_R_condition 142 = .ok (.invokevirtual 69, 3) := by decide +kernel
theorem d_R_condition_145 : decode b_R_condition 145 = .ok (.ifCond .eq 19, 3) := by decide +kernel
theorem d_R_condition_148 : decode b_R_condition 148 = .ok (.aload_n 0, 1) := by decide +kernel
theorem d_R_condition_149 : decode b_R_condition 149 = .ok (.getfield 16, 3) := by decide +kernel
theorem d_R_condition_152 : decode b_R_condition 152 = .ok (.bipush 6, 2) := by decide +kernel
theorem d_R_condition_154 : decode b_R_condition 154 = .ok (.iload_n 1, 1) := by decide +kernel
theorem d_R_condition_155 : decode b_R_condition 155 = .ok (.imul, 1) := by decide +kernel
theorem d_R_condition_156 : decode b_R_condition 156 = .ok (.baload, 1) := by decide +kernel
theorem d_R_condition_157 : decode b_R_condition 157 = .ok (.ifCond .ne 7, 3) := by decide +kernel
theorem d_R_condition_160 : decode b_R_condition 160 = .ok (.iconst 1, 1) := by decide +kernel
theorem d_R_condition_161 : decode b_R_condition 161 = .ok (.goto 4, 3) := by decide +kernel
theorem d_R_condition_164 : decode b_R_condition 164 = .ok (.iconst 0, 1) := by decide +kernel
theorem d_R_condition_165 : decode b_R_condition 165 = .ok (.ireturn, 1) := by decide +kernel
theorem d_R_condition_166 : decode b_R_condition 166 = .ok (.aload_n 0, 1) := by decide +kernel
theorem d_R_condition_167 : decode b_R_condition 167 = .ok (.iload_n 1, 1) := by decide +kernel
theorem d_R_condition_168 : decode b_R_condition 168 = .ok (.iconst 4, 1) := by decide +kernel
theorem d_R_condition_169 : decode b_R_condition 169 = .ok (.iconst 0, 1) := by decide +kernel
theorem d_R_condition_170 : decode b_R_condition 170 = .ok (.invokevirtual 69, 3) := by decide +kernel
theorem d_R_condition_173 : decode b_R_condition 173 = .ok (.ifCond .eq 19, 3) := by decide +kernel
theorem d_R_condition_176 : decode b_R_condition 176 = .ok (.aload_n 0, 1) := by decide +kernel
theorem d_R_condition_177 : decode b_R_condition 177 = .ok (.getfield 16, 3) := by decide +kernel
theorem d_R_condition_180 : decode b_R_condition 180 = .ok (.bipush 6, 2) := by decide +kernel
theorem d_R_condition_182 : decode b_R_condition 182 = .ok (.iload_n 1, 1) := by decide +kernel
theorem d_R_condition_183 : decode b_R_condition 183 = .ok (.imul, 1) := by decide +kernel
theorem d_R_condition_184 : decode b_R_condition 184 = .ok (.baload, 1) := by decide +kernel
theorem d_R_condition_185 : decode b_R_condition 185 = .ok (.ifCond .eq 7, 3) := by decide +kernel
theorem d_R_condition_188 : decode b_R_condition 188 = .ok (.iconst 1, 1) := by decide +kernel
theorem d_R_condition_189 : decode b_R_condition 189 = .ok (.goto 4, 3) := by decide +kernel
theorem d_R_condition_192 : decode b_R_condition 192 = .ok (.iconst 0, 1) := by decide +kernel
theorem d_R_condition_193 : decode b_R_condition 193 = .ok (.ireturn, 1) := by decide +kernel
theorem d_R_condition_194 : decode b_R_condition 194 = .ok (.aload_n 0, 1) := by decide +kernel
theorem d_R_condition_195 : decode b_R_condition 195 = .ok (.iload_n 1, 1) := by decide +kernel
theorem d_R_condition_196 : decode b_R_condition 196 = .ok (.iconst 4, 1) := by decide +kernel
theorem d_R_condition_197 : decode b_R_condition 197 = .ok (.iconst 0, 1) := by decide +kernel
theorem d_R_condition_198 : decode b_R_condition 198 = .ok (.invokevirtual 69, 3) := by decide +kernel
theorem d_R_condition_201 : decode b_R_condition 201 = .ok (.ifCond .eq 21, 3) := by decide +kernel
theorem d_R_condition_204 : decode b_R_condition 204 = .ok (.aload_n 0, 1) := by decide +kernel
theorem d_R_condition_205 : decode b_R_condition 205 = .ok (.getfield 16, 3) := by decide +kernel
theorem d_R_condition_208 : decode b_R_condition 208 = .ok (.bipush 6, 2) := by decide +kernel
theorem d_R_condition_210 : decode b_R_condition 210 = .ok (.iload_n 1, 1) := by decide +kernel
theorem d_R_condition_211 : decode b_R_condition 211 = .ok (.imul, 1) := by decide +kernel
theorem d_R_condition_212 : decode b_R_condition 212 = .ok (.iconst 1, 1) := by decide +kernel
theorem d_R_condition_213 : decode b_R_condition 213 = .ok (.iadd, 1) := by decide +kernel
theorem d_R_condition_214 : decode b_R_condition 214 = .ok (.baload, 1) := by decide +kernel
theorem d_R_condition_215 : decode b_R_condition 215 = .ok (.ifCond .ne 7, 3) := by decide +kernel
theorem d_R_condition_218 : decode b_R_condition 218 = .ok (.iconst 1, 1) := by decide +kernel
theorem d_R_condition_219 : decode b_R_condition 219 = .ok (.goto 4, 3) := by decide +kernel
theorem d_R_condition_222 : decode b_R_condition 222 = .ok (.iconst 0, 1) := by decide +kernel
theorem d_R_condition_223 : decode b_R_condition 223 = .ok (.ireturn, 1) := by decide +kernel
theorem d_R_condition_224 : decode b_R_condition 224 = .ok (.aload_n 0, 1) := by decide +kernel
theorem d_R_condition_225 : decode b_R_condition 225 = .ok (.iload_n 1, 1) := by decide +kernel
theorem d_R_condition_226 : decode b_R_condition 226 = .ok (.iconst 0, 1) := by decide +kernel
theorem d_R_condition_227 : decode b_R_condition 227 = .ok (.iconst 0, 1) := by decide +kernel
theorem d_R_condition_228 : decode b_R_condition 228 = .ok (.invokevirtual 69, 3) := by decide +kernel
theorem d_R_condition_231 : decode b_R_condition 231 = .ok (.ifCond .eq 21, 3) := by decide +kernel
theorem d_R_condition_234 : decode b_R_condition 234 = .ok (.aload_n 0, 1) := by decide +kernel
theorem d_R_condition_235 : decode b_R_condition 235 = .ok (.getfield 16, 3) := by decide +kernel
theorem d_R_condition_238 : decode b_R_condition 238 = .ok (.bipush 6, 2) := by decide +kernel
theorem d_R_condition_240 : decode b_R_condition 240 = .ok (.iload_n 1, 1) := by decide +kernel
theorem d_R_condition_241 : decode b_R_condition 241 = .ok (.imul, 1) := by decide +kernel
theorem d_R_condition_242 : decode b_R_condition 242 = .ok (.iconst 4, 1) := by decide +kernel
theorem d_R_condition_243 : decode b_R_condition 243 = .ok (.iadd, 1) := by decide +kernel
theorem d_R_condition_244 : decode b_R_condition 244 = .ok (.baload, 1) := by decide +kernel
theorem d_R_condition_245 : decode b_R_condition 245 = .ok (.ifCond .ne 7, 3) := by decide +kernel
theorem d_R_condition_248 : decode b_R_condition 248 = .ok (.iconst 1, 1) := by decide +kernel
theorem d_R_condition_249 : decode b_R_condition 249 = .ok (.goto 4, 3) := by decide +kernel
theorem d_R_condition_252 : decode b_R_condition 252 = .ok (.iconst 0, 1) := by decide +kernel
theorem d_R_condition_253 : decode b_R_condition 253 = .ok (.ireturn, 1) := by decide +kernel
theorem d_R_condition_254 : decode b_R_condition 254 = .ok (.aload_n 0, 1) := by decide +kernel
theorem d_R_condition_255 : decode b_R_condition 255 = .ok (.iload_n 1, 1) := by decide +kernel
theorem d_R_condition_256 : decode b_R_condition 256 = .ok (.iconst 0, 1) := by decide +kernel
theorem d_R_condition_257 : decode b_R_condition 257 = .ok (.iconst 0, 1) := by decide +kernel
theorem d_R_condition_258 : decode b_R_condition 258 = .ok (.invokevirtual 69, 3) := by decide +kernel
theorem d_R_condition_261 : decode b_R_condition 261 = .ok (.ifCond .ne 21, 3) := by decide +kernel
theorem d_R_condition_264 : decode b_R_condition 264 = .ok (.aload_n 0, 1) := by decide +kernel
theorem d_R_condition_265 : decode b_R_condition 265 = .ok (.getfield 16, 3) := by decide +kernel
theorem d_R_condition_268 : decode b_R_condition 268 = .ok (.bipush 6, 2) := by decide +kernel
theorem d_R_condition_270 : decode b_R_condition 270 = .ok (.iload_n 1, 1) := by decide +kernel
theorem d_R_condition_271 : decode b_R_condition 271 = .ok (.imul, 1) := by decide +kernel
theorem d_R_condition_272 : decode b_R_condition 272 = .ok (.iconst 4, 1) := by decide +kernel
theorem d_R_condition_273 : decode b_R_condition 273 = .ok (.iadd, 1) := by decide +kernel
theorem d_R_condition_274 : decode b_R_condition 274 = .ok (.baload, 1) := by decide +kernel
theorem d_R_condition_275 : decode b_R_condition 275 = .ok (.ifCond .eq 7, 3) := by decide +kernel
theorem d_R_condition_278 : decode b_R_condition 278 = .ok (.iconst 1, 1) := by decide +kernel
theorem d_R_condition_279 : decode b_R_condition 279 = .ok (.goto 4, 3) := by decide +kernel
theorem d_R_condition_282 : decode b_R_condition 282 = .ok (.iconst 0, 1) := by decide +kernel
theorem d_R_condition_283 : decode b_R_condition 283 = .ok (.ireturn, 1) := by decide +kernel
theorem d_R_condition_284 : decode b_R_condition 284 = .ok (.aload_n 0, 1) := by decide +kernel
theorem d_R_condition_285 : decode b_R_condition 285 = .ok (.getfield 16, 3) := by decide +kernel
theorem d_R_condition_288 : decode b_R_condition 288 = .ok (.bipush 6, 2) := by decide +kernel
theorem d_R_condition_290 : decode b_R_condition 290 = .ok (.iload_n 1, 1) := by decide +kernel
theorem d_R_condition_291 : decode b_R_condition 291 = .ok (.imul, 1) := by decide +kernel
theorem d_R_condition_292 : decode b_R_condition 292 = .ok (.iconst 5, 1) := by decide +kernel
theorem d_R_condition_293 : decode b_R_condition 293 = .ok (.iadd, 1) := by decide +kernel
theorem d_R_condition_294 : decode b_R_condition 294 = .ok (.baload, 1) := by decide +kernel
theorem d_R_condition_295 : decode b_R_condition 295 = .ok (.ireturn, 1) := by decide +kernel
def v_R_condition (u : gm_St) (mn : Nat) (kn : Nat) : Bool := (match kn with | 6 => (if (v_R_was u mn (1 : Int32) 0) = true then (if (u.1 2 (6 * mn + 2)) = true then false else true) else false) | 7 => (if (v_R_was u mn (2 : Int32) 0) = true then (if (u.1 2 (6 * mn + 3)) = true then false else true) else false) | 8 => (if (v_R_was u mn (3 : Int32) 0) = true then (if (u.1 2 (6 * mn + 1)) = true then true else false) else false) | 9 => (if (v_R_was u mn (3 : Int32) 0) = true then (if (u.1 2 (6 * mn)) = true then false else true) else false) | 10 => (if (v_R_was u mn (4 : Int32) 0) = true then (if (u.1 2 (6 * mn)) = true then true else false) else false) | 11 => (if (v_R_was u mn (4 : Int32) 0) = true then (if (u.1 2 (6 * mn + 1)) = true then false else true) else false) | 12 => (if (v_R_was u mn (0 : Int32) 0) = true then (if (u.1 2 (6 * mn + 4)) = true then false else true) else false) | 13 => (if (v_R_was u mn (0 : Int32) 0) = true then false else (if (u.1 2 (6 * mn + 4)) = true then true else false)) | _ => (u.1 2 (6 * mn + 5)))
set_option maxRecDepth 100000 in
set_option maxHeartbeats 4000000 in
theorem c_R_condition {l : Launch} {D : va_G} {dk : Nat → ClassId} {a : Nat → Nat} {A : Nat → Prop} {lt : Nat} {u : gm_St} {mn : Nat} {kn : Nat} (h_mn : mn < 2) (h_kn : 6 ≤ kn ∧ kn < 16) : gm_I l D (gm_ty dk) (gr_W dk a) A lt y_R_condition b_R_condition 3 (some .boolean) rm_R_condition [.ref (a 0), .int (nI mn), .int (nI kn)] u (gm_b (v_R_condition u mn kn)) u := by
  refine gm_enterZ (by decide) (Nat.le_of_ble_eq_true rfl) ?_
  intro p e s m args below meth c ls Q H locs hF hM hl hQ
  have hx := hF.1
  have hb := hF.2.1
  have hml := hF.2.2.1
  have hown := hF.2.2.2.1
  have hts := hF.2.2.2.2.1
  have hl : lv_has ls 3 [(0, .ref (a 0)), (1, .int (nI mn)), (2, .int (nI kn))] := hl
  refine lv_iload_n hx hb d_R_condition_0 rfl (lv_at hl 2 rfl) ?_
  rcases (by omega : kn = 6 ∨ kn = 7 ∨ kn = 8 ∨ kn = 9 ∨ kn = 10 ∨ kn = 11 ∨ kn = 12 ∨ kn = 13 ∨ kn = 14 ∨ kn = 15) with rfl | rfl | rfl | rfl | rfl | rfl | rfl | rfl | rfl | rfl
  · refine lv_tableIn (off := 47) (tgt := 48) hx hb d_R_condition_1 (by decide) (by decide) (by decide +kernel) rfl ?_
    refine lv_aload_n hx hb d_R_condition_48 rfl (lv_at hl 0 rfl) ?_
    refine lv_iload_n hx hb d_R_condition_49 rfl (lv_at hl 1 rfl) ?_
    refine lv_iconst (v := 1) hx hb d_R_condition_50 (by decide) ?_
    refine lv_iconst (v := 0) hx hb d_R_condition_51 (by decide) ?_
    refine gm_Vi (As := [.int (nI mn), .int (1 : Int32), .int (nI 0)]) (rest := []) hF hM (c_R_was (u := u) (mn := mn) (vn := (1 : Int32)) (an := 0) (by omega) (by omega)) (gk_R_69 hts ⟨by decide, by decide⟩) (gv_R hF hM rfl) rfl hl.1 rfl (Nat.le_of_ble_eq_true rfl) ⟨Nat.zero_le _, Nat.zero_le _⟩ d_R_condition_52 (fun H locs hM => ?_)
    have J2 : ∀ (ls : Array Slot) (H : Heap) (locs : List Loc), lv_has ls 3 [(0, .ref (a 0)), (1, .int (nI mn)), (2, .int (nI 6))] → gm_M D A s (gr_W dk a) u H locs → W p l e rm_R_condition s m args below meth c H locs 0 0 Q (F0 m 77 ls [.int (gm_b (if (v_R_was u mn (1 : Int32) 0) = true then (if (u.1 2 (6 * mn + 2)) = true then false else true) else false))]) := by
      intro ls H locs hl hM
      have hq := hQ H locs 77 ls
      simp only [v_R_condition] at hq
      exact hq hM d_R_condition_77
    refine gm_ifz (b := (v_R_was u mn (1 : Int32) 0)) (tgt := 76) hx hb d_R_condition_55 rfl (fun h1 => ?_) (fun h1 => ?_)
    · refine lv_iconst (v := 0) hx hb d_R_condition_76 (by decide) ?_
      have hJ := J2
      try simp only [if_neg (gm_nf h1)] at hJ
      exact hJ ls H locs hl hM
    · refine lv_aload_n hx hb d_R_condition_58 rfl (lv_at hl 0 rfl) ?_
      refine gf_R_16 hF hM d_R_condition_59 ?_
      refine lv_bipush (v := 6) hx hb d_R_condition_62 (by decide) ?_
      refine lv_iload_n hx hb d_R_condition_64 rfl (lv_at hl 1 rfl) ?_
      refine lv_imul hx hb d_R_condition_65 ?_
      refine lv_iconst (v := 2) hx hb d_R_condition_66 (by decide) ?_
      refine lv_iadd hx hb d_R_condition_67 ?_
      refine ga_value (k := (6 * mn + 2)) hF hM (by first | rfl | (simp only [← nI_add, ← pk_mul] <;> rfl)) (by first | omega | exact Nat.mod_lt _ (by decide)) d_R_condition_68 ?_
      refine gm_ifn (b := (u.1 2 (6 * mn + 2))) (tgt := 76) hx hb d_R_condition_69 rfl (fun h3 => ?_) (fun h3 => ?_)
      · refine lv_iconst (v := 0) hx hb d_R_condition_76 (by decide) ?_
        have hJ := J2
        try simp only [if_pos h1, if_pos h3] at hJ
        exact hJ ls H locs hl hM
      · refine lv_iconst (v := 1) hx hb d_R_condition_72 (by decide) ?_
        refine lv_goto (tgt := 77) hx hb d_R_condition_73 rfl ?_
        have hJ := J2
        try simp only [if_pos h1, if_neg (gm_nf h3)] at hJ
        exact hJ ls H locs hl hM
  · refine lv_tableIn (off := 77) (tgt := 78) hx hb d_R_condition_1 (by decide) (by decide) (by decide +kernel) rfl ?_
    refine lv_aload_n hx hb d_R_condition_78 rfl (lv_at hl 0 rfl) ?_
    refine lv_iload_n hx hb d_R_condition_79 rfl (lv_at hl 1 rfl) ?_
    refine lv_iconst (v := 2) hx hb d_R_condition_80 (by decide) ?_
    refine lv_iconst (v := 0) hx hb d_R_condition_81 (by decide) ?_
    refine gm_Vi (As := [.int (nI mn), .int (2 : Int32), .int (nI 0)]) (rest := []) hF hM (c_R_was (u := u) (mn := mn) (vn := (2 : Int32)) (an := 0) (by omega) (by omega)) (gk_R_69 hts ⟨by decide, by decide⟩) (gv_R hF hM rfl) rfl hl.1 rfl (Nat.le_of_ble_eq_true rfl) ⟨Nat.zero_le _, Nat.zero_le _⟩ d_R_condition_82 (fun H locs hM => ?_)
    have J5 : ∀ (ls : Array Slot) (H : Heap) (locs : List Loc), lv_has ls 3 [(0, .ref (a 0)), (1, .int (nI mn)), (2, .int (nI 7))] → gm_M D A s (gr_W dk a) u H locs → W p l e rm_R_condition s m args below meth c H locs 0 0 Q (F0 m 107 ls [.int (gm_b (if (v_R_was u mn (2 : Int32) 0) = true then (if (u.1 2 (6 * mn + 3)) = true then false else true) else false))]) := by
      intro ls H locs hl hM
      have hq := hQ H locs 107 ls
      simp only [v_R_condition] at hq
      exact hq hM d_R_condition_107
    refine gm_ifz (b := (v_R_was u mn (2 : Int32) 0)) (tgt := 106) hx hb d_R_condition_85 rfl (fun h4 => ?_) (fun h4 => ?_)
    · refine lv_iconst (v := 0) hx hb d_R_condition_106 (by decide) ?_
      have hJ := J5
      try simp only [if_neg (gm_nf h4)] at hJ
      exact hJ ls H locs hl hM
    · refine lv_aload_n hx hb d_R_condition_88 rfl (lv_at hl 0 rfl) ?_
      refine gf_R_16 hF hM d_R_condition_89 ?_
      refine lv_bipush (v := 6) hx hb d_R_condition_92 (by decide) ?_
      refine lv_iload_n hx hb d_R_condition_94 rfl (lv_at hl 1 rfl) ?_
      refine lv_imul hx hb d_R_condition_95 ?_
      refine lv_iconst (v := 3) hx hb d_R_condition_96 (by decide) ?_
      refine lv_iadd hx hb d_R_condition_97 ?_
      refine ga_value (k := (6 * mn + 3)) hF hM (by first | rfl | (simp only [← nI_add, ← pk_mul] <;> rfl)) (by first | omega | exact Nat.mod_lt _ (by decide)) d_R_condition_98 ?_
      refine gm_ifn (b := (u.1 2 (6 * mn + 3))) (tgt := 106) hx hb d_R_condition_99 rfl (fun h6 => ?_) (fun h6 => ?_)
      · refine lv_iconst (v := 0) hx hb d_R_condition_106 (by decide) ?_
        have hJ := J5
        try simp only [if_pos h4, if_pos h6] at hJ
        exact hJ ls H locs hl hM
      · refine lv_iconst (v := 1) hx hb d_R_condition_102 (by decide) ?_
        refine lv_goto (tgt := 107) hx hb d_R_condition_103 rfl ?_
        have hJ := J5
        try simp only [if_pos h4, if_neg (gm_nf h6)] at hJ
        exact hJ ls H locs hl hM
  · refine lv_tableIn (off := 107) (tgt := 108) hx hb d_R_condition_1 (by decide) (by decide) (by decide +kernel) rfl ?_
    refine lv_aload_n hx hb d_R_condition_108 rfl (lv_at hl 0 rfl) ?_
    refine lv_iload_n hx hb d_R_condition_109 rfl (lv_at hl 1 rfl) ?_
    refine lv_iconst (v := 3) hx hb d_R_condition_110 (by decide) ?_
    refine lv_iconst (v := 0) hx hb d_R_condition_111 (by decide) ?_
    refine gm_Vi (As := [.int (nI mn), .int (3 : Int32), .int (nI 0)]) (rest := []) hF hM (c_R_was (u := u) (mn := mn) (vn := (3 : Int32)) (an := 0) (by omega) (by omega)) (gk_R_69 hts ⟨by decide, by decide⟩) (gv_R hF hM rfl) rfl hl.1 rfl (Nat.le_of_ble_eq_true rfl) ⟨Nat.zero_le _, Nat.zero_le _⟩ d_R_condition_112 (fun H locs hM => ?_)
    have J8 : ∀ (ls : Array Slot) (H : Heap) (locs : List Loc), lv_has ls 3 [(0, .ref (a 0)), (1, .int (nI mn)), (2, .int (nI 8))] → gm_M D A s (gr_W dk a) u H locs → W p l e rm_R_condition s m args below meth c H locs 0 0 Q (F0 m 137 ls [.int (gm_b (if (v_R_was u mn (3 : Int32) 0) = true then (if (u.1 2 (6 * mn + 1)) = true then true else false) else false))]) := by
      intro ls H locs hl hM
      have hq := hQ H locs 137 ls
      simp only [v_R_condition] at hq
      exact hq hM d_R_condition_137
    refine gm_ifz (b := (v_R_was u mn (3 : Int32) 0)) (tgt := 136) hx hb d_R_condition_115 rfl (fun h7 => ?_) (fun h7 => ?_)
    · refine lv_iconst (v := 0) hx hb d_R_condition_136 (by decide) ?_
      have hJ := J8
      try simp only [if_neg (gm_nf h7)] at hJ
      exact hJ ls H locs hl hM
    · refine lv_aload_n hx hb d_R_condition_118 rfl (lv_at hl 0 rfl) ?_
      refine gf_R_16 hF hM d_R_condition_119 ?_
      refine lv_bipush (v := 6) hx hb d_R_condition_122 (by decide) ?_
      refine lv_iload_n hx hb d_R_condition_124 rfl (lv_at hl 1 rfl) ?_
      refine lv_imul hx hb d_R_condition_125 ?_
      refine lv_iconst (v := 1) hx hb d_R_condition_126 (by decide) ?_
      refine lv_iadd hx hb d_R_condition_127 ?_
      refine ga_value (k := (6 * mn + 1)) hF hM (by first | rfl | (simp only [← nI_add, ← pk_mul] <;> rfl)) (by first | omega | exact Nat.mod_lt _ (by decide)) d_R_condition_128 ?_
      refine gm_ifz (b := (u.1 2 (6 * mn + 1))) (tgt := 136) hx hb d_R_condition_129 rfl (fun h9 => ?_) (fun h9 => ?_)
      · refine lv_iconst (v := 0) hx hb d_R_condition_136 (by decide) ?_
        have hJ := J8
        try simp only [if_pos h7, if_neg (gm_nf h9)] at hJ
        exact hJ ls H locs hl hM
      · refine lv_iconst (v := 1) hx hb d_R_condition_132 (by decide) ?_
        refine lv_goto (tgt := 137) hx hb d_R_condition_133 rfl ?_
        have hJ := J8
        try simp only [if_pos h7, if_pos h9] at hJ
        exact hJ ls H locs hl hM
  · refine lv_tableIn (off := 137) (tgt := 138) hx hb d_R_condition_1 (by decide) (by decide) (by decide +kernel) rfl ?_
    refine lv_aload_n hx hb d_R_condition_138 rfl (lv_at hl 0 rfl) ?_
    refine lv_iload_n hx hb d_R_condition_139 rfl (lv_at hl 1 rfl) ?_
    refine lv_iconst (v := 3) hx hb d_R_condition_140 (by decide) ?_
    refine lv_iconst (v := 0) hx hb d_R_condition_141 (by decide) ?_
    refine gm_Vi (As := [.int (nI mn), .int (3 : Int32), .int (nI 0)]) (rest := []) hF hM (c_R_was (u := u) (mn := mn) (vn := (3 : Int32)) (an := 0) (by omega) (by omega)) (gk_R_69 hts ⟨by decide, by decide⟩) (gv_R hF hM rfl) rfl hl.1 rfl (Nat.le_of_ble_eq_true rfl) ⟨Nat.zero_le _, Nat.zero_le _⟩ d_R_condition_142 (fun H locs hM => ?_)
    have J11 : ∀ (ls : Array Slot) (H : Heap) (locs : List Loc), lv_has ls 3 [(0, .ref (a 0)), (1, .int (nI mn)), (2, .int (nI 9))] → gm_M D A s (gr_W dk a) u H locs → W p l e rm_R_condition s m args below meth c H locs 0 0 Q (F0 m 165 ls [.int (gm_b (if (v_R_was u mn (3 : Int32) 0) = true then (if (u.1 2 (6 * mn)) = true then false else true) else false))]) := by
      intro ls H locs hl hM
      have hq := hQ H locs 165 ls
      simp only [v_R_condition] at hq
      exact hq hM d_R_condition_165
    refine gm_ifz (b := (v_R_was u mn (3 : Int32) 0)) (tgt := 164) hx hb d_R_condition_145 rfl (fun h10 => ?_) (fun h10 => ?_)
    · refine lv_iconst (v := 0) hx hb d_R_condition_164 (by decide) ?_
      have hJ := J11
      try simp only [if_neg (gm_nf h10)] at hJ
      exact hJ ls H locs hl hM
    · refine lv_aload_n hx hb d_R_condition_148 rfl (lv_at hl 0 rfl) ?_
      refine gf_R_16 hF hM d_R_condition_149 ?_
      refine lv_bipush (v := 6) hx hb d_R_condition_152 (by decide) ?_
      refine lv_iload_n hx hb d_R_condition_154 rfl (lv_at hl 1 rfl) ?_
      refine lv_imul hx hb d_R_condition_155 ?_
      refine ga_value (k := (6 * mn)) hF hM (by first | rfl | (simp only [← nI_add, ← pk_mul] <;> rfl)) (by first | omega | exact Nat.mod_lt _ (by decide)) d_R_condition_156 ?_
      refine gm_ifn (b := (u.1 2 (6 * mn))) (tgt := 164) hx hb d_R_condition_157 rfl (fun h12 => ?_) (fun h12 => ?_)
      · refine lv_iconst (v := 0) hx hb d_R_condition_164 (by decide) ?_
        have hJ := J11
        try simp only [if_pos h10, if_pos h12] at hJ
        exact hJ ls H locs hl hM
      · refine lv_iconst (v := 1) hx hb d_R_condition_160 (by decide) ?_
        refine lv_goto (tgt := 165) hx hb d_R_condition_161 rfl ?_
        have hJ := J11
        try simp only [if_pos h10, if_neg (gm_nf h12)] at hJ
        exact hJ ls H locs hl hM
  · refine lv_tableIn (off := 165) (tgt := 166) hx hb d_R_condition_1 (by decide) (by decide) (by decide +kernel) rfl ?_
    refine lv_aload_n hx hb d_R_condition_166 rfl (lv_at hl 0 rfl) ?_
    refine lv_iload_n hx hb d_R_condition_167 rfl (lv_at hl 1 rfl) ?_
    refine lv_iconst (v := 4) hx hb d_R_condition_168 (by decide) ?_
    refine lv_iconst (v := 0) hx hb d_R_condition_169 (by decide) ?_
    refine gm_Vi (As := [.int (nI mn), .int (4 : Int32), .int (nI 0)]) (rest := []) hF hM (c_R_was (u := u) (mn := mn) (vn := (4 : Int32)) (an := 0) (by omega) (by omega)) (gk_R_69 hts ⟨by decide, by decide⟩) (gv_R hF hM rfl) rfl hl.1 rfl (Nat.le_of_ble_eq_true rfl) ⟨Nat.zero_le _, Nat.zero_le _⟩ d_R_condition_170 (fun H locs hM => ?_)
    have J14 : ∀ (ls : Array Slot) (H : Heap) (locs : List Loc), lv_has ls 3 [(0, .ref (a 0)), (1, .int (nI mn)), (2, .int (nI 10))] → gm_M D A s (gr_W dk a) u H locs → W p l e rm_R_condition s m args below meth c H locs 0 0 Q (F0 m 193 ls [.int (gm_b (if (v_R_was u mn (4 : Int32) 0) = true then (if (u.1 2 (6 * mn)) = true then true else false) else false))]) := by
      intro ls H locs hl hM
      have hq := hQ H locs 193 ls
      simp only [v_R_condition] at hq
      exact hq hM d_R_condition_193
    refine gm_ifz (b := (v_R_was u mn (4 : Int32) 0)) (tgt := 192) hx hb d_R_condition_173 rfl (fun h13 => ?_) (fun h13 => ?_)
    · refine lv_iconst (v := 0) hx hb d_R_condition_192 (by decide) ?_
      have hJ := J14
      try simp only [if_neg (gm_nf h13)] at hJ
      exact hJ ls H locs hl hM
    · refine lv_aload_n hx hb d_R_condition_176 rfl (lv_at hl 0 rfl) ?_
      refine gf_R_16 hF hM d_R_condition_177 ?_
      refine lv_bipush (v := 6) hx hb d_R_condition_180 (by decide) ?_
      refine lv_iload_n hx hb d_R_condition_182 rfl (lv_at hl 1 rfl) ?_
      refine lv_imul hx hb d_R_condition_183 ?_
      refine ga_value (k := (6 * mn)) hF hM (by first | rfl | (simp only [← nI_add, ← pk_mul] <;> rfl)) (by first | omega | exact Nat.mod_lt _ (by decide)) d_R_condition_184 ?_
      refine gm_ifz (b := (u.1 2 (6 * mn))) (tgt := 192) hx hb d_R_condition_185 rfl (fun h15 => ?_) (fun h15 => ?_)
      · refine lv_iconst (v := 0) hx hb d_R_condition_192 (by decide) ?_
        have hJ := J14
        try simp only [if_pos h13, if_neg (gm_nf h15)] at hJ
        exact hJ ls H locs hl hM
      · refine lv_iconst (v := 1) hx hb d_R_condition_188 (by decide) ?_
        refine lv_goto (tgt := 193) hx hb d_R_condition_189 rfl ?_
        have hJ := J14
        try simp only [if_pos h13, if_pos h15] at hJ
        exact hJ ls H locs hl hM
  · refine lv_tableIn (off := 193) (tgt := 194) hx hb d_R_condition_1 (by decide) (by decide) (by decide +kernel) rfl ?_
    refine lv_aload_n hx hb d_R_condition_194 rfl (lv_at hl 0 rfl) ?_
    refine lv_iload_n hx hb d_R_condition_195 rfl (lv_at hl 1 rfl) ?_
    refine lv_iconst (v := 4) hx hb d_R_condition_196 (by decide) ?_
    refine lv_iconst (v := 0) hx hb d_R_condition_197 (by decide) ?_
    refine gm_Vi (As := [.int (nI mn), .int (4 : Int32), .int (nI 0)]) (rest := []) hF hM (c_R_was (u := u) (mn := mn) (vn := (4 : Int32)) (an := 0) (by omega) (by omega)) (gk_R_69 hts ⟨by decide, by decide⟩) (gv_R hF hM rfl) rfl hl.1 rfl (Nat.le_of_ble_eq_true rfl) ⟨Nat.zero_le _, Nat.zero_le _⟩ d_R_condition_198 (fun H locs hM => ?_)
    have J17 : ∀ (ls : Array Slot) (H : Heap) (locs : List Loc), lv_has ls 3 [(0, .ref (a 0)), (1, .int (nI mn)), (2, .int (nI 11))] → gm_M D A s (gr_W dk a) u H locs → W p l e rm_R_condition s m args below meth c H locs 0 0 Q (F0 m 223 ls [.int (gm_b (if (v_R_was u mn (4 : Int32) 0) = true then (if (u.1 2 (6 * mn + 1)) = true then false else true) else false))]) := by
      intro ls H locs hl hM
      have hq := hQ H locs 223 ls
      simp only [v_R_condition] at hq
      exact hq hM d_R_condition_223
    refine gm_ifz (b := (v_R_was u mn (4 : Int32) 0)) (tgt := 222) hx hb d_R_condition_201 rfl (fun h16 => ?_) (fun h16 => ?_)
    · refine lv_iconst (v := 0) hx hb d_R_condition_222 (by decide) ?_
      have hJ := J17
      try simp only [if_neg (gm_nf h16)] at hJ
      exact hJ ls H locs hl hM
    · refine lv_aload_n hx hb d_R_condition_204 rfl (lv_at hl 0 rfl) ?_
      refine gf_R_16 hF hM d_R_condition_205 ?_
      refine lv_bipush (v := 6) hx hb d_R_condition_208 (by decide) ?_
      refine lv_iload_n hx hb d_R_condition_210 rfl (lv_at hl 1 rfl) ?_
      refine lv_imul hx hb d_R_condition_211 ?_
      refine lv_iconst (v := 1) hx hb d_R_condition_212 (by decide) ?_
      refine lv_iadd hx hb d_R_condition_213 ?_
      refine ga_value (k := (6 * mn + 1)) hF hM (by first | rfl | (simp only [← nI_add, ← pk_mul] <;> rfl)) (by first | omega | exact Nat.mod_lt _ (by decide)) d_R_condition_214 ?_
      refine gm_ifn (b := (u.1 2 (6 * mn + 1))) (tgt := 222) hx hb d_R_condition_215 rfl (fun h18 => ?_) (fun h18 => ?_)
      · refine lv_iconst (v := 0) hx hb d_R_condition_222 (by decide) ?_
        have hJ := J17
        try simp only [if_pos h16, if_pos h18] at hJ
        exact hJ ls H locs hl hM
      · refine lv_iconst (v := 1) hx hb d_R_condition_218 (by decide) ?_
        refine lv_goto (tgt := 223) hx hb d_R_condition_219 rfl ?_
        have hJ := J17
        try simp only [if_pos h16, if_neg (gm_nf h18)] at hJ
        exact hJ ls H locs hl hM
  · refine lv_tableIn (off := 223) (tgt := 224) hx hb d_R_condition_1 (by decide) (by decide) (by decide +kernel) rfl ?_
    refine lv_aload_n hx hb d_R_condition_224 rfl (lv_at hl 0 rfl) ?_
    refine lv_iload_n hx hb d_R_condition_225 rfl (lv_at hl 1 rfl) ?_
    refine lv_iconst (v := 0) hx hb d_R_condition_226 (by decide) ?_
    refine lv_iconst (v := 0) hx hb d_R_condition_227 (by decide) ?_
    refine gm_Vi (As := [.int (nI mn), .int (0 : Int32), .int (nI 0)]) (rest := []) hF hM (c_R_was (u := u) (mn := mn) (vn := (0 : Int32)) (an := 0) (by omega) (by omega)) (gk_R_69 hts ⟨by decide, by decide⟩) (gv_R hF hM rfl) rfl hl.1 rfl (Nat.le_of_ble_eq_true rfl) ⟨Nat.zero_le _, Nat.zero_le _⟩ d_R_condition_228 (fun H locs hM => ?_)
    have J20 : ∀ (ls : Array Slot) (H : Heap) (locs : List Loc), lv_has ls 3 [(0, .ref (a 0)), (1, .int (nI mn)), (2, .int (nI 12))] → gm_M D A s (gr_W dk a) u H locs → W p l e rm_R_condition s m args below meth c H locs 0 0 Q (F0 m 253 ls [.int (gm_b (if (v_R_was u mn (0 : Int32) 0) = true then (if (u.1 2 (6 * mn + 4)) = true then false else true) else false))]) := by
      intro ls H locs hl hM
      have hq := hQ H locs 253 ls
      simp only [v_R_condition] at hq
      exact hq hM d_R_condition_253
    refine gm_ifz (b := (v_R_was u mn (0 : Int32) 0)) (tgt := 252) hx hb d_R_condition_231 rfl (fun h19 => ?_) (fun h19 => ?_)
    · refine lv_iconst (v := 0) hx hb d_R_condition_252 (by decide) ?_
      have hJ := J20
      try simp only [if_neg (gm_nf h19)] at hJ
      exact hJ ls H locs hl hM
    · refine lv_aload_n hx hb d_R_condition_234 rfl (lv_at hl 0 rfl) ?_
      refine gf_R_16 hF hM d_R_condition_235 ?_
      refine lv_bipush (v := 6) hx hb d_R_condition_238 (by decide) ?_
      refine lv_iload_n hx hb d_R_condition_240 rfl (lv_at hl 1 rfl) ?_
      refine lv_imul hx hb d_R_condition_241 ?_
      refine lv_iconst (v := 4) hx hb d_R_condition_242 (by decide) ?_
      refine lv_iadd hx hb d_R_condition_243 ?_
      refine ga_value (k := (6 * mn + 4)) hF hM (by first | rfl | (simp only [← nI_add, ← pk_mul] <;> rfl)) (by first | omega | exact Nat.mod_lt _ (by decide)) d_R_condition_244 ?_
      refine gm_ifn (b := (u.1 2 (6 * mn + 4))) (tgt := 252) hx hb d_R_condition_245 rfl (fun h21 => ?_) (fun h21 => ?_)
      · refine lv_iconst (v := 0) hx hb d_R_condition_252 (by decide) ?_
        have hJ := J20
        try simp only [if_pos h19, if_pos h21] at hJ
        exact hJ ls H locs hl hM
      · refine lv_iconst (v := 1) hx hb d_R_condition_248 (by decide) ?_
        refine lv_goto (tgt := 253) hx hb d_R_condition_249 rfl ?_
        have hJ := J20
        try simp only [if_pos h19, if_neg (gm_nf h21)] at hJ
        exact hJ ls H locs hl hM
  · refine lv_tableIn (off := 253) (tgt := 254) hx hb d_R_condition_1 (by decide) (by decide) (by decide +kernel) rfl ?_
    refine lv_aload_n hx hb d_R_condition_254 rfl (lv_at hl 0 rfl) ?_
    refine lv_iload_n hx hb d_R_condition_255 rfl (lv_at hl 1 rfl) ?_
    refine lv_iconst (v := 0) hx hb d_R_condition_256 (by decide) ?_
    refine lv_iconst (v := 0) hx hb d_R_condition_257 (by decide) ?_
    refine gm_Vi (As := [.int (nI mn), .int (0 : Int32), .int (nI 0)]) (rest := []) hF hM (c_R_was (u := u) (mn := mn) (vn := (0 : Int32)) (an := 0) (by omega) (by omega)) (gk_R_69 hts ⟨by decide, by decide⟩) (gv_R hF hM rfl) rfl hl.1 rfl (Nat.le_of_ble_eq_true rfl) ⟨Nat.zero_le _, Nat.zero_le _⟩ d_R_condition_258 (fun H locs hM => ?_)
    have J23 : ∀ (ls : Array Slot) (H : Heap) (locs : List Loc), lv_has ls 3 [(0, .ref (a 0)), (1, .int (nI mn)), (2, .int (nI 13))] → gm_M D A s (gr_W dk a) u H locs → W p l e rm_R_condition s m args below meth c H locs 0 0 Q (F0 m 283 ls [.int (gm_b (if (v_R_was u mn (0 : Int32) 0) = true then false else (if (u.1 2 (6 * mn + 4)) = true then true else false)))]) := by
      intro ls H locs hl hM
      have hq := hQ H locs 283 ls
      simp only [v_R_condition] at hq
      exact hq hM d_R_condition_283
    refine gm_ifn (b := (v_R_was u mn (0 : Int32) 0)) (tgt := 282) hx hb d_R_condition_261 rfl (fun h22 => ?_) (fun h22 => ?_)
    · refine lv_iconst (v := 0) hx hb d_R_condition_282 (by decide) ?_
      have hJ := J23
      try simp only [if_pos h22] at hJ
      exact hJ ls H locs hl hM
    · refine lv_aload_n hx hb d_R_condition_264 rfl (lv_at hl 0 rfl) ?_
      refine gf_R_16 hF hM d_R_condition_265 ?_
      refine lv_bipush (v := 6) hx hb d_R_condition_268 (by decide) ?_
      refine lv_iload_n hx hb d_R_condition_270 rfl (lv_at hl 1 rfl) ?_
      refine lv_imul hx hb d_R_condition_271 ?_
      refine lv_iconst (v := 4) hx hb d_R_condition_272 (by decide) ?_
      refine lv_iadd hx hb d_R_condition_273 ?_
      refine ga_value (k := (6 * mn + 4)) hF hM (by first | rfl | (simp only [← nI_add, ← pk_mul] <;> rfl)) (by first | omega | exact Nat.mod_lt _ (by decide)) d_R_condition_274 ?_
      refine gm_ifz (b := (u.1 2 (6 * mn + 4))) (tgt := 282) hx hb d_R_condition_275 rfl (fun h24 => ?_) (fun h24 => ?_)
      · refine lv_iconst (v := 0) hx hb d_R_condition_282 (by decide) ?_
        have hJ := J23
        try simp only [if_neg (gm_nf h22), if_neg (gm_nf h24)] at hJ
        exact hJ ls H locs hl hM
      · refine lv_iconst (v := 1) hx hb d_R_condition_278 (by decide) ?_
        refine lv_goto (tgt := 283) hx hb d_R_condition_279 rfl ?_
        have hJ := J23
        try simp only [if_neg (gm_nf h22), if_pos h24] at hJ
        exact hJ ls H locs hl hM
  · refine lv_tableOut (tgt := 284) hx hb d_R_condition_1 (by decide) rfl ?_
    refine lv_aload_n hx hb d_R_condition_284 rfl (lv_at hl 0 rfl) ?_
    refine gf_R_16 hF hM d_R_condition_285 ?_
    refine lv_bipush (v := 6) hx hb d_R_condition_288 (by decide) ?_
    refine lv_iload_n hx hb d_R_condition_290 rfl (lv_at hl 1 rfl) ?_
    refine lv_imul hx hb d_R_condition_291 ?_
    refine lv_iconst (v := 5) hx hb d_R_condition_292 (by decide) ?_
    refine lv_iadd hx hb d_R_condition_293 ?_
    refine ga_value (k := (6 * mn + 5)) hF hM (by first | rfl | (simp only [← nI_add, ← pk_mul] <;> rfl)) (by first | omega | exact Nat.mod_lt _ (by decide)) d_R_condition_294 ?_
    have hq := hQ H locs 295 ls
    simp only [v_R_condition] at hq
    exact hq hM d_R_condition_295
  · refine lv_tableOut (tgt := 284) hx hb d_R_condition_1 (by decide) rfl ?_
    refine lv_aload_n hx hb d_R_condition_284 rfl (lv_at hl 0 rfl) ?_
    refine gf_R_16 hF hM d_R_condition_285 ?_
    refine lv_bipush (v := 6) hx hb d_R_condition_288 (by decide) ?_
    refine lv_iload_n hx hb d_R_condition_290 rfl (lv_at hl 1 rfl) ?_
    refine lv_imul hx hb d_R_condition_291 ?_
    refine lv_iconst (v := 5) hx hb d_R_condition_292 (by decide) ?_
    refine lv_iadd hx hb d_R_condition_293 ?_
    refine ga_value (k := (6 * mn + 5)) hF hM (by first | rfl | (simp only [← nI_add, ← pk_mul] <;> rfl)) (by first | omega | exact Nat.mod_lt _ (by decide)) d_R_condition_294 ?_
    have hq := hQ H locs 295 ls
    simp only [v_R_condition] at hq
    exact hq hM d_R_condition_295
theorem d_R_waiting_0 : decode b_R_waiting 0 = .ok (.aload_n 0, 1) := by decide +kernel
theorem d_R_waiting_1 : decode b_R_waiting 1 = .ok (.getfield 16, 3) := by decide +kernel
theorem d_R_waiting_4 : decode b_R_waiting 4 = .ok (.bipush 6, 2) := by decide +kernel
theorem d_R_waiting_6 : decode b_R_waiting 6 = .ok (.iload_n 1, 1) := by decide +kernel
theorem d_R_waiting_7 : decode b_R_waiting 7 = .ok (.imul, 1) := by decide +kernel
theorem d_R_waiting_8 : decode b_R_waiting 8 = .ok (.iconst 5, 1) := by decide +kernel
theorem d_R_waiting_9 : decode b_R_waiting 9 = .ok (.iadd, 1) := by decide +kernel
theorem d_R_waiting_10 : decode b_R_waiting 10 = .ok (.baload, 1) := by decide +kernel
theorem d_R_waiting_11 : decode b_R_waiting 11 = .ok (.ifCond .eq 20, 3) := by decide +kernel
theorem d_R_waiting_14 : decode b_R_waiting 14 = .ok (.aload_n 0, 1) := by decide +kernel
theorem d_R_waiting_15 : decode b_R_waiting 15 = .ok (.getfield 29, 3) := by decide +kernel
theorem d_R_waiting_18 : decode b_R_waiting 18 = .ok (.iload_n 1, 1) := by decide +kernel
theorem d_R_waiting_19 : decode b_R_waiting 19 = .ok (.iconst 0, 1) := by decide +kernel
theorem d_R_waiting_20 : decode b_R_waiting 20 = .ok (.bastore, 1) := by decide +kernel
theorem d_R_waiting_21 : decode b_R_waiting 21 = .ok (.aload_n 0, 1) := by decide +kernel
theorem d_R_waiting_22 : decode b_R_waiting 22 = .ok (.getfield 32, 3) := by decide +kernel
theorem d_R_waiting_25 : decode b_R_waiting 25 = .ok (.iload_n 1, 1) := by decide +kernel
theorem d_R_waiting_26 : decode b_R_waiting 26 = .ok (.iconst 0, 1) := by decide +kernel
theorem d_R_waiting_27 : decode b_R_waiting 27 = .ok (.iastore, 1) := by decide +kernel
theorem d_R_waiting_28 : decode b_R_waiting 28 = .ok (.goto 40, 3) := by decide +kernel
theorem d_R_waiting_31 : decode b_R_waiting 31 = .ok (.iload_n 2, 1) := by decide +kernel
theorem d_R_waiting_32 : decode b_R_waiting 32 = .ok (.bipush 10, 2) := by decide +kernel
theorem d_R_waiting_34 : decode b_R_waiting 34 = .ok (.if_icmp .ne 27, 3) := by decide +kernel
theorem d_R_waiting_37 : decode b_R_waiting 37 = .ok (.aload_n 0, 1) := by decide +kernel
theorem d_R_waiting_38 : decode b_R_waiting 38 = .ok (.getfield 29, 3) := by decide +kernel
theorem d_R_waiting_41 : decode b_R_waiting 41 = .ok (.iload_n 1, 1) := by decide +kernel
theorem d_R_waiting_42 : decode b_R_waiting 42 = .ok (.iconst 0, 1) := by decide +kernel
theorem d_R_waiting_43 : decode b_R_waiting 43 = .ok (.bastore, 1) := by decide +kernel
theorem d_R_waiting_44 : decode b_R_waiting 44 = .ok (.aload_n 0, 1) := by decide +kernel
theorem d_R_waiting_45 : decode b_R_waiting 45 = .ok (.getfield 32, 3) := by decide +kernel
theorem d_R_waiting_48 : decode b_R_waiting 48 = .ok (.iload_n 1, 1) := by decide +kernel
theorem d_R_waiting_49 : decode b_R_waiting 49 = .ok (.iconst 0, 1) := by decide +kernel
theorem d_R_waiting_50 : decode b_R_waiting 50 = .ok (.iastore, 1) := by decide +kernel
theorem d_R_waiting_51 : decode b_R_waiting 51 = .ok (.aload_n 0, 1) := by decide +kernel
theorem d_R_waiting_52 : decode b_R_waiting 52 = .ok (.iload_n 1, 1) := by decide +kernel
theorem d_R_waiting_53 : decode b_R_waiting 53 = .ok (.bipush 14, 2) := by decide +kernel
theorem d_R_waiting_55 : decode b_R_waiting 55 = .ok (.invokevirtual 58, 3) := by decide +kernel
theorem d_R_waiting_58 : decode b_R_waiting 58 = .ok (.goto 10, 3) := by decide +kernel
theorem d_R_waiting_61 : decode b_R_waiting 61 = .ok (.aload_n 0, 1) := by decide +kernel
theorem d_R_waiting_62 : decode b_R_waiting 62 = .ok (.getfield 32, 3) := by decide +kernel
theorem d_R_waiting_65 : decode b_R_waiting 65 = .ok (.iload_n 1, 1) := by decide +kernel
theorem d_R_waiting_66 : decode b_R_waiting 66 = .ok (.iload_n 2, 1) := by decide +kernel
theorem d_R_waiting_67 : decode b_R_waiting 67 = .ok (.iastore, 1) := by decide +kernel
theorem d_R_waiting_68 : decode b_R_waiting 68 = .ok (.return_, 1) := by decide +kernel
def s_R_waiting (u : gm_St) (mn : Nat) (tk : Int32) : gm_St := (if (u.1 2 (6 * mn + 5)) = true then (gm_sG (gm_sB u 5 mn false) 1 mn (0 : Int32)) else (if tk = (10 : Int32) then (s_R_gets (gm_sG (gm_sB u 5 mn false) 1 mn (0 : Int32)) mn 14) else (gm_sG u 1 mn tk)))
set_option maxRecDepth 100000 in
set_option maxHeartbeats 4000000 in
theorem c_R_waiting {l : Launch} {D : va_G} {dk : Nat → ClassId} {a : Nat → Nat} {A : Nat → Prop} {lt : Nat} {u : gm_St} {mn : Nat} {tk : Int32} (h_mn : mn < 2) (hp0 : u.2.2.1 0 + 1 ≤ 1073741824) : gm_V l D (gm_ty dk) (gr_W dk a) A lt y_R_waiting b_R_waiting 3 rm_R_waiting [.ref (a 0), .int (nI mn), .int tk] u (s_R_waiting u mn tk) := by
  refine gm_enterV (by decide) (Nat.le_of_ble_eq_true rfl) ?_
  intro p e s m args below meth c ls Q H locs hF hM hl hQ
  have hx := hF.1
  have hb := hF.2.1
  have hml := hF.2.2.1
  have hown := hF.2.2.2.1
  have hts := hF.2.2.2.2.1
  have hl : lv_has ls 3 [(0, .ref (a 0)), (1, .int (nI mn)), (2, .int tk)] := hl
  refine lv_aload_n hx hb d_R_waiting_0 rfl (lv_at hl 0 rfl) ?_
  refine gf_R_16 hF hM d_R_waiting_1 ?_
  refine lv_bipush (v := 6) hx hb d_R_waiting_4 (by decide) ?_
  refine lv_iload_n hx hb d_R_waiting_6 rfl (lv_at hl 1 rfl) ?_
  refine lv_imul hx hb d_R_waiting_7 ?_
  refine lv_iconst (v := 5) hx hb d_R_waiting_8 (by decide) ?_
  refine lv_iadd hx hb d_R_waiting_9 ?_
  refine ga_value (k := (6 * mn + 5)) hF hM (by first | rfl | (simp only [← nI_add, ← pk_mul] <;> rfl)) (by first | omega | exact Nat.mod_lt _ (by decide)) d_R_waiting_10 ?_
  have J2 : ∀ (ls : Array Slot) (H : Heap) (locs : List Loc), lv_has ls 3 [(0, .ref (a 0)), (1, .int (nI mn)), (2, .int tk)] → gm_M D A s (gr_W dk a) (if (u.1 2 (6 * mn + 5)) = true then (gm_sG (gm_sB u 5 mn false) 1 mn (0 : Int32)) else (if tk = (10 : Int32) then (s_R_gets (gm_sG (gm_sB u 5 mn false) 1 mn (0 : Int32)) mn 14) else (gm_sG u 1 mn tk))) H locs → W p l e rm_R_waiting s m args below meth c H locs 0 0 Q (F0 m 68 ls []) := by
    intro ls H locs hl hM
    have hq := hQ H locs 68 ls
    simp only [s_R_waiting] at hq
    exact hq hM d_R_waiting_68
  refine gm_ifz (b := (u.1 2 (6 * mn + 5))) (tgt := 31) hx hb d_R_waiting_11 rfl (fun h1 => ?_) (fun h1 => ?_)
  · refine lv_iload_n hx hb d_R_waiting_31 rfl (lv_at hl 2 rfl) ?_
    refine lv_bipush (v := 10) hx hb d_R_waiting_32 (by decide) ?_
    refine lv_icmp_ne (tgt := 61) hx hb d_R_waiting_34 rfl (fun h3 => ?_) (fun h3 => ?_)
    · refine lv_aload_n hx hb d_R_waiting_61 rfl (lv_at hl 0 rfl) ?_
      refine gf_R_32 hF hM d_R_waiting_62 ?_
      refine lv_iload_n hx hb d_R_waiting_65 rfl (lv_at hl 1 rfl) ?_
      refine lv_iload_n hx hb d_R_waiting_66 rfl (lv_at hl 2 rfl) ?_
      refine gq_waited (k := mn) hF hM rfl (by first | omega | exact Nat.mod_lt _ (by decide)) d_R_waiting_67 (fun H locs hM => ?_)
      have hJ := J2
      try simp only [if_neg (gm_nf h1), if_neg h3] at hJ
      exact hJ ls H locs hl hM
    · refine lv_aload_n hx hb d_R_waiting_37 rfl (lv_at hl 0 rfl) ?_
      refine gf_R_29 hF hM d_R_waiting_38 ?_
      refine lv_iload_n hx hb d_R_waiting_41 rfl (lv_at hl 1 rfl) ?_
      refine lv_iconst (v := 0) hx hb d_R_waiting_42 (by decide) ?_
      refine gq_waits (k := mn) hF hM rfl (by first | omega | exact Nat.mod_lt _ (by decide)) (v := false) rfl d_R_waiting_43 (fun H locs hM => ?_)
      refine lv_aload_n hx hb d_R_waiting_44 rfl (lv_at hl 0 rfl) ?_
      refine gf_R_32 hF hM d_R_waiting_45 ?_
      refine lv_iload_n hx hb d_R_waiting_48 rfl (lv_at hl 1 rfl) ?_
      refine lv_iconst (v := 0) hx hb d_R_waiting_49 (by decide) ?_
      refine gq_waited (k := mn) hF hM rfl (by first | omega | exact Nat.mod_lt _ (by decide)) d_R_waiting_50 (fun H locs hM => ?_)
      refine lv_aload_n hx hb d_R_waiting_51 rfl (lv_at hl 0 rfl) ?_
      refine lv_iload_n hx hb d_R_waiting_52 rfl (lv_at hl 1 rfl) ?_
      refine lv_bipush (v := 14) hx hb d_R_waiting_53 (by decide) ?_
      refine gm_Vv (As := [.int (nI mn), .int (nI 14)]) (rest := []) hF hM (c_R_gets (u := (gm_sG (gm_sB u 5 mn false) 1 mn (0 : Int32))) (mn := mn) (kn := 14) (by omega) (by omega) hp0) (gk_R_58 hts ⟨by decide, by decide⟩) (gv_R hF hM rfl) rfl hl.1 rfl (Nat.le_of_ble_eq_true rfl) ⟨Nat.zero_le _, Nat.zero_le _⟩ d_R_waiting_55 (fun H locs hM => ?_)
      refine lv_goto (tgt := 68) hx hb d_R_waiting_58 rfl ?_
      have hJ := J2
      try simp only [if_neg (gm_nf h1), if_pos h3] at hJ
      exact hJ ls H locs hl hM
  · refine lv_aload_n hx hb d_R_waiting_14 rfl (lv_at hl 0 rfl) ?_
    refine gf_R_29 hF hM d_R_waiting_15 ?_
    refine lv_iload_n hx hb d_R_waiting_18 rfl (lv_at hl 1 rfl) ?_
    refine lv_iconst (v := 0) hx hb d_R_waiting_19 (by decide) ?_
    refine gq_waits (k := mn) hF hM rfl (by first | omega | exact Nat.mod_lt _ (by decide)) (v := false) rfl d_R_waiting_20 (fun H locs hM => ?_)
    refine lv_aload_n hx hb d_R_waiting_21 rfl (lv_at hl 0 rfl) ?_
    refine gf_R_32 hF hM d_R_waiting_22 ?_
    refine lv_iload_n hx hb d_R_waiting_25 rfl (lv_at hl 1 rfl) ?_
    refine lv_iconst (v := 0) hx hb d_R_waiting_26 (by decide) ?_
    refine gq_waited (k := mn) hF hM rfl (by first | omega | exact Nat.mod_lt _ (by decide)) d_R_waiting_27 (fun H locs hM => ?_)
    refine lv_goto (tgt := 68) hx hb d_R_waiting_28 rfl ?_
    have hJ := J2
    try simp only [if_pos h1] at hJ
    exact hJ ls H locs hl hM
theorem gr_waiting_N {u : gm_St} {mn : Nat} {tk : Int32} : (s_R_waiting u mn tk).2.2.1 0 ≤ u.2.2.1 0 + 1 := by
  unfold s_R_waiting
  split
  · exact Nat.le_succ _
  · split
    · exact gr_gets_N
    · exact Nat.le_succ _
theorem d_R_watch_0 : decode b_R_watch 0 = .ok (.bipush 6, 2) := by decide +kernel
theorem d_R_watch_2 : decode b_R_watch 2 = .ok (.istore_n 2, 1) := by decide +kernel
theorem d_R_watch_3 : decode b_R_watch 3 = .ok (.iload_n 2, 1) := by decide +kernel
theorem d_R_watch_4 : decode b_R_watch 4 = .ok (.bipush 16, 2) := by decide +kernel
theorem d_R_watch_6 : decode b_R_watch 6 = .ok (.if_icmp .ge 108, 3) := by decide +kernel
theorem d_R_watch_9 : decode b_R_watch 9 = .ok (.iload_n 2, 1) := by decide +kernel
theorem d_R_watch_10 : decode b_R_watch 10 = .ok (.bipush 14, 2) := by decide +kernel
theorem d_R_watch_12 : decode b_R_watch 12 = .ok (.if_icmp .ne 28, 3) := by decide +kernel
theorem d_R_watch_15 : decode b_R_watch 15 = .ok (.aload_n 0, 1) := by decide +kernel
theorem d_R_watch_16 : decode b_R_watch 16 = .ok (.getfield 29, 3) := by decide +kernel
theorem d_R_watch_19 : decode b_R_watch 19 = .ok (.iload_n 1, 1) := by decide +kernel
theorem d_R_watch_20 : decode b_R_watch 20 = .ok (.baload, 1) := by decide +kernel
theorem d_R_watch_21 : decode b_R_watch 21 = .ok (.ifCond .eq 87, 3) := by decide +kernel
theorem d_R_watch_24 : decode b_R_watch 24 = .ok (.aload_n 0, 1) := by decide +kernel
theorem d_R_watch_25 : decode b_R_watch 25 = .ok (.iload_n 1, 1) := by decide +kernel
theorem d_R_watch_26 : decode b_R_watch 26 = .ok (.aload_n 0, 1) := by decide +kernel
theorem d_R_watch_27 : decode b_R_watch 27 = .ok (.getfield 32, 3) := by decide +kernel
theorem d_R_watch_30 : decode b_R_watch 30 = .ok (.iload_n 1, 1) := by decide +kernel
theorem d_R_watch_31 : decode b_R_watch 31 = .ok (.iaload, 1) := by decide +kernel
theorem d_R_watch_32 : decode b_R_watch 32 = .ok (.iconst 1, 1) := by decide +kernel
theorem d_R_watch_33 : decode b_R_watch 33 = .ok (.iadd, 1) := by decide +kernel
theorem d_R_watch_34 : decode b_R_watch 34 = .ok (.invokevirtual 87, 3) := by decide +kernel
theorem d_R_watch_37 : decode b_R_watch 37 = .ok (.goto 71, 3) := by decide +kernel
theorem d_R_watch_40 : decode b_R_watch 40 = .ok (.aload_n 0, 1) := by decide +kernel
theorem d_R_watch_41 : decode b_R_watch 41 = .ok (.iload_n 1, 1) := by decide +kernel
theorem d_R_watch_42 : decode b_R_watch 42 = .ok (.iload_n 2, 1) := by decide +kernel
theorem d_R_watch_43 : decode b_R_watch 43 = .ok (.invokevirtual 90, 3) := by decide +kernel
theorem d_R_watch_46 : decode b_R_watch 46 = .ok (.ifCond .eq 19, 3) := by decide +kernel
theorem d_R_watch_49 : decode b_R_watch 49 = .ok (.aload_n 0, 1) := by decide +kernel
theorem d_R_watch_50 : decode b_R_watch 50 = .ok (.getfield 25, 3) := by decide +kernel
theorem d_R_watch_53 : decode b_R_watch 53 = .ok (.bipush 16, 2) := by decide +kernel
theorem d_R_watch_55 : decode b_R_watch 55 = .ok (.iload_n 1, 1) := by decide +kernel
theorem d_R_watch_56 : decode b_R_watch 56 = .ok (.imul, 1) := by decide +kernel
theorem d_R_watch_57 : decode b_R_watch 57 = .ok (.iload_n 2, 1) := by decide +kernel
theorem d_R_watch_58 : decode b_R_watch 58 = .ok (.iadd, 1) := by decide +kernel
theorem d_R_watch_59 : decode b_R_watch 59 = .ok (.iaload, 1) := by decide +kernel
theorem d_R_watch_60 : decode b_R_watch 60 = .ok (.iconst 1, 1) := by decide +kernel
theorem d_R_watch_61 : decode b_R_watch 61 = .ok (.iadd, 1) := by decide +kernel
theorem d_R_watch_62 : decode b_R_watch 62 = .ok (.goto 4, 3) := by decide +kernel
theorem d_R_watch_65 : decode b_R_watch 65 = .ok (.iconst 0, 1) := by decide +kernel
theorem d_R_watch_66 : decode b_R_watch 66 = .ok (.istore_n 3, 1) := by decide +kernel
theorem d_R_watch_67 : decode b_R_watch 67 = .ok (.aload_n 0, 1) := by decide +kernel
theorem d_R_watch_68 : decode b_R_watch 68 = .ok (.getfield 25, 3) := by decide +kernel
theorem d_R_watch_71 : decode b_R_watch 71 = .ok (.bipush 16, 2) := by decide +kernel
theorem d_R_watch_73 : decode b_R_watch 73 = .ok (.iload_n 1, 1) := by decide +kernel
theorem d_R_watch_74 : decode b_R_watch 74 = .ok (.imul, 1) := by decide +kernel
theorem d_R_watch_75 : decode b_R_watch 75 = .ok (.iload_n 2, 1) := by decide +kernel
theorem d_R_watch_76 : decode b_R_watch 76 = .ok (.iadd, 1) := by decide +kernel
theorem d_R_watch_77 : decode b_R_watch 77 = .ok (.iload_n 3, 1) := by decide +kernel
theorem d_R_watch_78 : decode b_R_watch 78 = .ok (.iload_n 2, 1) := by decide +kernel
theorem d_R_watch_79 : decode b_R_watch 79 = .ok (.invokestatic 93, 3) := by decide +kernel
theorem d_R_watch_82 : decode b_R_watch 82 = .ok (.if_icmp .le 10, 3) := by decide +kernel
theorem d_R_watch_85 : decode b_R_watch 85 = .ok (.iload_n 2, 1) := by decide +kernel
theorem d_R_watch_86 : decode b_R_watch 86 = .ok (.invokestatic 93, 3) := by decide +kernel
theorem d_R_watch_89 : decode b_R_watch 89 = .ok (.goto 4, 3) := by decide +kernel
theorem d_R_watch_92 : decode b_R_watch 92 = .ok (.iload_n 3, 1) := by decide +kernel
theorem d_R_watch_93 : decode b_R_watch 93 = .ok (.iastore, 1) := by decide +kernel
theorem d_R_watch_94 : decode b_R_watch 94 = .ok (.iload_n 3, 1) := by decide +kernel
theorem d_R_watch_95 : decode b_R_watch 95 = .ok (.iload_n 2, 1) := by decide +kernel
theorem d_R_watch_96 : decode b_R_watch 96 = .ok (.invokestatic 93, 3) := by decide +kernel
theorem d_R_watch_99 : decode b_R_watch 99 = .ok (.if_icmp .lt 9, 3) := by decide +kernel
theorem d_R_watch_102 : decode b_R_watch 102 = .ok (.aload_n 0, 1) := by decide +kernel
theorem d_R_watch_103 : decode b_R_watch 103 = .ok (.iload_n 1, 1) := by decide +kernel
theorem d_R_watch_104 : decode b_R_watch 104 = .ok (.iload_n 2, 1) := by decide +kernel
theorem d_R_watch_105 : decode b_R_watch 105 = .ok (.invokevirtual 58, 3) := by decide +kernel
theorem d_R_watch_108 : decode b_R_watch 108 = .ok (.iinc 2 1, 3) := by decide +kernel
theorem d_R_watch_111 : decode b_R_watch 111 = .ok (.goto (-108), 3) := by decide +kernel
theorem d_R_watch_114 : decode b_R_watch 114 = .ok (.return_, 1) := by decide +kernel
def bd_R_watch (mn : Nat) (i : Nat) (u : gm_St) : gm_St := (if (nI i) = (14 : Int32) then (if (u.1 5 mn) = true then (s_R_waiting u mn ((u.2.1 1 mn) + (1 : Int32))) else u) else (if (if (v_R_condition u mn i) = true then ((u.2.1 0 (16 * mn + i)) + (1 : Int32)) else (0 : Int32)) < (v_R_limit (nI i)) then (gm_sG u 0 (16 * mn + i) (if (if (v_R_condition u mn i) = true then ((u.2.1 0 (16 * mn + i)) + (1 : Int32)) else (0 : Int32)) ≤ (v_R_limit (nI i)) then (if (v_R_condition u mn i) = true then ((u.2.1 0 (16 * mn + i)) + (1 : Int32)) else (0 : Int32)) else (v_R_limit (nI i)))) else (s_R_gets (gm_sG u 0 (16 * mn + i) (if (if (v_R_condition u mn i) = true then ((u.2.1 0 (16 * mn + i)) + (1 : Int32)) else (0 : Int32)) ≤ (v_R_limit (nI i)) then (if (v_R_condition u mn i) = true then ((u.2.1 0 (16 * mn + i)) + (1 : Int32)) else (0 : Int32)) else (v_R_limit (nI i)))) mn i)))
def lp_R_watch (mn : Nat) : Nat → Nat → gm_St → gm_St
  | 0, _, u => u
  | k + 1, i, u => lp_R_watch mn k (i + 1) (bd_R_watch mn i u)
def s_R_watch (u : gm_St) (mn : Nat) : gm_St := (lp_R_watch mn 10 6 u)
theorem gr_watch_N {mn i : Nat} {u : gm_St} : (bd_R_watch mn i u).2.2.1 0 ≤ u.2.2.1 0 + 1 := by
  unfold bd_R_watch
  split
  · split
    · exact gr_waiting_N
    · exact Nat.le_succ _
  · repeat' split
    all_goals first | exact Nat.le_succ _ | exact gr_gets_N
theorem gr_lpwatch_N {mn : Nat} : ∀ (k i : Nat) (u : gm_St), (lp_R_watch mn k i u).2.2.1 0 ≤ u.2.2.1 0 + k := by
  intro k
  induction k with
  | zero => intro i u; exact Nat.le_refl _
  | succ k ih => intro i u; simp only [lp_R_watch]; have h := ih (i + 1) (bd_R_watch mn i u); have h2 := gr_watch_N (mn := mn) (i := i) (u := u); omega
set_option maxRecDepth 100000 in
set_option maxHeartbeats 4000000 in
theorem c_R_watch {l : Launch} {D : va_G} {dk : Nat → ClassId} {a : Nat → Nat} {A : Nat → Prop} {lt : Nat} {u : gm_St} {mn : Nat} (h_mn : mn < 2) (hp0 : u.2.2.1 0 + 10 ≤ 1073741824) : gm_V l D (gm_ty dk) (gr_W dk a) A lt y_R_watch b_R_watch 4 rm_R_watch [.ref (a 0), .int (nI mn)] u (s_R_watch u mn) := by
  refine gm_enterV (by decide) (Nat.le_of_ble_eq_true rfl) ?_
  intro p e s m args below meth c ls Q H locs hF hM hl hQ
  have hx := hF.1
  have hb := hF.2.1
  have hml := hF.2.2.1
  have hown := hF.2.2.2.1
  have hts := hF.2.2.2.2.1
  have hl : lv_has ls 4 [(0, .ref (a 0)), (1, .int (nI mn))] := hl
  refine lv_bipush (v := 6) hx hb d_R_watch_0 (by decide) ?_
  refine lv_istore_n (lv' := [(2, .int (6 : Int32)), (0, .ref (a 0)), (1, .int (nI mn))]) hx hb d_R_watch_2 rfl hl (by decide) rfl (fun ls hl => ?_)
  have L1 : ∀ (k1 i1 : Nat) (w1 : gm_St) (ls : Array Slot) (H : Heap) (locs : List Loc), i1 + k1 = 16 → 6 ≤ i1 ∧ w1.2.2.1 0 + (16 - i1) ≤ 1073741824 → lv_has ls 4 [(2, .int (nI i1)), (0, .ref (a 0)), (1, .int (nI mn))] → gm_M D A s (gr_W dk a) w1 H locs → (∀ (ls : Array Slot) (H : Heap) (locs : List Loc), lv_has ls 4 [(2, .int (nI 16)), (0, .ref (a 0)), (1, .int (nI mn))] → gm_M D A s (gr_W dk a) (lp_R_watch mn k1 i1 w1) H locs → W p l e rm_R_watch s m args below meth c H locs 0 0 Q (F0 m 114 ls [])) → W p l e rm_R_watch s m args below meth c H locs 0 0 Q (F0 m 3 ls []) := by
    intro k1
    induction k1 with
    | zero =>
      intro i1 w1 ls H locs hk1 hI1 hl hM kk
      obtain rfl : i1 = 16 := by omega
      refine lv_iload_n hx hb d_R_watch_3 rfl (lv_at hl 0 rfl) ?_
      refine lv_bipush (v := 16) hx hb d_R_watch_4 (by decide) ?_
      refine lv_icmp_ge (tgt := 114) hx hb d_R_watch_6 rfl (fun _ => ?_) (fun h => absurd (by decide) h)
      exact kk ls H locs hl hM
    | succ k1 ih =>
      intro i1 w1 ls H locs hk1 hI1 hl hM kk
      refine lv_iload_n hx hb d_R_watch_3 rfl (lv_at hl 0 rfl) ?_
      refine lv_bipush (v := 16) hx hb d_R_watch_4 (by decide) ?_
      refine lv_icmp_ge (tgt := 114) hx hb d_R_watch_6 rfl (fun h => absurd h (nI_ge (a := i1) (b := 16) (by omega) (by first | decide | omega))) (fun _ => ?_)
      refine lv_iload_n hx hb d_R_watch_9 rfl (lv_at hl 0 rfl) ?_
      refine lv_bipush (v := 14) hx hb d_R_watch_10 (by decide) ?_
      have J3 : ∀ (ls : Array Slot) (H : Heap) (locs : List Loc), lv_has ls 4 [(0, .ref (a 0)), (1, .int (nI mn)), (2, .int (nI i1))] → gm_M D A s (gr_W dk a) (if (nI i1) = (14 : Int32) then (if (w1.1 5 mn) = true then (s_R_waiting w1 mn ((w1.2.1 1 mn) + (1 : Int32))) else w1) else (if (if (v_R_condition w1 mn i1) = true then ((w1.2.1 0 (16 * mn + i1)) + (1 : Int32)) else (0 : Int32)) < (v_R_limit (nI i1)) then (gm_sG w1 0 (16 * mn + i1) (if (if (v_R_condition w1 mn i1) = true then ((w1.2.1 0 (16 * mn + i1)) + (1 : Int32)) else (0 : Int32)) ≤ (v_R_limit (nI i1)) then (if (v_R_condition w1 mn i1) = true then ((w1.2.1 0 (16 * mn + i1)) + (1 : Int32)) else (0 : Int32)) else (v_R_limit (nI i1)))) else (s_R_gets (gm_sG w1 0 (16 * mn + i1) (if (if (v_R_condition w1 mn i1) = true then ((w1.2.1 0 (16 * mn + i1)) + (1 : Int32)) else (0 : Int32)) ≤ (v_R_limit (nI i1)) then (if (v_R_condition w1 mn i1) = true then ((w1.2.1 0 (16 * mn + i1)) + (1 : Int32)) else (0 : Int32)) else (v_R_limit (nI i1)))) mn i1))) H locs → W p l e rm_R_watch s m args below meth c H locs 0 0 Q (F0 m 108 ls []) := by
        intro ls H locs hl hM
        refine lv_iinc (k := 2) (v := (nI (i1 + 1))) (lv' := [(2, .int (nI (i1 + 1))), (0, .ref (a 0)), (1, .int (nI mn))]) hx hb d_R_watch_108 hl rfl (nI_1 _) (by decide) rfl (fun ls hl => ?_)
        refine lv_goto (tgt := 3) hx hb d_R_watch_111 rfl ?_
        have hK := kk
        simp only [lp_R_watch, bd_R_watch] at hK
        exact ih (i1 + 1) (if (nI i1) = (14 : Int32) then (if (w1.1 5 mn) = true then (s_R_waiting w1 mn ((w1.2.1 1 mn) + (1 : Int32))) else w1) else (if (if (v_R_condition w1 mn i1) = true then ((w1.2.1 0 (16 * mn + i1)) + (1 : Int32)) else (0 : Int32)) < (v_R_limit (nI i1)) then (gm_sG w1 0 (16 * mn + i1) (if (if (v_R_condition w1 mn i1) = true then ((w1.2.1 0 (16 * mn + i1)) + (1 : Int32)) else (0 : Int32)) ≤ (v_R_limit (nI i1)) then (if (v_R_condition w1 mn i1) = true then ((w1.2.1 0 (16 * mn + i1)) + (1 : Int32)) else (0 : Int32)) else (v_R_limit (nI i1)))) else (s_R_gets (gm_sG w1 0 (16 * mn + i1) (if (if (v_R_condition w1 mn i1) = true then ((w1.2.1 0 (16 * mn + i1)) + (1 : Int32)) else (0 : Int32)) ≤ (v_R_limit (nI i1)) then (if (v_R_condition w1 mn i1) = true then ((w1.2.1 0 (16 * mn + i1)) + (1 : Int32)) else (0 : Int32)) else (v_R_limit (nI i1)))) mn i1))) ls H locs (by omega) (by have hw := gr_watch_N (mn := mn) (i := i1) (u := w1); simp only [bd_R_watch] at hw; omega) hl hM hK
      refine lv_icmp_ne (tgt := 40) hx hb d_R_watch_12 rfl (fun h2 => ?_) (fun h2 => ?_)
      · refine lv_aload_n hx hb d_R_watch_40 rfl (lv_at hl 1 rfl) ?_
        refine lv_iload_n hx hb d_R_watch_41 rfl (lv_at hl 2 rfl) ?_
        refine lv_iload_n hx hb d_R_watch_42 rfl (lv_at hl 0 rfl) ?_
        refine gm_Vi (As := [.int (nI mn), .int (nI i1)]) (rest := []) hF hM (c_R_condition (u := w1) (mn := mn) (kn := i1) (by omega) (by omega)) (gk_R_90 hts ⟨by decide, by decide⟩) (gv_R hF hM rfl) rfl hl.1 rfl (Nat.le_of_ble_eq_true rfl) ⟨Nat.zero_le _, Nat.zero_le _⟩ d_R_watch_43 (fun H locs hM => ?_)
        have J5 : ∀ (ls : Array Slot) (H : Heap) (locs : List Loc), lv_has ls 4 [(0, .ref (a 0)), (1, .int (nI mn)), (2, .int (nI i1))] → gm_M D A s (gr_W dk a) w1 H locs → W p l e rm_R_watch s m args below meth c H locs 0 0 Q (F0 m 66 ls [.int (if (v_R_condition w1 mn i1) = true then ((w1.2.1 0 (16 * mn + i1)) + (1 : Int32)) else (0 : Int32))]) := by
          intro ls H locs hl hM
          refine lv_istore_n (lv' := [(3, .int (if (v_R_condition w1 mn i1) = true then ((w1.2.1 0 (16 * mn + i1)) + (1 : Int32)) else (0 : Int32))), (0, .ref (a 0)), (1, .int (nI mn)), (2, .int (nI i1))]) hx hb d_R_watch_66 rfl hl (by decide) rfl (fun ls hl => ?_)
          refine lv_aload_n hx hb d_R_watch_67 rfl (lv_at hl 1 rfl) ?_
          refine gf_R_25 hF hM d_R_watch_68 ?_
          refine lv_bipush (v := 16) hx hb d_R_watch_71 (by decide) ?_
          refine lv_iload_n hx hb d_R_watch_73 rfl (lv_at hl 2 rfl) ?_
          refine lv_imul hx hb d_R_watch_74 ?_
          refine lv_iload_n hx hb d_R_watch_75 rfl (lv_at hl 3 rfl) ?_
          refine lv_iadd hx hb d_R_watch_76 ?_
          refine lv_iload_n hx hb d_R_watch_77 rfl (lv_at hl 0 rfl) ?_
          refine lv_iload_n hx hb d_R_watch_78 rfl (lv_at hl 3 rfl) ?_
          refine gm_Si (As := [.int (nI i1)]) (rest := [.int (if (v_R_condition w1 mn i1) = true then ((w1.2.1 0 (16 * mn + i1)) + (1 : Int32)) else (0 : Int32)), .int (((16 : Int32) * (nI mn)) + (nI i1)), .ref (a 6)]) hF hM (c_R_limit (u := w1) (x := (nI i1)) ) (gk_R_93 hts ⟨by decide, by decide⟩) rfl hl.1 rfl (Nat.le_of_ble_eq_true rfl) ⟨Nat.zero_le _, Nat.zero_le _⟩ d_R_watch_79 (fun H locs hM => ?_)
          have J7 : ∀ (ls : Array Slot) (H : Heap) (locs : List Loc), lv_has ls 4 [(0, .ref (a 0)), (1, .int (nI mn)), (2, .int (nI i1)), (3, .int (if (v_R_condition w1 mn i1) = true then ((w1.2.1 0 (16 * mn + i1)) + (1 : Int32)) else (0 : Int32)))] → gm_M D A s (gr_W dk a) w1 H locs → W p l e rm_R_watch s m args below meth c H locs 0 0 Q (F0 m 93 ls [.int (if (if (v_R_condition w1 mn i1) = true then ((w1.2.1 0 (16 * mn + i1)) + (1 : Int32)) else (0 : Int32)) ≤ (v_R_limit (nI i1)) then (if (v_R_condition w1 mn i1) = true then ((w1.2.1 0 (16 * mn + i1)) + (1 : Int32)) else (0 : Int32)) else (v_R_limit (nI i1))), .int (((16 : Int32) * (nI mn)) + (nI i1)), .ref (a 6)]) := by
            intro ls H locs hl hM
            refine gq_held (k := (16 * mn + i1)) hF hM (by first | rfl | (simp only [← nI_add, ← pk_mul] <;> rfl)) (by first | omega | exact Nat.mod_lt _ (by decide)) d_R_watch_93 (fun H locs hM => ?_)
            refine lv_iload_n hx hb d_R_watch_94 rfl (lv_at hl 3 rfl) ?_
            refine lv_iload_n hx hb d_R_watch_95 rfl (lv_at hl 2 rfl) ?_
            refine gm_Si (As := [.int (nI i1)]) (rest := [.int (if (v_R_condition w1 mn i1) = true then ((w1.2.1 0 (16 * mn + i1)) + (1 : Int32)) else (0 : Int32))]) hF hM (c_R_limit (u := (gm_sG w1 0 (16 * mn + i1) (if (if (v_R_condition w1 mn i1) = true then ((w1.2.1 0 (16 * mn + i1)) + (1 : Int32)) else (0 : Int32)) ≤ (v_R_limit (nI i1)) then (if (v_R_condition w1 mn i1) = true then ((w1.2.1 0 (16 * mn + i1)) + (1 : Int32)) else (0 : Int32)) else (v_R_limit (nI i1))))) (x := (nI i1)) ) (gk_R_93 hts ⟨by decide, by decide⟩) rfl hl.1 rfl (Nat.le_of_ble_eq_true rfl) ⟨Nat.zero_le _, Nat.zero_le _⟩ d_R_watch_96 (fun H locs hM => ?_)
            refine lv_icmp_lt (tgt := 108) hx hb d_R_watch_99 rfl (fun h8 => ?_) (fun h8 => ?_)
            · have hJ := J3
              try simp only [if_neg h2, if_pos h8] at hJ
              exact hJ ls H locs (lv_sub hl [0, 1, 2] rfl) hM
            · refine lv_aload_n hx hb d_R_watch_102 rfl (lv_at hl 0 rfl) ?_
              refine lv_iload_n hx hb d_R_watch_103 rfl (lv_at hl 1 rfl) ?_
              refine lv_iload_n hx hb d_R_watch_104 rfl (lv_at hl 2 rfl) ?_
              refine gm_Vv (As := [.int (nI mn), .int (nI i1)]) (rest := []) hF hM (c_R_gets (u := (gm_sG w1 0 (16 * mn + i1) (if (if (v_R_condition w1 mn i1) = true then ((w1.2.1 0 (16 * mn + i1)) + (1 : Int32)) else (0 : Int32)) ≤ (v_R_limit (nI i1)) then (if (v_R_condition w1 mn i1) = true then ((w1.2.1 0 (16 * mn + i1)) + (1 : Int32)) else (0 : Int32)) else (v_R_limit (nI i1))))) (mn := mn) (kn := i1) (by omega) (by omega) (by show w1.2.2.1 0 + 1 ≤ 1073741824; omega)) (gk_R_58 hts ⟨by decide, by decide⟩) (gv_R hF hM rfl) rfl hl.1 rfl (Nat.le_of_ble_eq_true rfl) ⟨Nat.zero_le _, Nat.zero_le _⟩ d_R_watch_105 (fun H locs hM => ?_)
              have hJ := J3
              try simp only [if_neg h2, if_neg h8] at hJ
              exact hJ ls H locs (lv_sub hl [0, 1, 2] rfl) hM
          refine lv_icmp_le (tgt := 92) hx hb d_R_watch_82 rfl (fun h6 => ?_) (fun h6 => ?_)
          · refine lv_iload_n hx hb d_R_watch_92 rfl (lv_at hl 0 rfl) ?_
            have hJ := J7
            try simp only [if_pos h6] at hJ
            exact hJ ls H locs (lv_sub hl [1, 2, 3, 0] rfl) hM
          · refine lv_iload_n hx hb d_R_watch_85 rfl (lv_at hl 3 rfl) ?_
            refine gm_Si (As := [.int (nI i1)]) (rest := [.int (((16 : Int32) * (nI mn)) + (nI i1)), .ref (a 6)]) hF hM (c_R_limit (u := w1) (x := (nI i1)) ) (gk_R_93 hts ⟨by decide, by decide⟩) rfl hl.1 rfl (Nat.le_of_ble_eq_true rfl) ⟨Nat.zero_le _, Nat.zero_le _⟩ d_R_watch_86 (fun H locs hM => ?_)
            refine lv_goto (tgt := 93) hx hb d_R_watch_89 rfl ?_
            have hJ := J7
            try simp only [if_neg h6] at hJ
            exact hJ ls H locs (lv_sub hl [1, 2, 3, 0] rfl) hM
        refine gm_ifz (b := (v_R_condition w1 mn i1)) (tgt := 65) hx hb d_R_watch_46 rfl (fun h4 => ?_) (fun h4 => ?_)
        · refine lv_iconst (v := 0) hx hb d_R_watch_65 (by decide) ?_
          have hJ := J5
          try simp only [if_neg (gm_nf h4)] at hJ
          exact hJ ls H locs (lv_sub hl [1, 2, 0] rfl) hM
        · refine lv_aload_n hx hb d_R_watch_49 rfl (lv_at hl 1 rfl) ?_
          refine gf_R_25 hF hM d_R_watch_50 ?_
          refine lv_bipush (v := 16) hx hb d_R_watch_53 (by decide) ?_
          refine lv_iload_n hx hb d_R_watch_55 rfl (lv_at hl 2 rfl) ?_
          refine lv_imul hx hb d_R_watch_56 ?_
          refine lv_iload_n hx hb d_R_watch_57 rfl (lv_at hl 0 rfl) ?_
          refine lv_iadd hx hb d_R_watch_58 ?_
          refine ga_held (k := (16 * mn + i1)) hF hM (by first | rfl | (simp only [← nI_add, ← pk_mul] <;> rfl)) (by first | omega | exact Nat.mod_lt _ (by decide)) d_R_watch_59 ?_
          refine lv_iconst (v := 1) hx hb d_R_watch_60 (by decide) ?_
          refine lv_iadd hx hb d_R_watch_61 ?_
          refine lv_goto (tgt := 66) hx hb d_R_watch_62 rfl ?_
          have hJ := J5
          try simp only [if_pos h4] at hJ
          exact hJ ls H locs (lv_sub hl [1, 2, 0] rfl) hM
      · refine lv_aload_n hx hb d_R_watch_15 rfl (lv_at hl 1 rfl) ?_
        refine gf_R_29 hF hM d_R_watch_16 ?_
        refine lv_iload_n hx hb d_R_watch_19 rfl (lv_at hl 2 rfl) ?_
        refine ga_waits (k := mn) hF hM rfl (by first | omega | exact Nat.mod_lt _ (by decide)) d_R_watch_20 ?_
        refine gm_ifz (b := (w1.1 5 mn)) (tgt := 108) hx hb d_R_watch_21 rfl (fun h9 => ?_) (fun h9 => ?_)
        · have hJ := J3
          try simp only [if_pos h2, if_neg (gm_nf h9)] at hJ
          exact hJ ls H locs (lv_sub hl [1, 2, 0] rfl) hM
        · refine lv_aload_n hx hb d_R_watch_24 rfl (lv_at hl 1 rfl) ?_
          refine lv_iload_n hx hb d_R_watch_25 rfl (lv_at hl 2 rfl) ?_
          refine lv_aload_n hx hb d_R_watch_26 rfl (lv_at hl 1 rfl) ?_
          refine gf_R_32 hF hM d_R_watch_27 ?_
          refine lv_iload_n hx hb d_R_watch_30 rfl (lv_at hl 2 rfl) ?_
          refine ga_waited (k := mn) hF hM rfl (by first | omega | exact Nat.mod_lt _ (by decide)) d_R_watch_31 ?_
          refine lv_iconst (v := 1) hx hb d_R_watch_32 (by decide) ?_
          refine lv_iadd hx hb d_R_watch_33 ?_
          refine gm_Vv (As := [.int (nI mn), .int ((w1.2.1 1 mn) + (1 : Int32))]) (rest := []) hF hM (c_R_waiting (u := w1) (mn := mn) (tk := ((w1.2.1 1 mn) + (1 : Int32))) (by omega) (by omega)) (gk_R_87 hts ⟨by decide, by decide⟩) (gv_R hF hM rfl) rfl hl.1 rfl (Nat.le_of_ble_eq_true rfl) ⟨Nat.zero_le _, Nat.zero_le _⟩ d_R_watch_34 (fun H locs hM => ?_)
          refine lv_goto (tgt := 108) hx hb d_R_watch_37 rfl ?_
          have hJ := J3
          try simp only [if_pos h2, if_pos h9] at hJ
          exact hJ ls H locs (lv_sub hl [1, 2, 0] rfl) hM
  refine L1 10 6 u ls H locs (by omega) (by omega) hl hM (fun ls H locs hl hM => ?_)
  have hq := hQ H locs 114 ls
  simp only [s_R_watch] at hq
  exact hq hM d_R_watch_114
end
section
theorem d_R_step_0 : decode b_R_step 0 = .ok (.iconst 0, 1) := by decide +kernel
theorem d_R_step_1 : decode b_R_step 1 = .ok (.istore_n 2, 1) := by decide +kernel
theorem d_R_step_2 : decode b_R_step 2 = .ok (.iload_n 2, 1) := by decide +kernel
theorem d_R_step_3 : decode b_R_step 3 = .ok (.bipush 6, 2) := by decide +kernel
theorem d_R_step_5 : decode b_R_step 5 = .ok (.if_icmp .ge 15, 3) := by decide +kernel
theorem d_R_step_8 : decode b_R_step 8 = .ok (.aload_n 0, 1) := by decide +kernel
theorem d_R_step_9 : decode b_R_step 9 = .ok (.iload_n 1, 1) := by decide +kernel
theorem d_R_step_10 : decode b_R_step 10 = .ok (.iload_n 2, 1) := by decide +kernel
theorem d_R_step_11 : decode b_R_step 11 = .ok (.invokevirtual 96, 3) := by decide +kernel
theorem d_R_step_14 : decode b_R_step 14 = .ok (.iinc 2 1, 3) := by decide +kernel
theorem d_R_step_17 : decode b_R_step 17 = .ok (.goto (-15), 3) := by decide +kernel
theorem d_R_step_20 : decode b_R_step 20 = .ok (.aload_n 0, 1) := by decide +kernel
theorem d_R_step_21 : decode b_R_step 21 = .ok (.iload_n 1, 1) := by decide +kernel
theorem d_R_step_22 : decode b_R_step 22 = .ok (.invokevirtual 99, 3) := by decide +kernel
theorem d_R_step_25 : decode b_R_step 25 = .ok (.istore_n 2, 1) := by decide +kernel
theorem d_R_step_26 : decode b_R_step 26 = .ok (.bipush 10, 2) := by decide +kernel
theorem d_R_step_28 : decode b_R_step 28 = .ok (.istore_n 3, 1) := by decide +kernel
theorem d_R_step_29 : decode b_R_step 29 = .ok (.iload_n 3, 1) := by decide +kernel
theorem d_R_step_30 : decode b_R_step 30 = .ok (.ifCond .le 33, 3) := by decide +kernel
theorem d_R_step_33 : decode b_R_step 33 = .ok (.aload_n 0, 1) := by decide +kernel
theorem d_R_step_34 : decode b_R_step 34 = .ok (.getfield 35, 3) := by decide +kernel
theorem d_R_step_37 : decode b_R_step 37 = .ok (.bipush 11, 2) := by decide +kernel
theorem d_R_step_39 : decode b_R_step 39 = .ok (.iload_n 1, 1) := by decide +kernel
theorem d_R_step_40 : decode b_R_step 40 = .ok (.imul, 1) := by decide +kernel
theorem d_R_step_41 : decode b_R_step 41 = .ok (.iload_n 3, 1) := by decide +kernel
theorem d_R_step_42 : decode b_R_step 42 = .ok (.iadd, 1) := by decide +kernel
theorem d_R_step_43 : decode b_R_step 43 = .ok (.aload_n 0, 1) := by decide +kernel
theorem d_R_step_44 : decode b_R_step 44 = .ok (.getfield 35, 3) := by decide +kernel
theorem d_R_step_47 : decode b_R_step 47 = .ok (.bipush 11, 2) := by decide +kernel
theorem d_R_step_49 : decode b_R_step 49 = .ok (.iload_n 1, 1) := by decide +kernel
theorem d_R_step_50 : decode b_R_step 50 = .ok (.imul, 1) := by decide +kernel
theorem d_R_step_51 : decode b_R_step 51 = .ok (.iload_n 3, 1) := by decide +kernel
theorem d_R_step_52 : decode b_R_step 52 = .ok (.iadd, 1) := by decide +kernel
theorem d_R_step_53 : decode b_R_step 53 = .ok (.iconst 1, 1) := by decide +kernel
theorem d_R_step_54 : decode b_R_step 54 = .ok (.isub, 1) := by decide +kernel
theorem d_R_step_55 : decode b_R_step 55 = .ok (.iaload, 1) := by decide +kernel
theorem d_R_step_56 : decode b_R_step 56 = .ok (.iastore, 1) := by decide +kernel
theorem d_R_step_57 : decode b_R_step 57 = .ok (.iinc 3 (-1), 3) := by decide +kernel
theorem d_R_step_60 : decode b_R_step 60 = .ok (.goto (-31), 3) := by decide +kernel
theorem d_R_step_63 : decode b_R_step 63 = .ok (.aload_n 0, 1) := by decide +kernel
theorem d_R_step_64 : decode b_R_step 64 = .ok (.getfield 35, 3) := by decide +kernel
theorem d_R_step_67 : decode b_R_step 67 = .ok (.bipush 11, 2) := by decide +kernel
theorem d_R_step_69 : decode b_R_step 69 = .ok (.iload_n 1, 1) := by decide +kernel
theorem d_R_step_70 : decode b_R_step 70 = .ok (.imul, 1) := by decide +kernel
theorem d_R_step_71 : decode b_R_step 71 = .ok (.iload_n 2, 1) := by decide +kernel
theorem d_R_step_72 : decode b_R_step 72 = .ok (.iastore, 1) := by decide +kernel
theorem d_R_step_73 : decode b_R_step 73 = .ok (.aload_n 0, 1) := by decide +kernel
theorem d_R_step_74 : decode b_R_step 74 = .ok (.iload_n 1, 1) := by decide +kernel
theorem d_R_step_75 : decode b_R_step 75 = .ok (.invokevirtual 102, 3) := by decide +kernel
theorem d_R_step_78 : decode b_R_step 78 = .ok (.return_, 1) := by decide +kernel
def lp_R_step1 (mn : Nat) : Nat → Nat → gm_St → gm_St
  | 0, _, u => u
  | k + 1, i, u => lp_R_step1 mn k (i + 1) (s_R_vote u mn i)
def lp_R_shift (mn : Nat) : Nat → gm_St → gm_St
  | 0, u => u
  | k + 1, u => lp_R_shift mn k (gm_sG u 2 (11 * mn + (k + 1)) (u.2.1 2 (11 * mn + k)))
def s_R_step (u : gm_St) (mn : Nat) : gm_St := (s_R_watch (gm_sG (lp_R_shift mn 10 (lp_R_step1 mn 6 0 u)) 2 (11 * mn) (v_R_valvesNow (lp_R_step1 mn 6 0 u) mn)) mn)
theorem gr_shift_N {mn : Nat} : ∀ (k : Nat) (u : gm_St), (lp_R_shift mn k u).2.2.1 = u.2.2.1 := by
  intro k
  induction k with
  | zero => intro u; rfl
  | succ k ih => intro u; simp only [lp_R_shift]; rw [ih]; rfl
theorem gr_step1_N {mn : Nat} : ∀ (k i : Nat) (u : gm_St), (lp_R_step1 mn k i u).2.2.1 0 ≤ u.2.2.1 0 + k := by
  intro k
  induction k with
  | zero => intro i u; exact Nat.le_refl _
  | succ k ih => intro i u; simp only [lp_R_step1]; have h := ih (i + 1) (s_R_vote u mn i); have h2 := gr_vote_N (mn := mn) (sn := i) (u := u); omega
theorem gr_step_N {mn : Nat} {u : gm_St} : (s_R_step u mn).2.2.1 0 ≤ u.2.2.1 0 + 16 := by
  unfold s_R_step s_R_watch
  refine Nat.le_trans (gr_lpwatch_N 10 6 _) ?_
  show (lp_R_shift mn 10 (lp_R_step1 mn 6 0 u)).2.2.1 0 + 10 ≤ _
  rw [gr_shift_N]
  have hw := gr_step1_N (mn := mn) 6 0 u
  omega
set_option maxRecDepth 100000 in
set_option maxHeartbeats 4000000 in
theorem c_R_step {l : Launch} {D : va_G} {dk : Nat → ClassId} {a : Nat → Nat} {A : Nat → Prop} {lt : Nat} {u : gm_St} {mn : Nat} (h_mn : mn < 2) (hp0 : u.2.2.1 0 + 16 ≤ 1073741824) : gm_V l D (gm_ty dk) (gr_W dk a) A lt y_R_step b_R_step 4 rm_R_step [.ref (a 0), .int (nI mn)] u (s_R_step u mn) := by
  refine gm_enterV (by decide) (Nat.le_of_ble_eq_true rfl) ?_
  intro p e s m args below meth c ls Q H locs hF hM hl hQ
  have hx := hF.1
  have hb := hF.2.1
  have hml := hF.2.2.1
  have hown := hF.2.2.2.1
  have hts := hF.2.2.2.2.1
  have hl : lv_has ls 4 [(0, .ref (a 0)), (1, .int (nI mn))] := hl
  refine lv_iconst (v := 0) hx hb d_R_step_0 (by decide) ?_
  refine lv_istore_n (lv' := [(2, .int (0 : Int32)), (0, .ref (a 0)), (1, .int (nI mn))]) hx hb d_R_step_1 rfl hl (by decide) rfl (fun ls hl => ?_)
  have L1 : ∀ (k1 i1 : Nat) (w1 : gm_St) (ls : Array Slot) (H : Heap) (locs : List Loc), i1 + k1 = 6 → w1.2.2.1 0 + (6 - i1) + 10 ≤ 1073741824 → lv_has ls 4 [(2, .int (nI i1)), (0, .ref (a 0)), (1, .int (nI mn))] → gm_M D A s (gr_W dk a) w1 H locs → (∀ (ls : Array Slot) (H : Heap) (locs : List Loc), lv_has ls 4 [(2, .int (nI 6)), (0, .ref (a 0)), (1, .int (nI mn))] → gm_M D A s (gr_W dk a) (lp_R_step1 mn k1 i1 w1) H locs → W p l e rm_R_step s m args below meth c H locs 0 0 Q (F0 m 20 ls [])) → W p l e rm_R_step s m args below meth c H locs 0 0 Q (F0 m 2 ls []) := by
    intro k1
    induction k1 with
    | zero =>
      intro i1 w1 ls H locs hk1 hI1 hl hM kk
      obtain rfl : i1 = 6 := by omega
      refine lv_iload_n hx hb d_R_step_2 rfl (lv_at hl 0 rfl) ?_
      refine lv_bipush (v := 6) hx hb d_R_step_3 (by decide) ?_
      refine lv_icmp_ge (tgt := 20) hx hb d_R_step_5 rfl (fun _ => ?_) (fun h => absurd (by decide) h)
      exact kk ls H locs hl hM
    | succ k1 ih =>
      intro i1 w1 ls H locs hk1 hI1 hl hM kk
      refine lv_iload_n hx hb d_R_step_2 rfl (lv_at hl 0 rfl) ?_
      refine lv_bipush (v := 6) hx hb d_R_step_3 (by decide) ?_
      refine lv_icmp_ge (tgt := 20) hx hb d_R_step_5 rfl (fun h => absurd h (nI_ge (a := i1) (b := 6) (by omega) (by first | decide | omega))) (fun _ => ?_)
      refine lv_aload_n hx hb d_R_step_8 rfl (lv_at hl 1 rfl) ?_
      refine lv_iload_n hx hb d_R_step_9 rfl (lv_at hl 2 rfl) ?_
      refine lv_iload_n hx hb d_R_step_10 rfl (lv_at hl 0 rfl) ?_
      refine gm_Vv (As := [.int (nI mn), .int (nI i1)]) (rest := []) hF hM (c_R_vote (u := w1) (mn := mn) (sn := i1) (by omega) (by omega) (by omega)) (gk_R_96 hts ⟨by decide, by decide⟩) (gv_R hF hM rfl) rfl hl.1 rfl (Nat.le_of_ble_eq_true rfl) ⟨Nat.zero_le _, Nat.zero_le _⟩ d_R_step_11 (fun H locs hM => ?_)
      refine lv_iinc (k := 0) (v := (nI (i1 + 1))) (lv' := [(2, .int (nI (i1 + 1))), (0, .ref (a 0)), (1, .int (nI mn))]) hx hb d_R_step_14 hl rfl (nI_1 _) (by decide) rfl (fun ls hl => ?_)
      refine lv_goto (tgt := 2) hx hb d_R_step_17 rfl ?_
      have hK := kk
      simp only [lp_R_step1] at hK
      exact ih (i1 + 1) (s_R_vote w1 mn i1) ls H locs (by omega) (by have hw := gr_vote_N (mn := mn) (sn := i1) (u := w1); omega) hl hM hK
  refine L1 6 0 u ls H locs (by omega) (by omega) hl hM (fun ls H locs hl hM => ?_)
  refine lv_aload_n hx hb d_R_step_20 rfl (lv_at hl 1 rfl) ?_
  refine lv_iload_n hx hb d_R_step_21 rfl (lv_at hl 2 rfl) ?_
  refine gm_Vi (As := [.int (nI mn)]) (rest := []) hF hM (c_R_valvesNow (u := (lp_R_step1 mn 6 0 u)) (mn := mn) (by omega)) (gk_R_99 hts ⟨by decide, by decide⟩) (gv_R hF hM rfl) rfl hl.1 rfl (Nat.le_of_ble_eq_true rfl) ⟨Nat.zero_le _, Nat.zero_le _⟩ d_R_step_22 (fun H locs hM => ?_)
  refine lv_istore_n (lv' := [(2, .int (v_R_valvesNow (lp_R_step1 mn 6 0 u) mn)), (0, .ref (a 0)), (1, .int (nI mn))]) hx hb d_R_step_25 rfl hl (by decide) rfl (fun ls hl => ?_)
  refine lv_bipush (v := 10) hx hb d_R_step_26 (by decide) ?_
  refine lv_istore_n (lv' := [(3, .int (10 : Int32)), (2, .int (v_R_valvesNow (lp_R_step1 mn 6 0 u) mn)), (0, .ref (a 0)), (1, .int (nI mn))]) hx hb d_R_step_28 rfl hl (by decide) rfl (fun ls hl => ?_)
  have L2 : ∀ (k2 : Nat) (w2 : gm_St) (ls : Array Slot) (H : Heap) (locs : List Loc), k2 ≤ 10 → lv_has ls 4 [(3, .int (nI k2)), (2, .int (v_R_valvesNow (lp_R_step1 mn 6 0 u) mn)), (0, .ref (a 0)), (1, .int (nI mn))] → gm_M D A s (gr_W dk a) w2 H locs → (∀ (ls : Array Slot) (H : Heap) (locs : List Loc), lv_has ls 4 [(3, .int (nI 0)), (2, .int (v_R_valvesNow (lp_R_step1 mn 6 0 u) mn)), (0, .ref (a 0)), (1, .int (nI mn))] → gm_M D A s (gr_W dk a) (lp_R_shift mn k2 w2) H locs → W p l e rm_R_step s m args below meth c H locs 0 0 Q (F0 m 63 ls [])) → W p l e rm_R_step s m args below meth c H locs 0 0 Q (F0 m 29 ls []) := by
    intro k2
    induction k2 with
    | zero =>
      intro w2 ls H locs hk hl hM kk
      refine lv_iload_n hx hb d_R_step_29 rfl (lv_at hl 0 rfl) ?_
      refine lv_if_le (tgt := 63) hx hb d_R_step_30 rfl (fun _ => ?_) (fun h => absurd (by decide) h)
      exact kk ls H locs hl hM
    | succ k2 ih =>
      intro w2 ls H locs hk hl hM kk
      refine lv_iload_n hx hb d_R_step_29 rfl (lv_at hl 0 rfl) ?_
      refine lv_if_le (tgt := 63) hx hb d_R_step_30 rfl (fun h => absurd h (nI_nle (Nat.succ_pos _) (by omega))) (fun _ => ?_)
      refine lv_aload_n hx hb d_R_step_33 rfl (lv_at hl 2 rfl) ?_
      refine gf_R_35 hF hM d_R_step_34 ?_
      refine lv_bipush (v := 11) hx hb d_R_step_37 (by decide) ?_
      refine lv_iload_n hx hb d_R_step_39 rfl (lv_at hl 3 rfl) ?_
      refine lv_imul hx hb d_R_step_40 ?_
      refine lv_iload_n hx hb d_R_step_41 rfl (lv_at hl 0 rfl) ?_
      refine lv_iadd hx hb d_R_step_42 ?_
      refine lv_aload_n hx hb d_R_step_43 rfl (lv_at hl 2 rfl) ?_
      refine gf_R_35 hF hM d_R_step_44 ?_
      refine lv_bipush (v := 11) hx hb d_R_step_47 (by decide) ?_
      refine lv_iload_n hx hb d_R_step_49 rfl (lv_at hl 3 rfl) ?_
      refine lv_imul hx hb d_R_step_50 ?_
      refine lv_iload_n hx hb d_R_step_51 rfl (lv_at hl 0 rfl) ?_
      refine lv_iadd hx hb d_R_step_52 ?_
      refine lv_iconst (v := 1) hx hb d_R_step_53 (by decide) ?_
      refine lv_isub hx hb d_R_step_54 ?_
      refine gm_tp (y := (nI (11 * mn + k2))) (gr_pred (n := 11 * mn + k2) (show _ = nI (11 * mn + (k2 + 1)) from by first | rfl | (simp only [← nI_add, ← pk_mul] <;> rfl))) ?_
      refine ga_past (k := (11 * mn + k2)) hF hM rfl (by first | omega | exact Nat.mod_lt _ (by decide)) d_R_step_55 ?_
      refine gq_past (k := (11 * mn + (k2 + 1))) hF hM (by first | rfl | (simp only [← nI_add, ← pk_mul] <;> rfl)) (by first | omega | exact Nat.mod_lt _ (by decide)) d_R_step_56 (fun H locs hM => ?_)
      refine lv_iinc (k := 0) (v := (nI k2)) (lv' := [(3, .int (nI k2)), (2, .int (v_R_valvesNow (lp_R_step1 mn 6 0 u) mn)), (0, .ref (a 0)), (1, .int (nI mn))]) hx hb d_R_step_57 hl rfl (pk_m1 _) (by decide) rfl (fun ls hl => ?_)
      refine lv_goto (tgt := 29) hx hb d_R_step_60 rfl ?_
      exact ih (gm_sG w2 2 (11 * mn + (k2 + 1)) (w2.2.1 2 (11 * mn + k2))) ls H locs (by omega) hl hM kk
  refine L2 10 (lp_R_step1 mn 6 0 u) ls H locs (by decide) hl hM (fun ls H locs hl hM => ?_)
  refine lv_aload_n hx hb d_R_step_63 rfl (lv_at hl 2 rfl) ?_
  refine gf_R_35 hF hM d_R_step_64 ?_
  refine lv_bipush (v := 11) hx hb d_R_step_67 (by decide) ?_
  refine lv_iload_n hx hb d_R_step_69 rfl (lv_at hl 3 rfl) ?_
  refine lv_imul hx hb d_R_step_70 ?_
  refine lv_iload_n hx hb d_R_step_71 rfl (lv_at hl 1 rfl) ?_
  refine gq_past (k := (11 * mn)) hF hM (by first | rfl | (simp only [← nI_add, ← pk_mul] <;> rfl)) (by first | omega | exact Nat.mod_lt _ (by decide)) d_R_step_72 (fun H locs hM => ?_)
  refine lv_aload_n hx hb d_R_step_73 rfl (lv_at hl 2 rfl) ?_
  refine lv_iload_n hx hb d_R_step_74 rfl (lv_at hl 3 rfl) ?_
  refine gm_Vv (As := [.int (nI mn)]) (rest := []) hF hM (c_R_watch (u := (gm_sG (lp_R_shift mn 10 (lp_R_step1 mn 6 0 u)) 2 (11 * mn) (v_R_valvesNow (lp_R_step1 mn 6 0 u) mn))) (mn := mn) (by omega) (by show (lp_R_shift mn 10 (lp_R_step1 mn 6 0 u)).2.2.1 0 + 10 ≤ 1073741824; rw [gr_shift_N]; have hw := gr_step1_N (mn := mn) 6 0 u; omega)) (gk_R_102 hts ⟨by decide, by decide⟩) (gv_R hF hM rfl) rfl hl.1 rfl (Nat.le_of_ble_eq_true rfl) ⟨Nat.zero_le _, Nat.zero_le _⟩ d_R_step_75 (fun H locs hM => ?_)
  have hq := hQ H locs 78 ls
  simp only [s_R_step] at hq
  exact hq hM d_R_step_78
theorem d_R_tick_0 : decode b_R_tick 0 = .ok (.iload_n 2, 1) := by decide +kernel
theorem d_R_tick_1 : decode b_R_tick 1 = .ok (.iconst 1, 1) := by decide +kernel
theorem d_R_tick_2 : decode b_R_tick 2 = .ok (.if_icmp .lt 9, 3) := by decide +kernel
theorem d_R_tick_5 : decode b_R_tick 5 = .ok (.iload_n 2, 1) := by decide +kernel
theorem d_R_tick_6 : decode b_R_tick 6 = .ok (.bipush 100, 2) := by decide +kernel
theorem d_R_tick_8 : decode b_R_tick 8 = .ok (.if_icmp .le 5, 3) := by decide +kernel
theorem d_R_tick_11 : decode b_R_tick 11 = .ok (.iconst (-1), 1) := by decide +kernel
theorem d_R_tick_12 : decode b_R_tick 12 = .ok (.ireturn, 1) := by decide +kernel
theorem d_R_tick_13 : decode b_R_tick 13 = .ok (.aload_n 0, 1) := by decide +kernel
theorem d_R_tick_14 : decode b_R_tick 14 = .ok (.iload_n 1, 1) := by decide +kernel
theorem d_R_tick_15 : decode b_R_tick 15 = .ok (.putfield 46, 3) := by decide +kernel
theorem d_R_tick_18 : decode b_R_tick 18 = .ok (.iconst 0, 1) := by decide +kernel
theorem d_R_tick_19 : decode b_R_tick 19 = .ok (.istore_n 3, 1) := by decide +kernel
theorem d_R_tick_20 : decode b_R_tick 20 = .ok (.iload_n 3, 1) := by decide +kernel
theorem d_R_tick_21 : decode b_R_tick 21 = .ok (.iload_n 2, 1) := by decide +kernel
theorem d_R_tick_22 : decode b_R_tick 22 = .ok (.if_icmp .ge 50, 3) := by decide +kernel
theorem d_R_tick_25 : decode b_R_tick 25 = .ok (.aload_n 0, 1) := by decide +kernel
theorem d_R_tick_26 : decode b_R_tick 26 = .ok (.dup, 1) := by decide +kernel
theorem d_R_tick_27 : decode b_R_tick 27 = .ok (.getfield 80, 3) := by decide +kernel
theorem d_R_tick_30 : decode b_R_tick 30 = .ok (.iconst 1, 1) := by decide +kernel
theorem d_R_tick_31 : decode b_R_tick 31 = .ok (.iadd, 1) := by decide +kernel
theorem d_R_tick_32 : decode b_R_tick 32 = .ok (.putfield 80, 3) := by decide +kernel
theorem d_R_tick_35 : decode b_R_tick 35 = .ok (.iconst 0, 1) := by decide +kernel
theorem d_R_tick_36 : decode b_R_tick 36 = .ok (.istore 4, 2) := by decide +kernel
theorem d_R_tick_38 : decode b_R_tick 38 = .ok (.iload 4, 2) := by decide +kernel
theorem d_R_tick_40 : decode b_R_tick 40 = .ok (.iconst 2, 1) := by decide +kernel
theorem d_R_tick_41 : decode b_R_tick 41 = .ok (.if_icmp .ge 25, 3) := by decide +kernel
theorem d_R_tick_44 : decode b_R_tick 44 = .ok (.aload_n 0, 1) := by decide +kernel
theorem d_R_tick_45 : decode b_R_tick 45 = .ok (.getfield 7, 3) := by decide +kernel
theorem d_R_tick_48 : decode b_R_tick 48 = .ok (.iload 4, 2) := by decide +kernel
theorem d_R_tick_50 : decode b_R_tick 50 = .ok (.baload, 1) := by decide +kernel
theorem d_R_tick_51 : decode b_R_tick 51 = .ok (.ifCond .ne 9, 3) := by decide +kernel
theorem d_R_tick_54 : decode b_R_tick 54 = .ok (.aload_n 0, 1) := by decide +kernel
theorem d_R_tick_55 : decode b_R_tick 55 = .ok (.iload 4, 2) := by decide +kernel
theorem d_R_tick_57 : decode b_R_tick 57 = .ok (.invokevirtual 106, 3) := by decide +kernel
theorem d_R_tick_60 : decode b_R_tick 60 = .ok (.iinc 4 1, 3) := by decide +kernel
theorem d_R_tick_63 : decode b_R_tick 63 = .ok (.goto (-25), 3) := by decide +kernel
theorem d_R_tick_66 : decode b_R_tick 66 = .ok (.iinc 3 1, 3) := by decide +kernel
theorem d_R_tick_69 : decode b_R_tick 69 = .ok (.goto (-49), 3) := by decide +kernel
theorem d_R_tick_72 : decode b_R_tick 72 = .ok (.aload_n 0, 1) := by decide +kernel
theorem d_R_tick_73 : decode b_R_tick 73 = .ok (.getfield 80, 3) := by decide +kernel
theorem d_R_tick_76 : decode b_R_tick 76 = .ok (.ireturn, 1) := by decide +kernel
def bd_R_tick2 (i : Nat) (u : gm_St) : gm_St := (if (u.1 0 i) = true then u else (s_R_step u i))
def lp_R_tick2 : Nat → Nat → gm_St → gm_St
  | 0, _, u => u
  | k + 1, i, u => lp_R_tick2 k (i + 1) (bd_R_tick2 i u)
def lp_R_tick : Nat → Nat → gm_St → gm_St
  | 0, _, u => u
  | k + 1, i, u => lp_R_tick k (i + 1) (lp_R_tick2 2 0 (gm_sG u 3 0 ((u.2.1 3 0) + (1 : Int32))))
def v_R_tick (u : gm_St) (ch : Int32) (xn : Int32) : Int32 := (if xn < (1 : Int32) then (-1 : Int32) else (if xn ≤ (100 : Int32) then ((lp_R_tick xn.toNatClampNeg 0 (gm_sG u 3 1 ch)).2.1 3 0) else (-1 : Int32)))
def s_R_tick (u : gm_St) (ch : Int32) (xn : Int32) : gm_St := (if xn < (1 : Int32) then u else (if xn ≤ (100 : Int32) then (lp_R_tick xn.toNatClampNeg 0 (gm_sG u 3 1 ch)) else u))
theorem gr_tick2_N {i : Nat} {u : gm_St} : (bd_R_tick2 i u).2.2.1 0 ≤ u.2.2.1 0 + 16 := by
  unfold bd_R_tick2
  split
  · exact Nat.le_add_right _ _
  · exact gr_step_N
theorem gr_lptick2_N : ∀ (k i : Nat) (u : gm_St), (lp_R_tick2 k i u).2.2.1 0 ≤ u.2.2.1 0 + 16 * k := by
  intro k
  induction k with
  | zero => intro i u; exact Nat.le_refl _
  | succ k ih => intro i u; simp only [lp_R_tick2]; have h := ih (i + 1) (bd_R_tick2 i u); have h2 := gr_tick2_N (i := i) (u := u); omega
theorem gr_lptick2_N2 {u : gm_St} {x : Int32} : (lp_R_tick2 2 0 (gm_sG u 3 0 x)).2.2.1 0 ≤ u.2.2.1 0 + 32 := gr_lptick2_N 2 0 (gm_sG u 3 0 x)
theorem gr_lptick_N : ∀ (k i : Nat) (u : gm_St), (lp_R_tick k i u).2.2.1 0 ≤ u.2.2.1 0 + 32 * k := by
  intro k
  induction k with
  | zero => intro i u; exact Nat.le_refl _
  | succ k ih => intro i u; simp only [lp_R_tick]; have h := ih (i + 1) (lp_R_tick2 2 0 (gm_sG u 3 0 ((u.2.1 3 0) + (1 : Int32)))); have h2 := gr_lptick2_N2 (u := u) (x := ((u.2.1 3 0) + (1 : Int32))); omega
set_option maxRecDepth 100000 in
set_option maxHeartbeats 4000000 in
theorem c_R_tick {l : Launch} {D : va_G} {dk : Nat → ClassId} {a : Nat → Nat} {A : Nat → Prop} {lt : Nat} {u : gm_St} {ch : Int32} {xn : Int32} (hp0 : u.2.2.1 0 + 3200 ≤ 1073741824) : gm_I l D (gm_ty dk) (gr_W dk a) A lt y_R_tick b_R_tick 5 (some .int) rm_R_tick [.ref (a 0), .int ch, .int xn] u (v_R_tick u ch xn) (s_R_tick u ch xn) := by
  refine gm_enterI (by decide) (Nat.le_of_ble_eq_true rfl) ?_
  intro p e s m args below meth c ls Q H locs hF hM hl hQ
  have hx := hF.1
  have hb := hF.2.1
  have hml := hF.2.2.1
  have hown := hF.2.2.2.1
  have hts := hF.2.2.2.2.1
  have hl : lv_has ls 5 [(0, .ref (a 0)), (1, .int ch), (2, .int xn)] := hl
  refine lv_iload_n hx hb d_R_tick_0 rfl (lv_at hl 2 rfl) ?_
  refine lv_iconst (v := 1) hx hb d_R_tick_1 (by decide) ?_
  refine lv_icmp_lt (tgt := 11) hx hb d_R_tick_2 rfl (fun h1 => ?_) (fun h1 => ?_)
  · refine lv_iconst (v := -1) hx hb d_R_tick_11 (by decide) ?_
    have hq := hQ H locs 12 ls
    simp only [v_R_tick, s_R_tick, if_pos h1] at hq
    exact hq hM d_R_tick_12
  · refine lv_iload_n hx hb d_R_tick_5 rfl (lv_at hl 2 rfl) ?_
    refine lv_bipush (v := 100) hx hb d_R_tick_6 (by decide) ?_
    refine lv_icmp_le (tgt := 13) hx hb d_R_tick_8 rfl (fun h2 => ?_) (fun h2 => ?_)
    · obtain ⟨n, hn, rfl⟩ := gm_ixL (lo := 1) (n := 100) h1 h2 (by decide) (by decide)
      refine lv_aload_n hx hb d_R_tick_13 rfl (lv_at hl 0 rfl) ?_
      refine lv_iload_n hx hb d_R_tick_14 rfl (lv_at hl 1 rfl) ?_
      refine gp_R_46 hF hM d_R_tick_15 (fun H locs hM => ?_)
      refine lv_iconst (v := 0) hx hb d_R_tick_18 (by decide) ?_
      refine lv_istore_n (lv' := [(3, .int (0 : Int32)), (0, .ref (a 0)), (1, .int ch), (2, .int (nI n))]) hx hb d_R_tick_19 rfl hl (by decide) rfl (fun ls hl => ?_)
      have L3 : ∀ (k3 i3 : Nat) (w3 : gm_St) (ls : Array Slot) (H : Heap) (locs : List Loc), i3 + k3 = n → w3.2.2.1 0 + 32 * (n - i3) ≤ 1073741824 → lv_has ls 5 [(3, .int (nI i3)), (0, .ref (a 0)), (1, .int ch), (2, .int (nI n))] → gm_M D A s (gr_W dk a) w3 H locs → (∀ (ls : Array Slot) (H : Heap) (locs : List Loc), lv_has ls 5 [(3, .int (nI n)), (0, .ref (a 0)), (1, .int ch), (2, .int (nI n))] → gm_M D A s (gr_W dk a) (lp_R_tick k3 i3 w3) H locs → W p l e rm_R_tick s m args below meth c H locs 0 0 Q (F0 m 72 ls [])) → W p l e rm_R_tick s m args below meth c H locs 0 0 Q (F0 m 20 ls []) := by
        intro k3
        induction k3 with
        | zero =>
          intro i3 w3 ls H locs hk3 hI3 hl hM kk
          have hN : i3 = n := by omega
          refine lv_iload_n hx hb d_R_tick_20 rfl (lv_at hl 0 rfl) ?_
          refine lv_iload_n hx hb d_R_tick_21 rfl (lv_at hl 3 rfl) ?_
          refine lv_icmp_ge (tgt := 72) hx hb d_R_tick_22 rfl (fun _ => ?_) (fun h => absurd (by rw [hN]; exact nI_le (Nat.le_refl _) (by omega)) h)
          exact kk ls H locs (by rw [hN] at hl; exact hl) hM
        | succ k3 ih =>
          intro i3 w3 ls H locs hk3 hI3 hl hM kk
          refine lv_iload_n hx hb d_R_tick_20 rfl (lv_at hl 0 rfl) ?_
          refine lv_iload_n hx hb d_R_tick_21 rfl (lv_at hl 3 rfl) ?_
          refine lv_icmp_ge (tgt := 72) hx hb d_R_tick_22 rfl (fun h => absurd h (nI_ge (a := i3) (b := n) (by omega) (by first | decide | omega))) (fun _ => ?_)
          refine lv_aload_n hx hb d_R_tick_25 rfl (lv_at hl 1 rfl) ?_
          refine lv_dup hx hb d_R_tick_26 rfl ?_
          refine gf_R_80 hF hM d_R_tick_27 ?_
          refine lv_iconst (v := 1) hx hb d_R_tick_30 (by decide) ?_
          refine lv_iadd hx hb d_R_tick_31 ?_
          refine gp_R_80 hF hM d_R_tick_32 (fun H locs hM => ?_)
          refine lv_iconst (v := 0) hx hb d_R_tick_35 (by decide) ?_
          refine lv_istore (lv' := [(4, .int (0 : Int32)), (3, .int (nI i3)), (0, .ref (a 0)), (1, .int ch), (2, .int (nI n))]) hx hb d_R_tick_36 hl (by decide) rfl (fun ls hl => ?_)
          have L4 : ∀ (k4 i4 : Nat) (w4 : gm_St) (ls : Array Slot) (H : Heap) (locs : List Loc), i4 + k4 = 2 → w4.2.2.1 0 + 16 * (2 - i4) + 32 * (n - i3 - 1) ≤ 1073741824 → lv_has ls 5 [(4, .int (nI i4)), (3, .int (nI i3)), (0, .ref (a 0)), (1, .int ch), (2, .int (nI n))] → gm_M D A s (gr_W dk a) w4 H locs → (∀ (ls : Array Slot) (H : Heap) (locs : List Loc), lv_has ls 5 [(4, .int (nI 2)), (3, .int (nI i3)), (0, .ref (a 0)), (1, .int ch), (2, .int (nI n))] → gm_M D A s (gr_W dk a) (lp_R_tick2 k4 i4 w4) H locs → W p l e rm_R_tick s m args below meth c H locs 0 0 Q (F0 m 66 ls [])) → W p l e rm_R_tick s m args below meth c H locs 0 0 Q (F0 m 38 ls []) := by
            intro k4
            induction k4 with
            | zero =>
              intro i4 w4 ls H locs hk4 hI4 hl hM kk
              obtain rfl : i4 = 2 := by omega
              refine lv_iload hx hb d_R_tick_38 (lv_at hl 0 rfl) ?_
              refine lv_iconst (v := 2) hx hb d_R_tick_40 (by decide) ?_
              refine lv_icmp_ge (tgt := 66) hx hb d_R_tick_41 rfl (fun _ => ?_) (fun h => absurd (by decide) h)
              exact kk ls H locs hl hM
            | succ k4 ih =>
              intro i4 w4 ls H locs hk4 hI4 hl hM kk
              refine lv_iload hx hb d_R_tick_38 (lv_at hl 0 rfl) ?_
              refine lv_iconst (v := 2) hx hb d_R_tick_40 (by decide) ?_
              refine lv_icmp_ge (tgt := 66) hx hb d_R_tick_41 rfl (fun h => absurd h (nI_ge (a := i4) (b := 2) (by omega) (by first | decide | omega))) (fun _ => ?_)
              refine lv_aload_n hx hb d_R_tick_44 rfl (lv_at hl 2 rfl) ?_
              refine gf_R_7 hF hM d_R_tick_45 ?_
              refine lv_iload hx hb d_R_tick_48 (lv_at hl 0 rfl) ?_
              refine ga_failed (k := i4) hF hM rfl (by first | omega | exact Nat.mod_lt _ (by decide)) d_R_tick_50 ?_
              have J6 : ∀ (ls : Array Slot) (H : Heap) (locs : List Loc), lv_has ls 5 [(0, .ref (a 0)), (1, .int ch), (2, .int (nI n)), (3, .int (nI i3)), (4, .int (nI i4))] → gm_M D A s (gr_W dk a) (if (w4.1 0 i4) = true then w4 else (s_R_step w4 i4)) H locs → W p l e rm_R_tick s m args below meth c H locs 0 0 Q (F0 m 60 ls []) := by
                intro ls H locs hl hM
                refine lv_iinc (k := 4) (v := (nI (i4 + 1))) (lv' := [(4, .int (nI (i4 + 1))), (0, .ref (a 0)), (1, .int ch), (2, .int (nI n)), (3, .int (nI i3))]) hx hb d_R_tick_60 hl rfl (nI_1 _) (by decide) rfl (fun ls hl => ?_)
                refine lv_goto (tgt := 38) hx hb d_R_tick_63 rfl ?_
                have hK := kk
                simp only [lp_R_tick2, bd_R_tick2] at hK
                exact ih (i4 + 1) (if (w4.1 0 i4) = true then w4 else (s_R_step w4 i4)) ls H locs (by omega) (by have hw := gr_tick2_N (i := i4) (u := w4); simp only [bd_R_tick2] at hw; omega) (lv_sub hl [0, 4, 1, 2, 3] rfl) hM hK
              refine gm_ifn (b := (w4.1 0 i4)) (tgt := 60) hx hb d_R_tick_51 rfl (fun h5 => ?_) (fun h5 => ?_)
              · have hJ := J6
                try simp only [if_pos h5] at hJ
                exact hJ ls H locs (lv_sub hl [2, 3, 4, 1, 0] rfl) hM
              · refine lv_aload_n hx hb d_R_tick_54 rfl (lv_at hl 2 rfl) ?_
                refine lv_iload hx hb d_R_tick_55 (lv_at hl 0 rfl) ?_
                refine gm_Vv (As := [.int (nI i4)]) (rest := []) hF hM (c_R_step (u := w4) (mn := i4) (by omega) (by omega)) (gk_R_106 hts ⟨by decide, by decide⟩) (gv_R hF hM rfl) rfl hl.1 rfl (Nat.le_of_ble_eq_true rfl) ⟨Nat.zero_le _, Nat.zero_le _⟩ d_R_tick_57 (fun H locs hM => ?_)
                have hJ := J6
                try simp only [if_neg (gm_nf h5)] at hJ
                exact hJ ls H locs (lv_sub hl [2, 3, 4, 1, 0] rfl) hM
          refine L4 2 0 (gm_sG w3 3 0 ((w3.2.1 3 0) + (1 : Int32))) ls H locs (by omega) (by show w3.2.2.1 0 + 16 * (2 - 0) + 32 * (n - i3 - 1) ≤ 1073741824; omega) hl hM (fun ls H locs hl hM => ?_)
          refine lv_iinc (k := 1) (v := (nI (i3 + 1))) (lv' := [(3, .int (nI (i3 + 1))), (4, .int (nI 2)), (0, .ref (a 0)), (1, .int ch), (2, .int (nI n))]) hx hb d_R_tick_66 hl rfl (nI_1 _) (by decide) rfl (fun ls hl => ?_)
          refine lv_goto (tgt := 20) hx hb d_R_tick_69 rfl ?_
          have hK := kk
          simp only [lp_R_tick] at hK
          exact ih (i3 + 1) (lp_R_tick2 2 0 (gm_sG w3 3 0 ((w3.2.1 3 0) + (1 : Int32)))) ls H locs (by omega) (by have hw := gr_lptick2_N2 (u := w3) (x := ((w3.2.1 3 0) + (1 : Int32))); omega) (lv_sub hl [0, 2, 3, 4] rfl) hM hK
      refine L3 n 0 (gm_sG u 3 1 ch) ls H locs (by omega) (by show u.2.2.1 0 + 32 * (n - 0) ≤ 1073741824; omega) hl hM (fun ls H locs hl hM => ?_)
      refine lv_aload_n hx hb d_R_tick_72 rfl (lv_at hl 1 rfl) ?_
      refine gf_R_80 hF hM d_R_tick_73 ?_
      have hq := hQ H locs 76 ls
      simp only [v_R_tick, s_R_tick, if_neg h1, if_pos h2, nI_clamp (show n < 2 ^ 31 by omega)] at hq
      exact hq hM d_R_tick_76
    · refine lv_iconst (v := -1) hx hb d_R_tick_11 (by decide) ?_
      have hq := hQ H locs 12 ls
      simp only [v_R_tick, s_R_tick, if_neg h1, if_neg h2] at hq
      exact hq hM d_R_tick_12
theorem d_R_fail_0 : decode b_R_fail 0 = .ok (.iload_n 1, 1) := by decide +kernel
theorem d_R_fail_1 : decode b_R_fail 1 = .ok (.invokestatic 109, 3) := by decide +kernel
theorem d_R_fail_4 : decode b_R_fail 4 = .ok (.ifCond .eq 12, 3) := by decide +kernel
theorem d_R_fail_7 : decode b_R_fail 7 = .ok (.aload_n 0, 1) := by decide +kernel
theorem d_R_fail_8 : decode b_R_fail 8 = .ok (.getfield 7, 3) := by decide +kernel
theorem d_R_fail_11 : decode b_R_fail 11 = .ok (.iload_n 1, 1) := by decide +kernel
theorem d_R_fail_12 : decode b_R_fail 12 = .ok (.baload, 1) := by decide +kernel
theorem d_R_fail_13 : decode b_R_fail 13 = .ok (.ifCond .eq 5, 3) := by decide +kernel
theorem d_R_fail_16 : decode b_R_fail 16 = .ok (.iconst 0, 1) := by decide +kernel
theorem d_R_fail_17 : decode b_R_fail 17 = .ok (.ireturn, 1) := by decide +kernel
theorem d_R_fail_18 : decode b_R_fail 18 = .ok (.aload_n 0, 1) := by decide +kernel
theorem d_R_fail_19 : decode b_R_fail 19 = .ok (.getfield 7, 3) := by decide +kernel
theorem d_R_fail_22 : decode b_R_fail 22 = .ok (.iload_n 1, 1) := by decide +kernel
theorem d_R_fail_23 : decode b_R_fail 23 = .ok (.iconst 1, 1) := by decide +kernel
theorem d_R_fail_24 : decode b_R_fail 24 = .ok (.bastore, 1) := by decide +kernel
theorem d_R_fail_25 : decode b_R_fail 25 = .ok (.aload_n 0, 1) := by decide +kernel
theorem d_R_fail_26 : decode b_R_fail 26 = .ok (.getfield 29, 3) := by decide +kernel
theorem d_R_fail_29 : decode b_R_fail 29 = .ok (.iload_n 1, 1) := by decide +kernel
theorem d_R_fail_30 : decode b_R_fail 30 = .ok (.iconst 0, 1) := by decide +kernel
theorem d_R_fail_31 : decode b_R_fail 31 = .ok (.bastore, 1) := by decide +kernel
theorem d_R_fail_32 : decode b_R_fail 32 = .ok (.aload_n 0, 1) := by decide +kernel
theorem d_R_fail_33 : decode b_R_fail 33 = .ok (.getfield 32, 3) := by decide +kernel
theorem d_R_fail_36 : decode b_R_fail 36 = .ok (.iload_n 1, 1) := by decide +kernel
theorem d_R_fail_37 : decode b_R_fail 37 = .ok (.iconst 0, 1) := by decide +kernel
theorem d_R_fail_38 : decode b_R_fail 38 = .ok (.iastore, 1) := by decide +kernel
theorem d_R_fail_39 : decode b_R_fail 39 = .ok (.iconst 1, 1) := by decide +kernel
theorem d_R_fail_40 : decode b_R_fail 40 = .ok (.ireturn, 1) := by decide +kernel
def v_R_fail (u : gm_St) (x : Int32) : Bool := (if (v_R_isModule x) = true then (if (u.1 0 x.toNatClampNeg) = true then false else true) else false)
def s_R_fail (u : gm_St) (x : Int32) : gm_St := (if (v_R_isModule x) = true then (if (u.1 0 x.toNatClampNeg) = true then u else (gm_sG (gm_sB (gm_sB u 0 x.toNatClampNeg true) 5 x.toNatClampNeg false) 1 x.toNatClampNeg (0 : Int32))) else u)
set_option maxRecDepth 100000 in
set_option maxHeartbeats 4000000 in
theorem c_R_fail {l : Launch} {D : va_G} {dk : Nat → ClassId} {a : Nat → Nat} {A : Nat → Prop} {lt : Nat} {u : gm_St} {x : Int32} : gm_I l D (gm_ty dk) (gr_W dk a) A lt y_R_fail b_R_fail 2 (some .boolean) rm_R_fail [.ref (a 0), .int x] u (gm_b (v_R_fail u x)) (s_R_fail u x) := by
  refine gm_enterZ (by decide) (Nat.le_of_ble_eq_true rfl) ?_
  intro p e s m args below meth c ls Q H locs hF hM hl hQ
  have hx := hF.1
  have hb := hF.2.1
  have hml := hF.2.2.1
  have hown := hF.2.2.2.1
  have hts := hF.2.2.2.2.1
  have hl : lv_has ls 2 [(0, .ref (a 0)), (1, .int x)] := hl
  refine lv_iload_n hx hb d_R_fail_0 rfl (lv_at hl 1 rfl) ?_
  refine gm_Si (As := [.int x]) (rest := []) hF hM (c_R_isModule (u := u) (x := x) ) (gk_R_109 hts ⟨by decide, by decide⟩) rfl hl.1 rfl (Nat.le_of_ble_eq_true rfl) ⟨Nat.zero_le _, Nat.zero_le _⟩ d_R_fail_1 (fun H locs hM => ?_)
  refine gm_ifz (b := (v_R_isModule x)) (tgt := 16) hx hb d_R_fail_4 rfl (fun h1 => ?_) (fun h1 => ?_)
  · refine lv_iconst (v := 0) hx hb d_R_fail_16 (by decide) ?_
    have hq := hQ H locs 17 ls
    simp only [v_R_fail, s_R_fail, if_neg (gm_nf h1)] at hq
    exact hq hM d_R_fail_17
  · have hm_x := (gr_isM h1).1
    have ex_x := (gr_isM h1).2
    refine lv_aload_n hx hb d_R_fail_7 rfl (lv_at hl 0 rfl) ?_
    refine gf_R_7 hF hM d_R_fail_8 ?_
    refine lv_iload_n hx hb d_R_fail_11 rfl (lv_at hl 1 rfl) ?_
    refine ga_failed (k := x.toNatClampNeg) hF hM ex_x (by first | omega | exact Nat.mod_lt _ (by decide)) d_R_fail_12 ?_
    refine gm_ifz (b := (u.1 0 x.toNatClampNeg)) (tgt := 18) hx hb d_R_fail_13 rfl (fun h2 => ?_) (fun h2 => ?_)
    · refine lv_aload_n hx hb d_R_fail_18 rfl (lv_at hl 0 rfl) ?_
      refine gf_R_7 hF hM d_R_fail_19 ?_
      refine lv_iload_n hx hb d_R_fail_22 rfl (lv_at hl 1 rfl) ?_
      refine lv_iconst (v := 1) hx hb d_R_fail_23 (by decide) ?_
      refine gq_failed (k := x.toNatClampNeg) hF hM ex_x (by first | omega | exact Nat.mod_lt _ (by decide)) (v := true) rfl d_R_fail_24 (fun H locs hM => ?_)
      refine lv_aload_n hx hb d_R_fail_25 rfl (lv_at hl 0 rfl) ?_
      refine gf_R_29 hF hM d_R_fail_26 ?_
      refine lv_iload_n hx hb d_R_fail_29 rfl (lv_at hl 1 rfl) ?_
      refine lv_iconst (v := 0) hx hb d_R_fail_30 (by decide) ?_
      refine gq_waits (k := x.toNatClampNeg) hF hM ex_x (by first | omega | exact Nat.mod_lt _ (by decide)) (v := false) rfl d_R_fail_31 (fun H locs hM => ?_)
      refine lv_aload_n hx hb d_R_fail_32 rfl (lv_at hl 0 rfl) ?_
      refine gf_R_32 hF hM d_R_fail_33 ?_
      refine lv_iload_n hx hb d_R_fail_36 rfl (lv_at hl 1 rfl) ?_
      refine lv_iconst (v := 0) hx hb d_R_fail_37 (by decide) ?_
      refine gq_waited (k := x.toNatClampNeg) hF hM ex_x (by first | omega | exact Nat.mod_lt _ (by decide)) d_R_fail_38 (fun H locs hM => ?_)
      refine lv_iconst (v := 1) hx hb d_R_fail_39 (by decide) ?_
      have hq := hQ H locs 40 ls
      simp only [v_R_fail, s_R_fail, if_pos h1, if_neg (gm_nf h2)] at hq
      exact hq hM d_R_fail_40
    · refine lv_iconst (v := 0) hx hb d_R_fail_16 (by decide) ?_
      have hq := hQ H locs 17 ls
      simp only [v_R_fail, s_R_fail, if_pos h1, if_pos h2] at hq
      exact hq hM d_R_fail_17
theorem d_R_replace_0 : decode b_R_replace 0 = .ok (.iload_n 1, 1) := by decide +kernel
theorem d_R_replace_1 : decode b_R_replace 1 = .ok (.invokestatic 109, 3) := by decide +kernel
theorem d_R_replace_4 : decode b_R_replace 4 = .ok (.ifCond .ne 5, 3) := by decide +kernel
theorem d_R_replace_7 : decode b_R_replace 7 = .ok (.iconst 0, 1) := by decide +kernel
theorem d_R_replace_8 : decode b_R_replace 8 = .ok (.ireturn, 1) := by decide +kernel
theorem d_R_replace_9 : decode b_R_replace 9 = .ok (.aload_n 0, 1) := by decide +kernel
theorem d_R_replace_10 : decode b_R_replace 10 = .ok (.getfield 7, 3) := by decide +kernel
theorem d_R_replace_13 : decode b_R_replace 13 = .ok (.iload_n 1, 1) := by decide +kernel
theorem d_R_replace_14 : decode b_R_replace 14 = .ok (.iconst 0, 1) := by decide +kernel
theorem d_R_replace_15 : decode b_R_replace 15 = .ok (.bastore, 1) := by decide +kernel
theorem d_R_replace_16 : decode b_R_replace 16 = .ok (.aload_n 0, 1) := by decide +kernel
theorem d_R_replace_17 : decode b_R_replace 17 = .ok (.getfield 29, 3) := by decide +kernel
theorem d_R_replace_20 : decode b_R_replace 20 = .ok (.iload_n 1, 1) := by decide +kernel
theorem d_R_replace_21 : decode b_R_replace 21 = .ok (.iconst 0, 1) := by decide +kernel
theorem d_R_replace_22 : decode b_R_replace 22 = .ok (.bastore, 1) := by decide +kernel
theorem d_R_replace_23 : decode b_R_replace 23 = .ok (.aload_n 0, 1) := by decide +kernel
theorem d_R_replace_24 : decode b_R_replace 24 = .ok (.getfield 32, 3) := by decide +kernel
theorem d_R_replace_27 : decode b_R_replace 27 = .ok (.iload_n 1, 1) := by decide +kernel
theorem d_R_replace_28 : decode b_R_replace 28 = .ok (.iconst 0, 1) := by decide +kernel
theorem d_R_replace_29 : decode b_R_replace 29 = .ok (.iastore, 1) := by decide +kernel
theorem d_R_replace_30 : decode b_R_replace 30 = .ok (.iconst 0, 1) := by decide +kernel
theorem d_R_replace_31 : decode b_R_replace 31 = .ok (.istore_n 2, 1) := by decide +kernel
theorem d_R_replace_32 : decode b_R_replace 32 = .ok (.iload_n 2, 1) := by decide +kernel
theorem d_R_replace_33 : decode b_R_replace 33 = .ok (.bipush 18, 2) := by decide +kernel
theorem d_R_replace_35 : decode b_R_replace 35 = .ok (.if_icmp .ge 21, 3) := by decide +kernel
theorem d_R_replace_38 : decode b_R_replace 38 = .ok (.aload_n 0, 1) := by decide +kernel
theorem d_R_replace_39 : decode b_R_replace 39 = .ok (.getfield 13, 3) := by decide +kernel
theorem d_R_replace_42 : decode b_R_replace 42 = .ok (.bipush 18, 2) := by decide +kernel
theorem d_R_replace_44 : decode b_R_replace 44 = .ok (.iload_n 1, 1) := by decide +kernel
theorem d_R_replace_45 : decode b_R_replace 45 = .ok (.imul, 1) := by decide +kernel
theorem d_R_replace_46 : decode b_R_replace 46 = .ok (.iload_n 2, 1) := by decide +kernel
theorem d_R_replace_47 : decode b_R_replace 47 = .ok (.iadd, 1) := by decide +kernel
theorem d_R_replace_48 : decode b_R_replace 48 = .ok (.iconst 0, 1) := by decide +kernel
theorem d_R_replace_49 : decode b_R_replace 49 = .ok (.bastore, 1) := by decide +kernel
theorem d_R_replace_50 : decode b_R_replace 50 = .ok (.iinc 2 1, 3) := by decide +kernel
theorem d_R_replace_53 : decode b_R_replace 53 = .ok (.goto (-21), 3) := by decide +kernel
theorem d_R_replace_56 : decode b_R_replace 56 = .ok (.iconst 0, 1) := by decide +kernel
theorem d_R_replace_57 : decode b_R_replace 57 = .ok (.istore_n 2, 1) := by decide +kernel
theorem d_R_replace_58 : decode b_R_replace 58 = .ok (.iload_n 2, 1) := by decide +kernel
theorem d_R_replace_59 : decode b_R_replace 59 = .ok (.bipush 6, 2) := by decide +kernel
theorem d_R_replace_61 : decode b_R_replace 61 = .ok (.if_icmp .ge 33, 3) := by decide +kernel
theorem d_R_replace_64 : decode b_R_replace 64 = .ok (.aload_n 0, 1) := by decide +kernel
theorem d_R_replace_65 : decode b_R_replace 65 = .ok (.getfield 16, 3) := by decide +kernel
theorem d_R_replace_68 : decode b_R_replace 68 = .ok (.bipush 6, 2) := by decide +kernel
theorem d_R_replace_70 : decode b_R_replace 70 = .ok (.iload_n 1, 1) := by decide +kernel
theorem d_R_replace_71 : decode b_R_replace 71 = .ok (.imul, 1) := by decide +kernel
theorem d_R_replace_72 : decode b_R_replace 72 = .ok (.iload_n 2, 1) := by decide +kernel
theorem d_R_replace_73 : decode b_R_replace 73 = .ok (.iadd, 1) := by decide +kernel
theorem d_R_replace_74 : decode b_R_replace 74 = .ok (.iconst 0, 1) := by decide +kernel
theorem d_R_replace_75 : decode b_R_replace 75 = .ok (.bastore, 1) := by decide +kernel
theorem d_R_replace_76 : decode b_R_replace 76 = .ok (.aload_n 0, 1) := by decide +kernel
theorem d_R_replace_77 : decode b_R_replace 77 = .ok (.getfield 19, 3) := by decide +kernel
theorem d_R_replace_80 : decode b_R_replace 80 = .ok (.bipush 6, 2) := by decide +kernel
theorem d_R_replace_82 : decode b_R_replace 82 = .ok (.iload_n 1, 1) := by decide +kernel
theorem d_R_replace_83 : decode b_R_replace 83 = .ok (.imul, 1) := by decide +kernel
theorem d_R_replace_84 : decode b_R_replace 84 = .ok (.iload_n 2, 1) := by decide +kernel
theorem d_R_replace_85 : decode b_R_replace 85 = .ok (.iadd, 1) := by decide +kernel
theorem d_R_replace_86 : decode b_R_replace 86 = .ok (.iconst 0, 1) := by decide +kernel
theorem d_R_replace_87 : decode b_R_replace 87 = .ok (.bastore, 1) := by decide +kernel
theorem d_R_replace_88 : decode b_R_replace 88 = .ok (.iinc 2 1, 3) := by decide +kernel
theorem d_R_replace_91 : decode b_R_replace 91 = .ok (.goto (-33), 3) := by decide +kernel
theorem d_R_replace_94 : decode b_R_replace 94 = .ok (.iconst 0, 1) := by decide +kernel
theorem d_R_replace_95 : decode b_R_replace 95 = .ok (.istore_n 2, 1) := by decide +kernel
theorem d_R_replace_96 : decode b_R_replace 96 = .ok (.iload_n 2, 1) := by decide +kernel
theorem d_R_replace_97 : decode b_R_replace 97 = .ok (.bipush 16, 2) := by decide +kernel
theorem d_R_replace_99 : decode b_R_replace 99 = .ok (.if_icmp .ge 33, 3) := by decide +kernel
theorem d_R_replace_102 : decode b_R_replace 102 = .ok (.aload_n 0, 1) := by decide +kernel
theorem d_R_replace_103 : decode b_R_replace 103 = .ok (.getfield 22, 3) := by decide +kernel
theorem d_R_replace_106 : decode b_R_replace 106 = .ok (.bipush 16, 2) := by decide +kernel
theorem d_R_replace_108 : decode b_R_replace 108 = .ok (.iload_n 1, 1) := by decide +kernel
theorem d_R_replace_109 : decode b_R_replace 109 = .ok (.imul, 1) := by decide +kernel
theorem d_R_replace_110 : decode b_R_replace 110 = .ok (.iload_n 2, 1) := by decide +kernel
theorem d_R_replace_111 : decode b_R_replace 111 = .ok (.iadd, 1) := by decide +kernel
theorem d_R_replace_112 : decode b_R_replace 112 = .ok (.iconst 0, 1) := by decide +kernel
theorem d_R_replace_113 : decode b_R_replace 113 = .ok (.bastore, 1) := by decide +kernel
theorem d_R_replace_114 : decode b_R_replace 114 = .ok (.aload_n 0, 1) := by decide +kernel
theorem d_R_replace_115 : decode b_R_replace 115 = .ok (.getfield 25, 3) := by decide +kernel
theorem d_R_replace_118 : decode b_R_replace 118 = .ok (.bipush 16, 2) := by decide +kernel
theorem d_R_replace_120 : decode b_R_replace 120 = .ok (.iload_n 1, 1) := by decide +kernel
theorem d_R_replace_121 : decode b_R_replace 121 = .ok (.imul, 1) := by decide +kernel
theorem d_R_replace_122 : decode b_R_replace 122 = .ok (.iload_n 2, 1) := by decide +kernel
theorem d_R_replace_123 : decode b_R_replace 123 = .ok (.iadd, 1) := by decide +kernel
theorem d_R_replace_124 : decode b_R_replace 124 = .ok (.iconst 0, 1) := by decide +kernel
theorem d_R_replace_125 : decode b_R_replace 125 = .ok (.iastore, 1) := by decide +kernel
theorem d_R_replace_126 : decode b_R_replace 126 = .ok (.iinc 2 1, 3) := by decide +kernel
theorem d_R_replace_129 : decode b_R_replace 129 = .ok (.goto (-33), 3) := by decide +kernel
theorem d_R_replace_132 : decode b_R_replace 132 = .ok (.iconst 0, 1) := by decide +kernel
theorem d_R_replace_133 : decode b_R_replace 133 = .ok (.istore_n 2, 1) := by decide +kernel
theorem d_R_replace_134 : decode b_R_replace 134 = .ok (.iload_n 2, 1) := by decide +kernel
theorem d_R_replace_135 : decode b_R_replace 135 = .ok (.bipush 11, 2) := by decide +kernel
theorem d_R_replace_137 : decode b_R_replace 137 = .ok (.if_icmp .ge 21, 3) := by decide +kernel
theorem d_R_replace_140 : decode b_R_replace 140 = .ok (.aload_n 0, 1) := by decide +kernel
theorem d_R_replace_141 : decode b_R_replace 141 = .ok (.getfield 35, 3) := by decide +kernel
theorem d_R_replace_144 : decode b_R_replace 144 = .ok (.bipush 11, 2) := by decide +kernel
theorem d_R_replace_146 : decode b_R_replace 146 = .ok (.iload_n 1, 1) := by decide +kernel
theorem d_R_replace_147 : decode b_R_replace 147 = .ok (.imul, 1) := by decide +kernel
theorem d_R_replace_148 : decode b_R_replace 148 = .ok (.iload_n 2, 1) := by decide +kernel
theorem d_R_replace_149 : decode b_R_replace 149 = .ok (.iadd, 1) := by decide +kernel
theorem d_R_replace_150 : decode b_R_replace 150 = .ok (.iconst 0, 1) := by decide +kernel
theorem d_R_replace_151 : decode b_R_replace 151 = .ok (.iastore, 1) := by decide +kernel
theorem d_R_replace_152 : decode b_R_replace 152 = .ok (.iinc 2 1, 3) := by decide +kernel
theorem d_R_replace_155 : decode b_R_replace 155 = .ok (.goto (-21), 3) := by decide +kernel
theorem d_R_replace_158 : decode b_R_replace 158 = .ok (.iconst 1, 1) := by decide +kernel
theorem d_R_replace_159 : decode b_R_replace 159 = .ok (.ireturn, 1) := by decide +kernel
def lp_R_rep1 (mn : Nat) : Nat → Nat → gm_St → gm_St
  | 0, _, u => u
  | k + 1, i, u => lp_R_rep1 mn k (i + 1) (gm_sB u 1 (18 * mn + i) false)
def lp_R_rep2 (mn : Nat) : Nat → Nat → gm_St → gm_St
  | 0, _, u => u
  | k + 1, i, u => lp_R_rep2 mn k (i + 1) (gm_sB (gm_sB u 2 (6 * mn + i) false) 3 (6 * mn + i) false)
def lp_R_rep3 (mn : Nat) : Nat → Nat → gm_St → gm_St
  | 0, _, u => u
  | k + 1, i, u => lp_R_rep3 mn k (i + 1) (gm_sG (gm_sB u 4 (16 * mn + i) false) 0 (16 * mn + i) (0 : Int32))
def lp_R_rep4 (mn : Nat) : Nat → Nat → gm_St → gm_St
  | 0, _, u => u
  | k + 1, i, u => lp_R_rep4 mn k (i + 1) (gm_sG u 2 (11 * mn + i) (0 : Int32))
def v_R_replace (u : gm_St) (x : Int32) : Bool := (if (v_R_isModule x) = true then true else false)
def s_R_replace (u : gm_St) (x : Int32) : gm_St := (if (v_R_isModule x) = true then (lp_R_rep4 x.toNatClampNeg 11 0 (lp_R_rep3 x.toNatClampNeg 16 0 (lp_R_rep2 x.toNatClampNeg 6 0 (lp_R_rep1 x.toNatClampNeg 18 0 (gm_sG (gm_sB (gm_sB u 0 x.toNatClampNeg false) 5 x.toNatClampNeg false) 1 x.toNatClampNeg (0 : Int32)))))) else u)
set_option maxRecDepth 100000 in
set_option maxHeartbeats 4000000 in
theorem c_R_replace {l : Launch} {D : va_G} {dk : Nat → ClassId} {a : Nat → Nat} {A : Nat → Prop} {lt : Nat} {u : gm_St} {x : Int32} : gm_I l D (gm_ty dk) (gr_W dk a) A lt y_R_replace b_R_replace 3 (some .boolean) rm_R_replace [.ref (a 0), .int x] u (gm_b (v_R_replace u x)) (s_R_replace u x) := by
  refine gm_enterZ (by decide) (Nat.le_of_ble_eq_true rfl) ?_
  intro p e s m args below meth c ls Q H locs hF hM hl hQ
  have hx := hF.1
  have hb := hF.2.1
  have hml := hF.2.2.1
  have hown := hF.2.2.2.1
  have hts := hF.2.2.2.2.1
  have hl : lv_has ls 3 [(0, .ref (a 0)), (1, .int x)] := hl
  refine lv_iload_n hx hb d_R_replace_0 rfl (lv_at hl 1 rfl) ?_
  refine gm_Si (As := [.int x]) (rest := []) hF hM (c_R_isModule (u := u) (x := x) ) (gk_R_109 hts ⟨by decide, by decide⟩) rfl hl.1 rfl (Nat.le_of_ble_eq_true rfl) ⟨Nat.zero_le _, Nat.zero_le _⟩ d_R_replace_1 (fun H locs hM => ?_)
  refine gm_ifn (b := (v_R_isModule x)) (tgt := 9) hx hb d_R_replace_4 rfl (fun h1 => ?_) (fun h1 => ?_)
  · obtain ⟨n, h_n, rfl⟩ := gr_isME h1
    refine lv_aload_n hx hb d_R_replace_9 rfl (lv_at hl 0 rfl) ?_
    refine gf_R_7 hF hM d_R_replace_10 ?_
    refine lv_iload_n hx hb d_R_replace_13 rfl (lv_at hl 1 rfl) ?_
    refine lv_iconst (v := 0) hx hb d_R_replace_14 (by decide) ?_
    refine gq_failed (k := n) hF hM rfl (by first | omega | exact Nat.mod_lt _ (by decide)) (v := false) rfl d_R_replace_15 (fun H locs hM => ?_)
    refine lv_aload_n hx hb d_R_replace_16 rfl (lv_at hl 0 rfl) ?_
    refine gf_R_29 hF hM d_R_replace_17 ?_
    refine lv_iload_n hx hb d_R_replace_20 rfl (lv_at hl 1 rfl) ?_
    refine lv_iconst (v := 0) hx hb d_R_replace_21 (by decide) ?_
    refine gq_waits (k := n) hF hM rfl (by first | omega | exact Nat.mod_lt _ (by decide)) (v := false) rfl d_R_replace_22 (fun H locs hM => ?_)
    refine lv_aload_n hx hb d_R_replace_23 rfl (lv_at hl 0 rfl) ?_
    refine gf_R_32 hF hM d_R_replace_24 ?_
    refine lv_iload_n hx hb d_R_replace_27 rfl (lv_at hl 1 rfl) ?_
    refine lv_iconst (v := 0) hx hb d_R_replace_28 (by decide) ?_
    refine gq_waited (k := n) hF hM rfl (by first | omega | exact Nat.mod_lt _ (by decide)) d_R_replace_29 (fun H locs hM => ?_)
    refine lv_iconst (v := 0) hx hb d_R_replace_30 (by decide) ?_
    refine lv_istore_n (lv' := [(2, .int (0 : Int32)), (0, .ref (a 0)), (1, .int (nI n))]) hx hb d_R_replace_31 rfl hl (by decide) rfl (fun ls hl => ?_)
    have L2 : ∀ (k2 i2 : Nat) (w2 : gm_St) (ls : Array Slot) (H : Heap) (locs : List Loc), i2 + k2 = 18 → lv_has ls 3 [(2, .int (nI i2)), (0, .ref (a 0)), (1, .int (nI n))] → gm_M D A s (gr_W dk a) w2 H locs → (∀ (ls : Array Slot) (H : Heap) (locs : List Loc), lv_has ls 3 [(2, .int (nI 18)), (0, .ref (a 0)), (1, .int (nI n))] → gm_M D A s (gr_W dk a) (lp_R_rep1 n k2 i2 w2) H locs → W p l e rm_R_replace s m args below meth c H locs 0 0 Q (F0 m 56 ls [])) → W p l e rm_R_replace s m args below meth c H locs 0 0 Q (F0 m 32 ls []) := by
      intro k2
      induction k2 with
      | zero =>
        intro i2 w2 ls H locs hk2 hl hM kk
        obtain rfl : i2 = 18 := by omega
        refine lv_iload_n hx hb d_R_replace_32 rfl (lv_at hl 0 rfl) ?_
        refine lv_bipush (v := 18) hx hb d_R_replace_33 (by decide) ?_
        refine lv_icmp_ge (tgt := 56) hx hb d_R_replace_35 rfl (fun _ => ?_) (fun h => absurd (by decide) h)
        exact kk ls H locs hl hM
      | succ k2 ih =>
        intro i2 w2 ls H locs hk2 hl hM kk
        refine lv_iload_n hx hb d_R_replace_32 rfl (lv_at hl 0 rfl) ?_
        refine lv_bipush (v := 18) hx hb d_R_replace_33 (by decide) ?_
        refine lv_icmp_ge (tgt := 56) hx hb d_R_replace_35 rfl (fun h => absurd h (nI_ge (a := i2) (b := 18) (by omega) (by first | decide | omega))) (fun _ => ?_)
        refine lv_aload_n hx hb d_R_replace_38 rfl (lv_at hl 1 rfl) ?_
        refine gf_R_13 hF hM d_R_replace_39 ?_
        refine lv_bipush (v := 18) hx hb d_R_replace_42 (by decide) ?_
        refine lv_iload_n hx hb d_R_replace_44 rfl (lv_at hl 2 rfl) ?_
        refine lv_imul hx hb d_R_replace_45 ?_
        refine lv_iload_n hx hb d_R_replace_46 rfl (lv_at hl 0 rfl) ?_
        refine lv_iadd hx hb d_R_replace_47 ?_
        refine lv_iconst (v := 0) hx hb d_R_replace_48 (by decide) ?_
        refine gq_bad (k := (18 * n + i2)) hF hM (by first | rfl | (simp only [← nI_add, ← pk_mul] <;> rfl)) (by first | omega | exact Nat.mod_lt _ (by decide)) (v := false) rfl d_R_replace_49 (fun H locs hM => ?_)
        refine lv_iinc (k := 0) (v := (nI (i2 + 1))) (lv' := [(2, .int (nI (i2 + 1))), (0, .ref (a 0)), (1, .int (nI n))]) hx hb d_R_replace_50 hl rfl (nI_1 _) (by decide) rfl (fun ls hl => ?_)
        refine lv_goto (tgt := 32) hx hb d_R_replace_53 rfl ?_
        have hK := kk
        simp only [lp_R_rep1] at hK
        exact ih (i2 + 1) (gm_sB w2 1 (18 * n + i2) false) ls H locs (by omega) hl hM hK
    refine L2 18 0 (gm_sG (gm_sB (gm_sB u 0 n false) 5 n false) 1 n (0 : Int32)) ls H locs (by omega) hl hM (fun ls H locs hl hM => ?_)
    refine lv_iconst (v := 0) hx hb d_R_replace_56 (by decide) ?_
    refine lv_istore_n (lv' := [(2, .int (0 : Int32)), (0, .ref (a 0)), (1, .int (nI n))]) hx hb d_R_replace_57 rfl hl (by decide) rfl (fun ls hl => ?_)
    have L3 : ∀ (k3 i3 : Nat) (w3 : gm_St) (ls : Array Slot) (H : Heap) (locs : List Loc), i3 + k3 = 6 → lv_has ls 3 [(2, .int (nI i3)), (0, .ref (a 0)), (1, .int (nI n))] → gm_M D A s (gr_W dk a) w3 H locs → (∀ (ls : Array Slot) (H : Heap) (locs : List Loc), lv_has ls 3 [(2, .int (nI 6)), (0, .ref (a 0)), (1, .int (nI n))] → gm_M D A s (gr_W dk a) (lp_R_rep2 n k3 i3 w3) H locs → W p l e rm_R_replace s m args below meth c H locs 0 0 Q (F0 m 94 ls [])) → W p l e rm_R_replace s m args below meth c H locs 0 0 Q (F0 m 58 ls []) := by
      intro k3
      induction k3 with
      | zero =>
        intro i3 w3 ls H locs hk3 hl hM kk
        obtain rfl : i3 = 6 := by omega
        refine lv_iload_n hx hb d_R_replace_58 rfl (lv_at hl 0 rfl) ?_
        refine lv_bipush (v := 6) hx hb d_R_replace_59 (by decide) ?_
        refine lv_icmp_ge (tgt := 94) hx hb d_R_replace_61 rfl (fun _ => ?_) (fun h => absurd (by decide) h)
        exact kk ls H locs hl hM
      | succ k3 ih =>
        intro i3 w3 ls H locs hk3 hl hM kk
        refine lv_iload_n hx hb d_R_replace_58 rfl (lv_at hl 0 rfl) ?_
        refine lv_bipush (v := 6) hx hb d_R_replace_59 (by decide) ?_
        refine lv_icmp_ge (tgt := 94) hx hb d_R_replace_61 rfl (fun h => absurd h (nI_ge (a := i3) (b := 6) (by omega) (by first | decide | omega))) (fun _ => ?_)
        refine lv_aload_n hx hb d_R_replace_64 rfl (lv_at hl 1 rfl) ?_
        refine gf_R_16 hF hM d_R_replace_65 ?_
        refine lv_bipush (v := 6) hx hb d_R_replace_68 (by decide) ?_
        refine lv_iload_n hx hb d_R_replace_70 rfl (lv_at hl 2 rfl) ?_
        refine lv_imul hx hb d_R_replace_71 ?_
        refine lv_iload_n hx hb d_R_replace_72 rfl (lv_at hl 0 rfl) ?_
        refine lv_iadd hx hb d_R_replace_73 ?_
        refine lv_iconst (v := 0) hx hb d_R_replace_74 (by decide) ?_
        refine gq_value (k := (6 * n + i3)) hF hM (by first | rfl | (simp only [← nI_add, ← pk_mul] <;> rfl)) (by first | omega | exact Nat.mod_lt _ (by decide)) (v := false) rfl d_R_replace_75 (fun H locs hM => ?_)
        refine lv_aload_n hx hb d_R_replace_76 rfl (lv_at hl 1 rfl) ?_
        refine gf_R_19 hF hM d_R_replace_77 ?_
        refine lv_bipush (v := 6) hx hb d_R_replace_80 (by decide) ?_
        refine lv_iload_n hx hb d_R_replace_82 rfl (lv_at hl 2 rfl) ?_
        refine lv_imul hx hb d_R_replace_83 ?_
        refine lv_iload_n hx hb d_R_replace_84 rfl (lv_at hl 0 rfl) ?_
        refine lv_iadd hx hb d_R_replace_85 ?_
        refine lv_iconst (v := 0) hx hb d_R_replace_86 (by decide) ?_
        refine gq_broken (k := (6 * n + i3)) hF hM (by first | rfl | (simp only [← nI_add, ← pk_mul] <;> rfl)) (by first | omega | exact Nat.mod_lt _ (by decide)) (v := false) rfl d_R_replace_87 (fun H locs hM => ?_)
        refine lv_iinc (k := 0) (v := (nI (i3 + 1))) (lv' := [(2, .int (nI (i3 + 1))), (0, .ref (a 0)), (1, .int (nI n))]) hx hb d_R_replace_88 hl rfl (nI_1 _) (by decide) rfl (fun ls hl => ?_)
        refine lv_goto (tgt := 58) hx hb d_R_replace_91 rfl ?_
        have hK := kk
        simp only [lp_R_rep2] at hK
        exact ih (i3 + 1) (gm_sB (gm_sB w3 2 (6 * n + i3) false) 3 (6 * n + i3) false) ls H locs (by omega) hl hM hK
    refine L3 6 0 (lp_R_rep1 n 18 0 (gm_sG (gm_sB (gm_sB u 0 n false) 5 n false) 1 n (0 : Int32))) ls H locs (by omega) hl hM (fun ls H locs hl hM => ?_)
    refine lv_iconst (v := 0) hx hb d_R_replace_94 (by decide) ?_
    refine lv_istore_n (lv' := [(2, .int (0 : Int32)), (0, .ref (a 0)), (1, .int (nI n))]) hx hb d_R_replace_95 rfl hl (by decide) rfl (fun ls hl => ?_)
    have L4 : ∀ (k4 i4 : Nat) (w4 : gm_St) (ls : Array Slot) (H : Heap) (locs : List Loc), i4 + k4 = 16 → lv_has ls 3 [(2, .int (nI i4)), (0, .ref (a 0)), (1, .int (nI n))] → gm_M D A s (gr_W dk a) w4 H locs → (∀ (ls : Array Slot) (H : Heap) (locs : List Loc), lv_has ls 3 [(2, .int (nI 16)), (0, .ref (a 0)), (1, .int (nI n))] → gm_M D A s (gr_W dk a) (lp_R_rep3 n k4 i4 w4) H locs → W p l e rm_R_replace s m args below meth c H locs 0 0 Q (F0 m 132 ls [])) → W p l e rm_R_replace s m args below meth c H locs 0 0 Q (F0 m 96 ls []) := by
      intro k4
      induction k4 with
      | zero =>
        intro i4 w4 ls H locs hk4 hl hM kk
        obtain rfl : i4 = 16 := by omega
        refine lv_iload_n hx hb d_R_replace_96 rfl (lv_at hl 0 rfl) ?_
        refine lv_bipush (v := 16) hx hb d_R_replace_97 (by decide) ?_
        refine lv_icmp_ge (tgt := 132) hx hb d_R_replace_99 rfl (fun _ => ?_) (fun h => absurd (by decide) h)
        exact kk ls H locs hl hM
      | succ k4 ih =>
        intro i4 w4 ls H locs hk4 hl hM kk
        refine lv_iload_n hx hb d_R_replace_96 rfl (lv_at hl 0 rfl) ?_
        refine lv_bipush (v := 16) hx hb d_R_replace_97 (by decide) ?_
        refine lv_icmp_ge (tgt := 132) hx hb d_R_replace_99 rfl (fun h => absurd h (nI_ge (a := i4) (b := 16) (by omega) (by first | decide | omega))) (fun _ => ?_)
        refine lv_aload_n hx hb d_R_replace_102 rfl (lv_at hl 1 rfl) ?_
        refine gf_R_22 hF hM d_R_replace_103 ?_
        refine lv_bipush (v := 16) hx hb d_R_replace_106 (by decide) ?_
        refine lv_iload_n hx hb d_R_replace_108 rfl (lv_at hl 2 rfl) ?_
        refine lv_imul hx hb d_R_replace_109 ?_
        refine lv_iload_n hx hb d_R_replace_110 rfl (lv_at hl 0 rfl) ?_
        refine lv_iadd hx hb d_R_replace_111 ?_
        refine lv_iconst (v := 0) hx hb d_R_replace_112 (by decide) ?_
        refine gq_had (k := (16 * n + i4)) hF hM (by first | rfl | (simp only [← nI_add, ← pk_mul] <;> rfl)) (by first | omega | exact Nat.mod_lt _ (by decide)) (v := false) rfl d_R_replace_113 (fun H locs hM => ?_)
        refine lv_aload_n hx hb d_R_replace_114 rfl (lv_at hl 1 rfl) ?_
        refine gf_R_25 hF hM d_R_replace_115 ?_
        refine lv_bipush (v := 16) hx hb d_R_replace_118 (by decide) ?_
        refine lv_iload_n hx hb d_R_replace_120 rfl (lv_at hl 2 rfl) ?_
        refine lv_imul hx hb d_R_replace_121 ?_
        refine lv_iload_n hx hb d_R_replace_122 rfl (lv_at hl 0 rfl) ?_
        refine lv_iadd hx hb d_R_replace_123 ?_
        refine lv_iconst (v := 0) hx hb d_R_replace_124 (by decide) ?_
        refine gq_held (k := (16 * n + i4)) hF hM (by first | rfl | (simp only [← nI_add, ← pk_mul] <;> rfl)) (by first | omega | exact Nat.mod_lt _ (by decide)) d_R_replace_125 (fun H locs hM => ?_)
        refine lv_iinc (k := 0) (v := (nI (i4 + 1))) (lv' := [(2, .int (nI (i4 + 1))), (0, .ref (a 0)), (1, .int (nI n))]) hx hb d_R_replace_126 hl rfl (nI_1 _) (by decide) rfl (fun ls hl => ?_)
        refine lv_goto (tgt := 96) hx hb d_R_replace_129 rfl ?_
        have hK := kk
        simp only [lp_R_rep3] at hK
        exact ih (i4 + 1) (gm_sG (gm_sB w4 4 (16 * n + i4) false) 0 (16 * n + i4) (0 : Int32)) ls H locs (by omega) hl hM hK
    refine L4 16 0 (lp_R_rep2 n 6 0 (lp_R_rep1 n 18 0 (gm_sG (gm_sB (gm_sB u 0 n false) 5 n false) 1 n (0 : Int32)))) ls H locs (by omega) hl hM (fun ls H locs hl hM => ?_)
    refine lv_iconst (v := 0) hx hb d_R_replace_132 (by decide) ?_
    refine lv_istore_n (lv' := [(2, .int (0 : Int32)), (0, .ref (a 0)), (1, .int (nI n))]) hx hb d_R_replace_133 rfl hl (by decide) rfl (fun ls hl => ?_)
    have L5 : ∀ (k5 i5 : Nat) (w5 : gm_St) (ls : Array Slot) (H : Heap) (locs : List Loc), i5 + k5 = 11 → lv_has ls 3 [(2, .int (nI i5)), (0, .ref (a 0)), (1, .int (nI n))] → gm_M D A s (gr_W dk a) w5 H locs → (∀ (ls : Array Slot) (H : Heap) (locs : List Loc), lv_has ls 3 [(2, .int (nI 11)), (0, .ref (a 0)), (1, .int (nI n))] → gm_M D A s (gr_W dk a) (lp_R_rep4 n k5 i5 w5) H locs → W p l e rm_R_replace s m args below meth c H locs 0 0 Q (F0 m 158 ls [])) → W p l e rm_R_replace s m args below meth c H locs 0 0 Q (F0 m 134 ls []) := by
      intro k5
      induction k5 with
      | zero =>
        intro i5 w5 ls H locs hk5 hl hM kk
        obtain rfl : i5 = 11 := by omega
        refine lv_iload_n hx hb d_R_replace_134 rfl (lv_at hl 0 rfl) ?_
        refine lv_bipush (v := 11) hx hb d_R_replace_135 (by decide) ?_
        refine lv_icmp_ge (tgt := 158) hx hb d_R_replace_137 rfl (fun _ => ?_) (fun h => absurd (by decide) h)
        exact kk ls H locs hl hM
      | succ k5 ih =>
        intro i5 w5 ls H locs hk5 hl hM kk
        refine lv_iload_n hx hb d_R_replace_134 rfl (lv_at hl 0 rfl) ?_
        refine lv_bipush (v := 11) hx hb d_R_replace_135 (by decide) ?_
        refine lv_icmp_ge (tgt := 158) hx hb d_R_replace_137 rfl (fun h => absurd h (nI_ge (a := i5) (b := 11) (by omega) (by first | decide | omega))) (fun _ => ?_)
        refine lv_aload_n hx hb d_R_replace_140 rfl (lv_at hl 1 rfl) ?_
        refine gf_R_35 hF hM d_R_replace_141 ?_
        refine lv_bipush (v := 11) hx hb d_R_replace_144 (by decide) ?_
        refine lv_iload_n hx hb d_R_replace_146 rfl (lv_at hl 2 rfl) ?_
        refine lv_imul hx hb d_R_replace_147 ?_
        refine lv_iload_n hx hb d_R_replace_148 rfl (lv_at hl 0 rfl) ?_
        refine lv_iadd hx hb d_R_replace_149 ?_
        refine lv_iconst (v := 0) hx hb d_R_replace_150 (by decide) ?_
        refine gq_past (k := (11 * n + i5)) hF hM (by first | rfl | (simp only [← nI_add, ← pk_mul] <;> rfl)) (by first | omega | exact Nat.mod_lt _ (by decide)) d_R_replace_151 (fun H locs hM => ?_)
        refine lv_iinc (k := 0) (v := (nI (i5 + 1))) (lv' := [(2, .int (nI (i5 + 1))), (0, .ref (a 0)), (1, .int (nI n))]) hx hb d_R_replace_152 hl rfl (nI_1 _) (by decide) rfl (fun ls hl => ?_)
        refine lv_goto (tgt := 134) hx hb d_R_replace_155 rfl ?_
        have hK := kk
        simp only [lp_R_rep4] at hK
        exact ih (i5 + 1) (gm_sG w5 2 (11 * n + i5) (0 : Int32)) ls H locs (by omega) hl hM hK
    refine L5 11 0 (lp_R_rep3 n 16 0 (lp_R_rep2 n 6 0 (lp_R_rep1 n 18 0 (gm_sG (gm_sB (gm_sB u 0 n false) 5 n false) 1 n (0 : Int32))))) ls H locs (by omega) hl hM (fun ls H locs hl hM => ?_)
    refine lv_iconst (v := 1) hx hb d_R_replace_158 (by decide) ?_
    have hq := hQ H locs 159 ls
    simp only [v_R_replace, s_R_replace, if_pos h1, nI_clamp (show n < 2 ^ 31 by omega)] at hq
    exact hq hM d_R_replace_159
  · refine lv_iconst (v := 0) hx hb d_R_replace_7 (by decide) ?_
    have hq := hQ H locs 8 ls
    simp only [v_R_replace, s_R_replace, if_neg (gm_nf h1)] at hq
    exact hq hM d_R_replace_8
theorem d_R_works_0 : decode b_R_works 0 = .ok (.iload_n 1, 1) := by decide +kernel
theorem d_R_works_1 : decode b_R_works 1 = .ok (.invokestatic 109, 3) := by decide +kernel
theorem d_R_works_4 : decode b_R_works 4 = .ok (.ifCond .eq 16, 3) := by decide +kernel
theorem d_R_works_7 : decode b_R_works 7 = .ok (.aload_n 0, 1) := by decide +kernel
theorem d_R_works_8 : decode b_R_works 8 = .ok (.getfield 7, 3) := by decide +kernel
theorem d_R_works_11 : decode b_R_works 11 = .ok (.iload_n 1, 1) := by decide +kernel
theorem d_R_works_12 : decode b_R_works 12 = .ok (.baload, 1) := by decide +kernel
theorem d_R_works_13 : decode b_R_works 13 = .ok (.ifCond .ne 7, 3) := by decide +kernel
theorem d_R_works_16 : decode b_R_works 16 = .ok (.iconst 1, 1) := by decide +kernel
theorem d_R_works_17 : decode b_R_works 17 = .ok (.goto 4, 3) := by decide +kernel
theorem d_R_works_20 : decode b_R_works 20 = .ok (.iconst 0, 1) := by decide +kernel
theorem d_R_works_21 : decode b_R_works 21 = .ok (.ireturn, 1) := by decide +kernel
def v_R_works (u : gm_St) (x : Int32) : Bool := (if (v_R_isModule x) = true then (if (u.1 0 x.toNatClampNeg) = true then false else true) else false)
set_option maxRecDepth 100000 in
set_option maxHeartbeats 4000000 in
theorem c_R_works {l : Launch} {D : va_G} {dk : Nat → ClassId} {a : Nat → Nat} {A : Nat → Prop} {lt : Nat} {u : gm_St} {x : Int32} : gm_I l D (gm_ty dk) (gr_W dk a) A lt y_R_works b_R_works 2 (some .boolean) rm_R_works [.ref (a 0), .int x] u (gm_b (v_R_works u x)) u := by
  refine gm_enterZ (by decide) (Nat.le_of_ble_eq_true rfl) ?_
  intro p e s m args below meth c ls Q H locs hF hM hl hQ
  have hx := hF.1
  have hb := hF.2.1
  have hml := hF.2.2.1
  have hown := hF.2.2.2.1
  have hts := hF.2.2.2.2.1
  have hl : lv_has ls 2 [(0, .ref (a 0)), (1, .int x)] := hl
  refine lv_iload_n hx hb d_R_works_0 rfl (lv_at hl 1 rfl) ?_
  refine gm_Si (As := [.int x]) (rest := []) hF hM (c_R_isModule (u := u) (x := x) ) (gk_R_109 hts ⟨by decide, by decide⟩) rfl hl.1 rfl (Nat.le_of_ble_eq_true rfl) ⟨Nat.zero_le _, Nat.zero_le _⟩ d_R_works_1 (fun H locs hM => ?_)
  have J2 : ∀ (ls : Array Slot) (H : Heap) (locs : List Loc), lv_has ls 2 [(0, .ref (a 0)), (1, .int x)] → gm_M D A s (gr_W dk a) u H locs → W p l e rm_R_works s m args below meth c H locs 0 0 Q (F0 m 21 ls [.int (gm_b (if (v_R_isModule x) = true then (if (u.1 0 x.toNatClampNeg) = true then false else true) else false))]) := by
    intro ls H locs hl hM
    have hq := hQ H locs 21 ls
    simp only [v_R_works] at hq
    exact hq hM d_R_works_21
  refine gm_ifz (b := (v_R_isModule x)) (tgt := 20) hx hb d_R_works_4 rfl (fun h1 => ?_) (fun h1 => ?_)
  · refine lv_iconst (v := 0) hx hb d_R_works_20 (by decide) ?_
    have hJ := J2
    try simp only [if_neg (gm_nf h1)] at hJ
    exact hJ ls H locs hl hM
  · have hm_x := (gr_isM h1).1
    have ex_x := (gr_isM h1).2
    refine lv_aload_n hx hb d_R_works_7 rfl (lv_at hl 0 rfl) ?_
    refine gf_R_7 hF hM d_R_works_8 ?_
    refine lv_iload_n hx hb d_R_works_11 rfl (lv_at hl 1 rfl) ?_
    refine ga_failed (k := x.toNatClampNeg) hF hM ex_x (by first | omega | exact Nat.mod_lt _ (by decide)) d_R_works_12 ?_
    refine gm_ifn (b := (u.1 0 x.toNatClampNeg)) (tgt := 20) hx hb d_R_works_13 rfl (fun h3 => ?_) (fun h3 => ?_)
    · refine lv_iconst (v := 0) hx hb d_R_works_20 (by decide) ?_
      have hJ := J2
      try simp only [if_pos h1, if_pos h3] at hJ
      exact hJ ls H locs hl hM
    · refine lv_iconst (v := 1) hx hb d_R_works_16 (by decide) ?_
      refine lv_goto (tgt := 21) hx hb d_R_works_17 rfl ?_
      have hJ := J2
      try simp only [if_pos h1, if_neg (gm_nf h3)] at hJ
      exact hJ ls H locs hl hM
theorem d_R_time_0 : decode b_R_time 0 = .ok (.aload_n 0, 1) := by decide +kernel
theorem d_R_time_1 : decode b_R_time 1 = .ok (.getfield 80, 3) := by decide +kernel
theorem d_R_time_4 : decode b_R_time 4 = .ok (.ireturn, 1) := by decide +kernel
def v_R_time (u : gm_St) : Int32 := (u.2.1 3 0)
set_option maxRecDepth 100000 in
set_option maxHeartbeats 4000000 in
theorem c_R_time {l : Launch} {D : va_G} {dk : Nat → ClassId} {a : Nat → Nat} {A : Nat → Prop} {lt : Nat} {u : gm_St} : gm_I l D (gm_ty dk) (gr_W dk a) A lt y_R_time b_R_time 1 (some .int) rm_R_time [.ref (a 0)] u (v_R_time u) u := by
  refine gm_enterI (by decide) (Nat.le_of_ble_eq_true rfl) ?_
  intro p e s m args below meth c ls Q H locs hF hM hl hQ
  have hx := hF.1
  have hb := hF.2.1
  have hml := hF.2.2.1
  have hown := hF.2.2.2.1
  have hts := hF.2.2.2.2.1
  have hl : lv_has ls 1 [(0, .ref (a 0))] := hl
  refine lv_aload_n hx hb d_R_time_0 rfl (lv_at hl 0 rfl) ?_
  refine gf_R_80 hF hM d_R_time_1 ?_
  have hq := hQ H locs 4 ls
  simp only [v_R_time] at hq
  exact hq hM d_R_time_4
theorem d_R_valvesOf_0 : decode b_R_valvesOf 0 = .ok (.aload_n 0, 1) := by decide +kernel
theorem d_R_valvesOf_1 : decode b_R_valvesOf 1 = .ok (.getfield 7, 3) := by decide +kernel
theorem d_R_valvesOf_4 : decode b_R_valvesOf 4 = .ok (.iload_n 1, 1) := by decide +kernel
theorem d_R_valvesOf_5 : decode b_R_valvesOf 5 = .ok (.baload, 1) := by decide +kernel
theorem d_R_valvesOf_6 : decode b_R_valvesOf 6 = .ok (.ifCond .eq 7, 3) := by decide +kernel
theorem d_R_valvesOf_9 : decode b_R_valvesOf 9 = .ok (.iconst 0, 1) := by decide +kernel
theorem d_R_valvesOf_10 : decode b_R_valvesOf 10 = .ok (.goto 12, 3) := by decide +kernel
theorem d_R_valvesOf_13 : decode b_R_valvesOf 13 = .ok (.aload_n 0, 1) := by decide +kernel
theorem d_R_valvesOf_14 : decode b_R_valvesOf 14 = .ok (.getfield 35, 3) := by decide +kernel
theorem d_R_valvesOf_17 : decode b_R_valvesOf 17 = .ok (.bipush 11, 2) := by decide +kernel
theorem d_R_valvesOf_19 : decode b_R_valvesOf 19 = .ok (.iload_n 1, 1) := by decide +kernel
theorem d_R_valvesOf_20 : decode b_R_valvesOf 20 = .ok (.imul, 1) := by decide +kernel
theorem d_R_valvesOf_21 : decode b_R_valvesOf 21 = .ok (.iaload, 1) := by decide +kernel
theorem d_R_valvesOf_22 : decode b_R_valvesOf 22 = .ok (.ireturn, 1) := by decide +kernel
def v_R_valvesOf (u : gm_St) (mn : Nat) : Int32 := (if (u.1 0 mn) = true then (0 : Int32) else (u.2.1 2 (11 * mn)))
set_option maxRecDepth 100000 in
set_option maxHeartbeats 4000000 in
theorem c_R_valvesOf {l : Launch} {D : va_G} {dk : Nat → ClassId} {a : Nat → Nat} {A : Nat → Prop} {lt : Nat} {u : gm_St} {mn : Nat} (h_mn : mn < 2) : gm_I l D (gm_ty dk) (gr_W dk a) A lt y_R_valvesOf b_R_valvesOf 2 (some .int) rm_R_valvesOf [.ref (a 0), .int (nI mn)] u (v_R_valvesOf u mn) u := by
  refine gm_enterI (by decide) (Nat.le_of_ble_eq_true rfl) ?_
  intro p e s m args below meth c ls Q H locs hF hM hl hQ
  have hx := hF.1
  have hb := hF.2.1
  have hml := hF.2.2.1
  have hown := hF.2.2.2.1
  have hts := hF.2.2.2.2.1
  have hl : lv_has ls 2 [(0, .ref (a 0)), (1, .int (nI mn))] := hl
  refine lv_aload_n hx hb d_R_valvesOf_0 rfl (lv_at hl 0 rfl) ?_
  refine gf_R_7 hF hM d_R_valvesOf_1 ?_
  refine lv_iload_n hx hb d_R_valvesOf_4 rfl (lv_at hl 1 rfl) ?_
  refine ga_failed (k := mn) hF hM rfl (by first | omega | exact Nat.mod_lt _ (by decide)) d_R_valvesOf_5 ?_
  have J2 : ∀ (ls : Array Slot) (H : Heap) (locs : List Loc), lv_has ls 2 [(0, .ref (a 0)), (1, .int (nI mn))] → gm_M D A s (gr_W dk a) u H locs → W p l e rm_R_valvesOf s m args below meth c H locs 0 0 Q (F0 m 22 ls [.int (if (u.1 0 mn) = true then (0 : Int32) else (u.2.1 2 (11 * mn)))]) := by
    intro ls H locs hl hM
    have hq := hQ H locs 22 ls
    simp only [v_R_valvesOf] at hq
    exact hq hM d_R_valvesOf_22
  refine gm_ifz (b := (u.1 0 mn)) (tgt := 13) hx hb d_R_valvesOf_6 rfl (fun h1 => ?_) (fun h1 => ?_)
  · refine lv_aload_n hx hb d_R_valvesOf_13 rfl (lv_at hl 0 rfl) ?_
    refine gf_R_35 hF hM d_R_valvesOf_14 ?_
    refine lv_bipush (v := 11) hx hb d_R_valvesOf_17 (by decide) ?_
    refine lv_iload_n hx hb d_R_valvesOf_19 rfl (lv_at hl 1 rfl) ?_
    refine lv_imul hx hb d_R_valvesOf_20 ?_
    refine ga_past (k := (11 * mn)) hF hM (by first | rfl | (simp only [← nI_add, ← pk_mul] <;> rfl)) (by first | omega | exact Nat.mod_lt _ (by decide)) d_R_valvesOf_21 ?_
    have hJ := J2
    try simp only [if_neg (gm_nf h1)] at hJ
    exact hJ ls H locs hl hM
  · refine lv_iconst (v := 0) hx hb d_R_valvesOf_9 (by decide) ?_
    refine lv_goto (tgt := 22) hx hb d_R_valvesOf_10 rfl ?_
    have hJ := J2
    try simp only [if_pos h1] at hJ
    exact hJ ls H locs hl hM
theorem d_R_valves_0 : decode b_R_valves 0 = .ok (.iload_n 1, 1) := by decide +kernel
theorem d_R_valves_1 : decode b_R_valves 1 = .ok (.iconst (-1), 1) := by decide +kernel
theorem d_R_valves_2 : decode b_R_valves 2 = .ok (.if_icmp .ne 15, 3) := by decide +kernel
theorem d_R_valves_5 : decode b_R_valves 5 = .ok (.aload_n 0, 1) := by decide +kernel
theorem d_R_valves_6 : decode b_R_valves 6 = .ok (.iconst 0, 1) := by decide +kernel
theorem d_R_valves_7 : decode b_R_valves 7 = .ok (.invokevirtual 112, 3) := by decide +kernel
theorem d_R_valves_10 : decode b_R_valves 10 = .ok (.aload_n 0, 1) := by decide +kernel
theorem d_R_valves_11 : decode b_R_valves 11 = .ok (.iconst 1, 1) := by decide +kernel
theorem d_R_valves_12 : decode b_R_valves 12 = .ok (.invokevirtual 112, 3) := by decide +kernel
theorem d_R_valves_15 : decode b_R_valves 15 = .ok (.ior, 1) := by decide +kernel
theorem d_R_valves_16 : decode b_R_valves 16 = .ok (.ireturn, 1) := by decide +kernel
theorem d_R_valves_17 : decode b_R_valves 17 = .ok (.iload_n 1, 1) := by decide +kernel
theorem d_R_valves_18 : decode b_R_valves 18 = .ok (.invokestatic 109, 3) := by decide +kernel
theorem d_R_valves_21 : decode b_R_valves 21 = .ok (.ifCond .eq 11, 3) := by decide +kernel
theorem d_R_valves_24 : decode b_R_valves 24 = .ok (.aload_n 0, 1) := by decide +kernel
theorem d_R_valves_25 : decode b_R_valves 25 = .ok (.iload_n 1, 1) := by decide +kernel
theorem d_R_valves_26 : decode b_R_valves 26 = .ok (.invokevirtual 112, 3) := by decide +kernel
theorem d_R_valves_29 : decode b_R_valves 29 = .ok (.goto 4, 3) := by decide +kernel
theorem d_R_valves_32 : decode b_R_valves 32 = .ok (.iconst (-1), 1) := by decide +kernel
theorem d_R_valves_33 : decode b_R_valves 33 = .ok (.ireturn, 1) := by decide +kernel
def v_R_valves (u : gm_St) (x : Int32) : Int32 := (if x = (-1 : Int32) then ((v_R_valvesOf u 0) ||| (v_R_valvesOf u 1)) else (if (v_R_isModule x) = true then (v_R_valvesOf u x.toNatClampNeg) else (-1 : Int32)))
set_option maxRecDepth 100000 in
set_option maxHeartbeats 4000000 in
theorem c_R_valves {l : Launch} {D : va_G} {dk : Nat → ClassId} {a : Nat → Nat} {A : Nat → Prop} {lt : Nat} {u : gm_St} {x : Int32} : gm_I l D (gm_ty dk) (gr_W dk a) A lt y_R_valves b_R_valves 2 (some .int) rm_R_valves [.ref (a 0), .int x] u (v_R_valves u x) u := by
  refine gm_enterI (by decide) (Nat.le_of_ble_eq_true rfl) ?_
  intro p e s m args below meth c ls Q H locs hF hM hl hQ
  have hx := hF.1
  have hb := hF.2.1
  have hml := hF.2.2.1
  have hown := hF.2.2.2.1
  have hts := hF.2.2.2.2.1
  have hl : lv_has ls 2 [(0, .ref (a 0)), (1, .int x)] := hl
  refine lv_iload_n hx hb d_R_valves_0 rfl (lv_at hl 1 rfl) ?_
  refine lv_iconst (v := -1) hx hb d_R_valves_1 (by decide) ?_
  refine lv_icmp_ne (tgt := 17) hx hb d_R_valves_2 rfl (fun h1 => ?_) (fun h1 => ?_)
  · refine lv_iload_n hx hb d_R_valves_17 rfl (lv_at hl 1 rfl) ?_
    refine gm_Si (As := [.int x]) (rest := []) hF hM (c_R_isModule (u := u) (x := x) ) (gk_R_109 hts ⟨by decide, by decide⟩) rfl hl.1 rfl (Nat.le_of_ble_eq_true rfl) ⟨Nat.zero_le _, Nat.zero_le _⟩ d_R_valves_18 (fun H locs hM => ?_)
    have J3 : ∀ (ls : Array Slot) (H : Heap) (locs : List Loc), lv_has ls 2 [(0, .ref (a 0)), (1, .int x)] → gm_M D A s (gr_W dk a) u H locs → W p l e rm_R_valves s m args below meth c H locs 0 0 Q (F0 m 33 ls [.int (if (v_R_isModule x) = true then (v_R_valvesOf u x.toNatClampNeg) else (-1 : Int32))]) := by
      intro ls H locs hl hM
      have hq := hQ H locs 33 ls
      simp only [v_R_valves, if_neg h1] at hq
      exact hq hM d_R_valves_33
    refine gm_ifz (b := (v_R_isModule x)) (tgt := 32) hx hb d_R_valves_21 rfl (fun h2 => ?_) (fun h2 => ?_)
    · refine lv_iconst (v := -1) hx hb d_R_valves_32 (by decide) ?_
      have hJ := J3
      try simp only [if_neg (gm_nf h2)] at hJ
      exact hJ ls H locs hl hM
    · have hm_x := (gr_isM h2).1
      have ex_x := (gr_isM h2).2
      refine lv_aload_n hx hb d_R_valves_24 rfl (lv_at hl 0 rfl) ?_
      refine lv_iload_n hx hb d_R_valves_25 rfl (lv_at hl 1 rfl) ?_
      refine gm_tp (y := (nI x.toNatClampNeg)) ex_x ?_
      refine gm_Vi (As := [.int (nI x.toNatClampNeg)]) (rest := []) hF hM (c_R_valvesOf (u := u) (mn := x.toNatClampNeg) (by omega)) (gk_R_112 hts ⟨by decide, by decide⟩) (gv_R hF hM rfl) rfl hl.1 rfl (Nat.le_of_ble_eq_true rfl) ⟨Nat.zero_le _, Nat.zero_le _⟩ d_R_valves_26 (fun H locs hM => ?_)
      refine lv_goto (tgt := 33) hx hb d_R_valves_29 rfl ?_
      have hJ := J3
      try simp only [if_pos h2] at hJ
      exact hJ ls H locs hl hM
  · refine lv_aload_n hx hb d_R_valves_5 rfl (lv_at hl 0 rfl) ?_
    refine lv_iconst (v := 0) hx hb d_R_valves_6 (by decide) ?_
    refine gm_Vi (As := [.int (nI 0)]) (rest := []) hF hM (c_R_valvesOf (u := u) (mn := 0) (by omega)) (gk_R_112 hts ⟨by decide, by decide⟩) (gv_R hF hM rfl) rfl hl.1 rfl (Nat.le_of_ble_eq_true rfl) ⟨Nat.zero_le _, Nat.zero_le _⟩ d_R_valves_7 (fun H locs hM => ?_)
    refine lv_aload_n hx hb d_R_valves_10 rfl (lv_at hl 0 rfl) ?_
    refine lv_iconst (v := 1) hx hb d_R_valves_11 (by decide) ?_
    refine gm_Vi (As := [.int (nI 1)]) (rest := [.int (v_R_valvesOf u 0)]) hF hM (c_R_valvesOf (u := u) (mn := 1) (by omega)) (gk_R_112 hts ⟨by decide, by decide⟩) (gv_R hF hM rfl) rfl hl.1 rfl (Nat.le_of_ble_eq_true rfl) ⟨Nat.zero_le _, Nat.zero_le _⟩ d_R_valves_12 (fun H locs hM => ?_)
    refine lv_ior hx hb d_R_valves_15 ?_
    have hq := hQ H locs 16 ls
    simp only [v_R_valves, if_pos h1] at hq
    exact hq hM d_R_valves_16
end
section
theorem d_R_sensor_0 : decode b_R_sensor 0 = .ok (.iload_n 1, 1) := by decide +kernel
theorem d_R_sensor_1 : decode b_R_sensor 1 = .ok (.invokestatic 109, 3) := by decide +kernel
theorem d_R_sensor_4 : decode b_R_sensor 4 = .ok (.ifCond .eq 12, 3) := by decide +kernel
theorem d_R_sensor_7 : decode b_R_sensor 7 = .ok (.iload_n 2, 1) := by decide +kernel
theorem d_R_sensor_8 : decode b_R_sensor 8 = .ok (.ifCond .lt 8, 3) := by decide +kernel
theorem d_R_sensor_11 : decode b_R_sensor 11 = .ok (.iload_n 2, 1) := by decide +kernel
theorem d_R_sensor_12 : decode b_R_sensor 12 = .ok (.iconst 5, 1) := by decide +kernel
theorem d_R_sensor_13 : decode b_R_sensor 13 = .ok (.if_icmp .le 5, 3) := by decide +kernel
theorem d_R_sensor_16 : decode b_R_sensor 16 = .ok (.iconst (-1), 1) := by decide +kernel
theorem d_R_sensor_17 : decode b_R_sensor 17 = .ok (.ireturn, 1) := by decide +kernel
theorem d_R_sensor_18 : decode b_R_sensor 18 = .ok (.aload_n 0, 1) := by decide +kernel
theorem d_R_sensor_19 : decode b_R_sensor 19 = .ok (.getfield 16, 3) := by decide +kernel
theorem d_R_sensor_22 : decode b_R_sensor 22 = .ok (.bipush 6, 2) := by decide +kernel
theorem d_R_sensor_24 : decode b_R_sensor 24 = .ok (.iload_n 1, 1) := by decide +kernel
theorem d_R_sensor_25 : decode b_R_sensor 25 = .ok (.imul, 1) := by decide +kernel
theorem d_R_sensor_26 : decode b_R_sensor 26 = .ok (.iload_n 2, 1) := by decide +kernel
theorem d_R_sensor_27 : decode b_R_sensor 27 = .ok (.iadd, 1) := by decide +kernel
theorem d_R_sensor_28 : decode b_R_sensor 28 = .ok (.baload, 1) := by decide +kernel
theorem d_R_sensor_29 : decode b_R_sensor 29 = .ok (.ifCond .eq 7, 3) := by decide +kernel
theorem d_R_sensor_32 : decode b_R_sensor 32 = .ok (.iconst 1, 1) := by decide +kernel
theorem d_R_sensor_33 : decode b_R_sensor 33 = .ok (.goto 4, 3) := by decide +kernel
theorem d_R_sensor_36 : decode b_R_sensor 36 = .ok (.iconst 0, 1) := by decide +kernel
theorem d_R_sensor_37 : decode b_R_sensor 37 = .ok (.aload_n 0, 1) := by decide +kernel
theorem d_R_sensor_38 : decode b_R_sensor 38 = .ok (.getfield 19, 3) := by decide +kernel
theorem d_R_sensor_41 : decode b_R_sensor 41 = .ok (.bipush 6, 2) := by decide +kernel
theorem d_R_sensor_43 : decode b_R_sensor 43 = .ok (.iload_n 1, 1) := by decide +kernel
theorem d_R_sensor_44 : decode b_R_sensor 44 = .ok (.imul, 1) := by decide +kernel
theorem d_R_sensor_45 : decode b_R_sensor 45 = .ok (.iload_n 2, 1) := by decide +kernel
theorem d_R_sensor_46 : decode b_R_sensor 46 = .ok (.iadd, 1) := by decide +kernel
theorem d_R_sensor_47 : decode b_R_sensor 47 = .ok (.baload, 1) := by decide +kernel
theorem d_R_sensor_48 : decode b_R_sensor 48 = .ok (.ifCond .eq 7, 3) := by decide +kernel
theorem d_R_sensor_51 : decode b_R_sensor 51 = .ok (.iconst 2, 1) := by decide +kernel
theorem d_R_sensor_52 : decode b_R_sensor 52 = .ok (.goto 4, 3) := by decide +kernel
theorem d_R_sensor_55 : decode b_R_sensor 55 = .ok (.iconst 0, 1) := by decide +kernel
theorem d_R_sensor_56 : decode b_R_sensor 56 = .ok (.iadd, 1) := by decide +kernel
theorem d_R_sensor_57 : decode b_R_sensor 57 = .ok (.istore_n 3, 1) := by decide +kernel
theorem d_R_sensor_58 : decode b_R_sensor 58 = .ok (.iconst 0, 1) := by decide +kernel
theorem d_R_sensor_59 : decode b_R_sensor 59 = .ok (.istore 4, 2) := by decide +kernel
theorem d_R_sensor_61 : decode b_R_sensor 61 = .ok (.iload 4, 2) := by decide +kernel
theorem d_R_sensor_63 : decode b_R_sensor 63 = .ok (.iconst 3, 1) := by decide +kernel
theorem d_R_sensor_64 : decode b_R_sensor 64 = .ok (.if_icmp .ge 39, 3) := by decide +kernel
theorem d_R_sensor_67 : decode b_R_sensor 67 = .ok (.aload_n 0, 1) := by decide +kernel
theorem d_R_sensor_68 : decode b_R_sensor 68 = .ok (.getfield 13, 3) := by decide +kernel
theorem d_R_sensor_71 : decode b_R_sensor 71 = .ok (.bipush 18, 2) := by decide +kernel
theorem d_R_sensor_73 : decode b_R_sensor 73 = .ok (.iload_n 1, 1) := by decide +kernel
theorem d_R_sensor_74 : decode b_R_sensor 74 = .ok (.imul, 1) := by decide +kernel
theorem d_R_sensor_75 : decode b_R_sensor 75 = .ok (.iconst 3, 1) := by decide +kernel
theorem d_R_sensor_76 : decode b_R_sensor 76 = .ok (.iload_n 2, 1) := by decide +kernel
theorem d_R_sensor_77 : decode b_R_sensor 77 = .ok (.imul, 1) := by decide +kernel
theorem d_R_sensor_78 : decode b_R_sensor 78 = .ok (.iadd, 1) := by decide +kernel
theorem d_R_sensor_79 : decode b_R_sensor 79 = .ok (.iload 4, 2) := by decide +kernel
theorem d_R_sensor_81 : decode b_R_sensor 81 = .ok (.iadd, 1) := by decide +kernel
theorem d_R_sensor_82 : decode b_R_sensor 82 = .ok (.baload, 1) := by decide +kernel
theorem d_R_sensor_83 : decode b_R_sensor 83 = .ok (.ifCond .eq 7, 3) := by decide +kernel
theorem d_R_sensor_86 : decode b_R_sensor 86 = .ok (.iload_n 3, 1) := by decide +kernel
theorem d_R_sensor_87 : decode b_R_sensor 87 = .ok (.goto 9, 3) := by decide +kernel
theorem d_R_sensor_90 : decode b_R_sensor 90 = .ok (.iload_n 3, 1) := by decide +kernel
theorem d_R_sensor_91 : decode b_R_sensor 91 = .ok (.iconst 4, 1) := by decide +kernel
theorem d_R_sensor_92 : decode b_R_sensor 92 = .ok (.iload 4, 2) := by decide +kernel
theorem d_R_sensor_94 : decode b_R_sensor 94 = .ok (.ishl, 1) := by decide +kernel
theorem d_R_sensor_95 : decode b_R_sensor 95 = .ok (.iadd, 1) := by decide +kernel
theorem d_R_sensor_96 : decode b_R_sensor 96 = .ok (.istore_n 3, 1) := by decide +kernel
theorem d_R_sensor_97 : decode b_R_sensor 97 = .ok (.iinc 4 1, 3) := by decide +kernel
theorem d_R_sensor_100 : decode b_R_sensor 100 = .ok (.goto (-39), 3) := by decide +kernel
theorem d_R_sensor_103 : decode b_R_sensor 103 = .ok (.iload_n 3, 1) := by decide +kernel
theorem d_R_sensor_104 : decode b_R_sensor 104 = .ok (.ireturn, 1) := by decide +kernel
def lp_R_sensor (u : gm_St) (mn : Nat) (sn : Nat) : Nat → Nat → Int32 → Int32
  | 0, _, z => z
  | k + 1, i, z => lp_R_sensor u mn sn k (i + 1) (if (u.1 1 (18 * mn + (3 * sn) + i)) = true then z else (z + ((4 : Int32) <<< ((nI i) &&& 31))))
def v_R_sensor (u : gm_St) (x : Int32) (y : Int32) : Int32 := (if (v_R_isModule x) = true then (if y < 0 then (-1 : Int32) else (if y ≤ (5 : Int32) then (lp_R_sensor u x.toNatClampNeg y.toNatClampNeg 3 0 ((gm_b (if (u.1 2 (6 * x.toNatClampNeg + y.toNatClampNeg)) = true then true else false)) + (if (u.1 3 (6 * x.toNatClampNeg + y.toNatClampNeg)) = true then (2 : Int32) else (0 : Int32)))) else (-1 : Int32))) else (-1 : Int32))
set_option maxRecDepth 100000 in
set_option maxHeartbeats 4000000 in
theorem c_R_sensor {l : Launch} {D : va_G} {dk : Nat → ClassId} {a : Nat → Nat} {A : Nat → Prop} {lt : Nat} {u : gm_St} {x : Int32} {y : Int32} : gm_I l D (gm_ty dk) (gr_W dk a) A lt y_R_sensor b_R_sensor 5 (some .int) rm_R_sensor [.ref (a 0), .int x, .int y] u (v_R_sensor u x y) u := by
  refine gm_enterI (by decide) (Nat.le_of_ble_eq_true rfl) ?_
  intro p e s m args below meth c ls Q H locs hF hM hl hQ
  have hx := hF.1
  have hb := hF.2.1
  have hml := hF.2.2.1
  have hown := hF.2.2.2.1
  have hts := hF.2.2.2.2.1
  have hl : lv_has ls 5 [(0, .ref (a 0)), (1, .int x), (2, .int y)] := hl
  refine lv_iload_n hx hb d_R_sensor_0 rfl (lv_at hl 1 rfl) ?_
  refine gm_Si (As := [.int x]) (rest := []) hF hM (c_R_isModule (u := u) (x := x) ) (gk_R_109 hts ⟨by decide, by decide⟩) rfl hl.1 rfl (Nat.le_of_ble_eq_true rfl) ⟨Nat.zero_le _, Nat.zero_le _⟩ d_R_sensor_1 (fun H locs hM => ?_)
  refine gm_ifz (b := (v_R_isModule x)) (tgt := 16) hx hb d_R_sensor_4 rfl (fun h1 => ?_) (fun h1 => ?_)
  · refine lv_iconst (v := -1) hx hb d_R_sensor_16 (by decide) ?_
    have hq := hQ H locs 17 ls
    simp only [v_R_sensor, if_neg (gm_nf h1)] at hq
    exact hq hM d_R_sensor_17
  · obtain ⟨n, h_n, rfl⟩ := gr_isME h1
    refine lv_iload_n hx hb d_R_sensor_7 rfl (lv_at hl 2 rfl) ?_
    refine lv_if_lt (tgt := 16) hx hb d_R_sensor_8 rfl (fun h2 => ?_) (fun h2 => ?_)
    · refine lv_iconst (v := -1) hx hb d_R_sensor_16 (by decide) ?_
      have hq := hQ H locs 17 ls
      simp only [v_R_sensor, if_pos h1, nI_clamp (show n < 2 ^ 31 by omega), if_pos h2] at hq
      exact hq hM d_R_sensor_17
    · refine lv_iload_n hx hb d_R_sensor_11 rfl (lv_at hl 2 rfl) ?_
      refine lv_iconst (v := 5) hx hb d_R_sensor_12 (by decide) ?_
      refine lv_icmp_le (tgt := 18) hx hb d_R_sensor_13 rfl (fun h3 => ?_) (fun h3 => ?_)
      · obtain ⟨q, h_q, rfl⟩ := gm_ixL (lo := 0) (n := 5) h2 h3 (by decide) (by decide)
        refine lv_aload_n hx hb d_R_sensor_18 rfl (lv_at hl 0 rfl) ?_
        refine gf_R_16 hF hM d_R_sensor_19 ?_
        refine lv_bipush (v := 6) hx hb d_R_sensor_22 (by decide) ?_
        refine lv_iload_n hx hb d_R_sensor_24 rfl (lv_at hl 1 rfl) ?_
        refine lv_imul hx hb d_R_sensor_25 ?_
        refine lv_iload_n hx hb d_R_sensor_26 rfl (lv_at hl 2 rfl) ?_
        refine lv_iadd hx hb d_R_sensor_27 ?_
        refine ga_value (k := (6 * n + q)) hF hM (by first | rfl | (simp only [← nI_add, ← pk_mul] <;> rfl)) (by first | omega | exact Nat.mod_lt _ (by decide)) d_R_sensor_28 ?_
        have J5 : ∀ (ls : Array Slot) (H : Heap) (locs : List Loc), lv_has ls 5 [(0, .ref (a 0)), (1, .int (nI n)), (2, .int (nI q))] → gm_M D A s (gr_W dk a) u H locs → W p l e rm_R_sensor s m args below meth c H locs 0 0 Q (F0 m 37 ls [.int (gm_b (if (u.1 2 (6 * n + q)) = true then true else false))]) := by
          intro ls H locs hl hM
          refine lv_aload_n hx hb d_R_sensor_37 rfl (lv_at hl 0 rfl) ?_
          refine gf_R_19 hF hM d_R_sensor_38 ?_
          refine lv_bipush (v := 6) hx hb d_R_sensor_41 (by decide) ?_
          refine lv_iload_n hx hb d_R_sensor_43 rfl (lv_at hl 1 rfl) ?_
          refine lv_imul hx hb d_R_sensor_44 ?_
          refine lv_iload_n hx hb d_R_sensor_45 rfl (lv_at hl 2 rfl) ?_
          refine lv_iadd hx hb d_R_sensor_46 ?_
          refine ga_broken (k := (6 * n + q)) hF hM (by first | rfl | (simp only [← nI_add, ← pk_mul] <;> rfl)) (by first | omega | exact Nat.mod_lt _ (by decide)) d_R_sensor_47 ?_
          have J7 : ∀ (ls : Array Slot) (H : Heap) (locs : List Loc), lv_has ls 5 [(0, .ref (a 0)), (1, .int (nI n)), (2, .int (nI q))] → gm_M D A s (gr_W dk a) u H locs → W p l e rm_R_sensor s m args below meth c H locs 0 0 Q (F0 m 56 ls [.int (if (u.1 3 (6 * n + q)) = true then (2 : Int32) else (0 : Int32)), .int (gm_b (if (u.1 2 (6 * n + q)) = true then true else false))]) := by
            intro ls H locs hl hM
            refine lv_iadd hx hb d_R_sensor_56 ?_
            refine lv_istore_n (lv' := [(3, .int ((gm_b (if (u.1 2 (6 * n + q)) = true then true else false)) + (if (u.1 3 (6 * n + q)) = true then (2 : Int32) else (0 : Int32)))), (0, .ref (a 0)), (1, .int (nI n)), (2, .int (nI q))]) hx hb d_R_sensor_57 rfl hl (by decide) rfl (fun ls hl => ?_)
            refine lv_iconst (v := 0) hx hb d_R_sensor_58 (by decide) ?_
            refine lv_istore (lv' := [(4, .int (0 : Int32)), (3, .int ((gm_b (if (u.1 2 (6 * n + q)) = true then true else false)) + (if (u.1 3 (6 * n + q)) = true then (2 : Int32) else (0 : Int32)))), (0, .ref (a 0)), (1, .int (nI n)), (2, .int (nI q))]) hx hb d_R_sensor_59 hl (by decide) rfl (fun ls hl => ?_)
            have L8 : ∀ (k8 i8 : Nat) (z8 : Int32) (ls : Array Slot) (H : Heap) (locs : List Loc), i8 + k8 = 3 → lv_has ls 5 [(4, .int (nI i8)), (3, .int z8), (0, .ref (a 0)), (1, .int (nI n)), (2, .int (nI q))] → gm_M D A s (gr_W dk a) u H locs → (∀ (ls : Array Slot) (H : Heap) (locs : List Loc), lv_has ls 5 [(4, .int (nI 3)), (3, .int (lp_R_sensor u n q k8 i8 z8)), (0, .ref (a 0)), (1, .int (nI n)), (2, .int (nI q))] → gm_M D A s (gr_W dk a) u H locs → W p l e rm_R_sensor s m args below meth c H locs 0 0 Q (F0 m 103 ls [])) → W p l e rm_R_sensor s m args below meth c H locs 0 0 Q (F0 m 61 ls []) := by
              intro k8
              induction k8 with
              | zero =>
                intro i8 z8 ls H locs hk8 hl hM kk
                obtain rfl : i8 = 3 := by omega
                refine lv_iload hx hb d_R_sensor_61 (lv_at hl 0 rfl) ?_
                refine lv_iconst (v := 3) hx hb d_R_sensor_63 (by decide) ?_
                refine lv_icmp_ge (tgt := 103) hx hb d_R_sensor_64 rfl (fun _ => ?_) (fun h => absurd (by decide) h)
                exact kk ls H locs hl hM
              | succ k8 ih =>
                intro i8 z8 ls H locs hk8 hl hM kk
                refine lv_iload hx hb d_R_sensor_61 (lv_at hl 0 rfl) ?_
                refine lv_iconst (v := 3) hx hb d_R_sensor_63 (by decide) ?_
                refine lv_icmp_ge (tgt := 103) hx hb d_R_sensor_64 rfl (fun h => absurd h (nI_ge (a := i8) (b := 3) (by omega) (by first | decide | omega))) (fun _ => ?_)
                refine lv_aload_n hx hb d_R_sensor_67 rfl (lv_at hl 2 rfl) ?_
                refine gf_R_13 hF hM d_R_sensor_68 ?_
                refine lv_bipush (v := 18) hx hb d_R_sensor_71 (by decide) ?_
                refine lv_iload_n hx hb d_R_sensor_73 rfl (lv_at hl 3 rfl) ?_
                refine lv_imul hx hb d_R_sensor_74 ?_
                refine lv_iconst (v := 3) hx hb d_R_sensor_75 (by decide) ?_
                refine lv_iload_n hx hb d_R_sensor_76 rfl (lv_at hl 4 rfl) ?_
                refine lv_imul hx hb d_R_sensor_77 ?_
                refine lv_iadd hx hb d_R_sensor_78 ?_
                refine lv_iload hx hb d_R_sensor_79 (lv_at hl 0 rfl) ?_
                refine lv_iadd hx hb d_R_sensor_81 ?_
                refine ga_bad (k := (18 * n + (3 * q) + i8)) hF hM (by first | rfl | (simp only [← nI_add, ← pk_mul] <;> rfl)) (by first | omega | exact Nat.mod_lt _ (by decide)) d_R_sensor_82 ?_
                have J10 : ∀ (ls : Array Slot) (H : Heap) (locs : List Loc), lv_has ls 5 [(0, .ref (a 0)), (1, .int (nI n)), (2, .int (nI q)), (3, .int z8), (4, .int (nI i8))] → gm_M D A s (gr_W dk a) u H locs → W p l e rm_R_sensor s m args below meth c H locs 0 0 Q (F0 m 96 ls [.int (if (u.1 1 (18 * n + (3 * q) + i8)) = true then z8 else (z8 + ((4 : Int32) <<< ((nI i8) &&& 31))))]) := by
                  intro ls H locs hl hM
                  refine lv_istore_n (lv' := [(3, .int (if (u.1 1 (18 * n + (3 * q) + i8)) = true then z8 else (z8 + ((4 : Int32) <<< ((nI i8) &&& 31))))), (0, .ref (a 0)), (1, .int (nI n)), (2, .int (nI q)), (4, .int (nI i8))]) hx hb d_R_sensor_96 rfl hl (by decide) rfl (fun ls hl => ?_)
                  refine lv_iinc (k := 4) (v := (nI (i8 + 1))) (lv' := [(4, .int (nI (i8 + 1))), (3, .int (if (u.1 1 (18 * n + (3 * q) + i8)) = true then z8 else (z8 + ((4 : Int32) <<< ((nI i8) &&& 31))))), (0, .ref (a 0)), (1, .int (nI n)), (2, .int (nI q))]) hx hb d_R_sensor_97 hl rfl (nI_1 _) (by decide) rfl (fun ls hl => ?_)
                  refine lv_goto (tgt := 61) hx hb d_R_sensor_100 rfl ?_
                  have hK := kk
                  simp only [lp_R_sensor] at hK
                  exact ih (i8 + 1) (if (u.1 1 (18 * n + (3 * q) + i8)) = true then z8 else (z8 + ((4 : Int32) <<< ((nI i8) &&& 31)))) ls H locs (by omega) hl hM hK
                refine gm_ifz (b := (u.1 1 (18 * n + (3 * q) + i8))) (tgt := 90) hx hb d_R_sensor_83 rfl (fun h9 => ?_) (fun h9 => ?_)
                · refine lv_iload_n hx hb d_R_sensor_90 rfl (lv_at hl 1 rfl) ?_
                  refine lv_iconst (v := 4) hx hb d_R_sensor_91 (by decide) ?_
                  refine lv_iload hx hb d_R_sensor_92 (lv_at hl 0 rfl) ?_
                  refine lv_ishl hx hb d_R_sensor_94 ?_
                  refine lv_iadd hx hb d_R_sensor_95 ?_
                  have hJ := J10
                  try simp only [if_neg (gm_nf h9)] at hJ
                  exact hJ ls H locs (lv_sub hl [2, 3, 4, 1, 0] rfl) hM
                · refine lv_iload_n hx hb d_R_sensor_86 rfl (lv_at hl 1 rfl) ?_
                  refine lv_goto (tgt := 96) hx hb d_R_sensor_87 rfl ?_
                  have hJ := J10
                  try simp only [if_pos h9] at hJ
                  exact hJ ls H locs (lv_sub hl [2, 3, 4, 1, 0] rfl) hM
            refine L8 3 0 ((gm_b (if (u.1 2 (6 * n + q)) = true then true else false)) + (if (u.1 3 (6 * n + q)) = true then (2 : Int32) else (0 : Int32))) ls H locs (by omega) hl hM (fun ls H locs hl hM => ?_)
            refine lv_iload_n hx hb d_R_sensor_103 rfl (lv_at hl 1 rfl) ?_
            have hq := hQ H locs 104 ls
            simp only [v_R_sensor, if_pos h1, nI_clamp (show n < 2 ^ 31 by omega), if_neg h2, if_pos h3, nI_clamp (show q < 2 ^ 31 by omega)] at hq
            exact hq hM d_R_sensor_104
          refine gm_ifz (b := (u.1 3 (6 * n + q))) (tgt := 55) hx hb d_R_sensor_48 rfl (fun h6 => ?_) (fun h6 => ?_)
          · refine lv_iconst (v := 0) hx hb d_R_sensor_55 (by decide) ?_
            have hJ := J7
            try simp only [if_neg (gm_nf h6)] at hJ
            exact hJ ls H locs hl hM
          · refine lv_iconst (v := 2) hx hb d_R_sensor_51 (by decide) ?_
            refine lv_goto (tgt := 56) hx hb d_R_sensor_52 rfl ?_
            have hJ := J7
            try simp only [if_pos h6] at hJ
            exact hJ ls H locs hl hM
        refine gm_ifz (b := (u.1 2 (6 * n + q))) (tgt := 36) hx hb d_R_sensor_29 rfl (fun h4 => ?_) (fun h4 => ?_)
        · refine lv_iconst (v := 0) hx hb d_R_sensor_36 (by decide) ?_
          have hJ := J5
          try simp only [if_neg (gm_nf h4)] at hJ
          exact hJ ls H locs hl hM
        · refine lv_iconst (v := 1) hx hb d_R_sensor_32 (by decide) ?_
          refine lv_goto (tgt := 37) hx hb d_R_sensor_33 rfl ?_
          have hJ := J5
          try simp only [if_pos h4] at hJ
          exact hJ ls H locs hl hM
      · refine lv_iconst (v := -1) hx hb d_R_sensor_16 (by decide) ?_
        have hq := hQ H locs 17 ls
        simp only [v_R_sensor, if_pos h1, nI_clamp (show n < 2 ^ 31 by omega), if_neg h2, if_neg h3] at hq
        exact hq hM d_R_sensor_17
theorem d_R_anomalies_0 : decode b_R_anomalies 0 = .ok (.iload_n 1, 1) := by decide +kernel
theorem d_R_anomalies_1 : decode b_R_anomalies 1 = .ok (.invokestatic 109, 3) := by decide +kernel
theorem d_R_anomalies_4 : decode b_R_anomalies 4 = .ok (.ifCond .ne 5, 3) := by decide +kernel
theorem d_R_anomalies_7 : decode b_R_anomalies 7 = .ok (.iconst (-1), 1) := by decide +kernel
theorem d_R_anomalies_8 : decode b_R_anomalies 8 = .ok (.ireturn, 1) := by decide +kernel
theorem d_R_anomalies_9 : decode b_R_anomalies 9 = .ok (.iconst 0, 1) := by decide +kernel
theorem d_R_anomalies_10 : decode b_R_anomalies 10 = .ok (.istore_n 2, 1) := by decide +kernel
theorem d_R_anomalies_11 : decode b_R_anomalies 11 = .ok (.iconst 0, 1) := by decide +kernel
theorem d_R_anomalies_12 : decode b_R_anomalies 12 = .ok (.istore_n 3, 1) := by decide +kernel
theorem d_R_anomalies_13 : decode b_R_anomalies 13 = .ok (.iload_n 3, 1) := by decide +kernel
theorem d_R_anomalies_14 : decode b_R_anomalies 14 = .ok (.bipush 16, 2) := by decide +kernel
theorem d_R_anomalies_16 : decode b_R_anomalies 16 = .ok (.if_icmp .ge 33, 3) := by decide +kernel
theorem d_R_anomalies_19 : decode b_R_anomalies 19 = .ok (.aload_n 0, 1) := by decide +kernel
theorem d_R_anomalies_20 : decode b_R_anomalies 20 = .ok (.getfield 22, 3) := by decide +kernel
theorem d_R_anomalies_23 : decode b_R_anomalies 23 = .ok (.bipush 16, 2) := by decide +kernel
theorem d_R_anomalies_25 : decode b_R_anomalies 25 = .ok (.iload_n 1, 1) := by decide +kernel
theorem d_R_anomalies_26 : decode b_R_anomalies 26 = .ok (.imul, 1) := by decide +kernel
theorem d_R_anomalies_27 : decode b_R_anomalies 27 = .ok (.iload_n 3, 1) := by decide +kernel
theorem d_R_anomalies_28 : decode b_R_anomalies 28 = .ok (.iadd, 1) := by decide +kernel
theorem d_R_anomalies_29 : decode b_R_anomalies 29 = .ok (.baload, 1) := by decide +kernel
theorem d_R_anomalies_30 : decode b_R_anomalies 30 = .ok (.ifCond .eq 11, 3) := by decide +kernel
theorem d_R_anomalies_33 : decode b_R_anomalies 33 = .ok (.iload_n 2, 1) := by decide +kernel
theorem d_R_anomalies_34 : decode b_R_anomalies 34 = .ok (.iconst 1, 1) := by decide +kernel
theorem d_R_anomalies_35 : decode b_R_anomalies 35 = .ok (.iload_n 3, 1) := by decide +kernel
theorem d_R_anomalies_36 : decode b_R_anomalies 36 = .ok (.ishl, 1) := by decide +kernel
theorem d_R_anomalies_37 : decode b_R_anomalies 37 = .ok (.iadd, 1) := by decide +kernel
theorem d_R_anomalies_38 : decode b_R_anomalies 38 = .ok (.goto 4, 3) := by decide +kernel
theorem d_R_anomalies_41 : decode b_R_anomalies 41 = .ok (.iload_n 2, 1) := by decide +kernel
theorem d_R_anomalies_42 : decode b_R_anomalies 42 = .ok (.istore_n 2, 1) := by decide +kernel
theorem d_R_anomalies_43 : decode b_R_anomalies 43 = .ok (.iinc 3 1, 3) := by decide +kernel
theorem d_R_anomalies_46 : decode b_R_anomalies 46 = .ok (.goto (-33), 3) := by decide +kernel
theorem d_R_anomalies_49 : decode b_R_anomalies 49 = .ok (.iload_n 2, 1) := by decide +kernel
theorem d_R_anomalies_50 : decode b_R_anomalies 50 = .ok (.ireturn, 1) := by decide +kernel
def lp_R_anom (u : gm_St) (mn : Nat) : Nat → Nat → Int32 → Int32
  | 0, _, z => z
  | k + 1, i, z => lp_R_anom u mn k (i + 1) (if (u.1 4 (16 * mn + i)) = true then (z + ((1 : Int32) <<< ((nI i) &&& 31))) else z)
def v_R_anomalies (u : gm_St) (x : Int32) : Int32 := (if (v_R_isModule x) = true then (lp_R_anom u x.toNatClampNeg 16 0 (0 : Int32)) else (-1 : Int32))
set_option maxRecDepth 100000 in
set_option maxHeartbeats 4000000 in
theorem c_R_anomalies {l : Launch} {D : va_G} {dk : Nat → ClassId} {a : Nat → Nat} {A : Nat → Prop} {lt : Nat} {u : gm_St} {x : Int32} : gm_I l D (gm_ty dk) (gr_W dk a) A lt y_R_anomalies b_R_anomalies 4 (some .int) rm_R_anomalies [.ref (a 0), .int x] u (v_R_anomalies u x) u := by
  refine gm_enterI (by decide) (Nat.le_of_ble_eq_true rfl) ?_
  intro p e s m args below meth c ls Q H locs hF hM hl hQ
  have hx := hF.1
  have hb := hF.2.1
  have hml := hF.2.2.1
  have hown := hF.2.2.2.1
  have hts := hF.2.2.2.2.1
  have hl : lv_has ls 4 [(0, .ref (a 0)), (1, .int x)] := hl
  refine lv_iload_n hx hb d_R_anomalies_0 rfl (lv_at hl 1 rfl) ?_
  refine gm_Si (As := [.int x]) (rest := []) hF hM (c_R_isModule (u := u) (x := x) ) (gk_R_109 hts ⟨by decide, by decide⟩) rfl hl.1 rfl (Nat.le_of_ble_eq_true rfl) ⟨Nat.zero_le _, Nat.zero_le _⟩ d_R_anomalies_1 (fun H locs hM => ?_)
  refine gm_ifn (b := (v_R_isModule x)) (tgt := 9) hx hb d_R_anomalies_4 rfl (fun h1 => ?_) (fun h1 => ?_)
  · obtain ⟨n, h_n, rfl⟩ := gr_isME h1
    refine lv_iconst (v := 0) hx hb d_R_anomalies_9 (by decide) ?_
    refine lv_istore_n (lv' := [(2, .int (0 : Int32)), (0, .ref (a 0)), (1, .int (nI n))]) hx hb d_R_anomalies_10 rfl hl (by decide) rfl (fun ls hl => ?_)
    refine lv_iconst (v := 0) hx hb d_R_anomalies_11 (by decide) ?_
    refine lv_istore_n (lv' := [(3, .int (0 : Int32)), (2, .int (0 : Int32)), (0, .ref (a 0)), (1, .int (nI n))]) hx hb d_R_anomalies_12 rfl hl (by decide) rfl (fun ls hl => ?_)
    have L2 : ∀ (k2 i2 : Nat) (z2 : Int32) (ls : Array Slot) (H : Heap) (locs : List Loc), i2 + k2 = 16 → lv_has ls 4 [(3, .int (nI i2)), (2, .int z2), (0, .ref (a 0)), (1, .int (nI n))] → gm_M D A s (gr_W dk a) u H locs → (∀ (ls : Array Slot) (H : Heap) (locs : List Loc), lv_has ls 4 [(3, .int (nI 16)), (2, .int (lp_R_anom u n k2 i2 z2)), (0, .ref (a 0)), (1, .int (nI n))] → gm_M D A s (gr_W dk a) u H locs → W p l e rm_R_anomalies s m args below meth c H locs 0 0 Q (F0 m 49 ls [])) → W p l e rm_R_anomalies s m args below meth c H locs 0 0 Q (F0 m 13 ls []) := by
      intro k2
      induction k2 with
      | zero =>
        intro i2 z2 ls H locs hk2 hl hM kk
        obtain rfl : i2 = 16 := by omega
        refine lv_iload_n hx hb d_R_anomalies_13 rfl (lv_at hl 0 rfl) ?_
        refine lv_bipush (v := 16) hx hb d_R_anomalies_14 (by decide) ?_
        refine lv_icmp_ge (tgt := 49) hx hb d_R_anomalies_16 rfl (fun _ => ?_) (fun h => absurd (by decide) h)
        exact kk ls H locs hl hM
      | succ k2 ih =>
        intro i2 z2 ls H locs hk2 hl hM kk
        refine lv_iload_n hx hb d_R_anomalies_13 rfl (lv_at hl 0 rfl) ?_
        refine lv_bipush (v := 16) hx hb d_R_anomalies_14 (by decide) ?_
        refine lv_icmp_ge (tgt := 49) hx hb d_R_anomalies_16 rfl (fun h => absurd h (nI_ge (a := i2) (b := 16) (by omega) (by first | decide | omega))) (fun _ => ?_)
        refine lv_aload_n hx hb d_R_anomalies_19 rfl (lv_at hl 2 rfl) ?_
        refine gf_R_22 hF hM d_R_anomalies_20 ?_
        refine lv_bipush (v := 16) hx hb d_R_anomalies_23 (by decide) ?_
        refine lv_iload_n hx hb d_R_anomalies_25 rfl (lv_at hl 3 rfl) ?_
        refine lv_imul hx hb d_R_anomalies_26 ?_
        refine lv_iload_n hx hb d_R_anomalies_27 rfl (lv_at hl 0 rfl) ?_
        refine lv_iadd hx hb d_R_anomalies_28 ?_
        refine ga_had (k := (16 * n + i2)) hF hM (by first | rfl | (simp only [← nI_add, ← pk_mul] <;> rfl)) (by first | omega | exact Nat.mod_lt _ (by decide)) d_R_anomalies_29 ?_
        have J4 : ∀ (ls : Array Slot) (H : Heap) (locs : List Loc), lv_has ls 4 [(0, .ref (a 0)), (1, .int (nI n)), (2, .int z2), (3, .int (nI i2))] → gm_M D A s (gr_W dk a) u H locs → W p l e rm_R_anomalies s m args below meth c H locs 0 0 Q (F0 m 42 ls [.int (if (u.1 4 (16 * n + i2)) = true then (z2 + ((1 : Int32) <<< ((nI i2) &&& 31))) else z2)]) := by
          intro ls H locs hl hM
          refine lv_istore_n (lv' := [(2, .int (if (u.1 4 (16 * n + i2)) = true then (z2 + ((1 : Int32) <<< ((nI i2) &&& 31))) else z2)), (0, .ref (a 0)), (1, .int (nI n)), (3, .int (nI i2))]) hx hb d_R_anomalies_42 rfl hl (by decide) rfl (fun ls hl => ?_)
          refine lv_iinc (k := 3) (v := (nI (i2 + 1))) (lv' := [(3, .int (nI (i2 + 1))), (2, .int (if (u.1 4 (16 * n + i2)) = true then (z2 + ((1 : Int32) <<< ((nI i2) &&& 31))) else z2)), (0, .ref (a 0)), (1, .int (nI n))]) hx hb d_R_anomalies_43 hl rfl (nI_1 _) (by decide) rfl (fun ls hl => ?_)
          refine lv_goto (tgt := 13) hx hb d_R_anomalies_46 rfl ?_
          have hK := kk
          simp only [lp_R_anom] at hK
          exact ih (i2 + 1) (if (u.1 4 (16 * n + i2)) = true then (z2 + ((1 : Int32) <<< ((nI i2) &&& 31))) else z2) ls H locs (by omega) hl hM hK
        refine gm_ifz (b := (u.1 4 (16 * n + i2))) (tgt := 41) hx hb d_R_anomalies_30 rfl (fun h3 => ?_) (fun h3 => ?_)
        · refine lv_iload_n hx hb d_R_anomalies_41 rfl (lv_at hl 1 rfl) ?_
          have hJ := J4
          try simp only [if_neg (gm_nf h3)] at hJ
          exact hJ ls H locs (lv_sub hl [2, 3, 1, 0] rfl) hM
        · refine lv_iload_n hx hb d_R_anomalies_33 rfl (lv_at hl 1 rfl) ?_
          refine lv_iconst (v := 1) hx hb d_R_anomalies_34 (by decide) ?_
          refine lv_iload_n hx hb d_R_anomalies_35 rfl (lv_at hl 0 rfl) ?_
          refine lv_ishl hx hb d_R_anomalies_36 ?_
          refine lv_iadd hx hb d_R_anomalies_37 ?_
          refine lv_goto (tgt := 42) hx hb d_R_anomalies_38 rfl ?_
          have hJ := J4
          try simp only [if_pos h3] at hJ
          exact hJ ls H locs (lv_sub hl [2, 3, 1, 0] rfl) hM
    refine L2 16 0 (0 : Int32) ls H locs (by omega) hl hM (fun ls H locs hl hM => ?_)
    refine lv_iload_n hx hb d_R_anomalies_49 rfl (lv_at hl 1 rfl) ?_
    have hq := hQ H locs 50 ls
    simp only [v_R_anomalies, if_pos h1, nI_clamp (show n < 2 ^ 31 by omega)] at hq
    exact hq hM d_R_anomalies_50
  · refine lv_iconst (v := -1) hx hb d_R_anomalies_7 (by decide) ?_
    have hq := hQ H locs 8 ls
    simp only [v_R_anomalies, if_neg (gm_nf h1)] at hq
    exact hq hM d_R_anomalies_8
theorem d_R_running_0 : decode b_R_running 0 = .ok (.iload_n 1, 1) := by decide +kernel
theorem d_R_running_1 : decode b_R_running 1 = .ok (.invokestatic 109, 3) := by decide +kernel
theorem d_R_running_4 : decode b_R_running 4 = .ok (.ifCond .eq 15, 3) := by decide +kernel
theorem d_R_running_7 : decode b_R_running 7 = .ok (.iload_n 2, 1) := by decide +kernel
theorem d_R_running_8 : decode b_R_running 8 = .ok (.bipush 6, 2) := by decide +kernel
theorem d_R_running_10 : decode b_R_running 10 = .ok (.if_icmp .lt 9, 3) := by decide +kernel
theorem d_R_running_13 : decode b_R_running 13 = .ok (.iload_n 2, 1) := by decide +kernel
theorem d_R_running_14 : decode b_R_running 14 = .ok (.bipush 15, 2) := by decide +kernel
theorem d_R_running_16 : decode b_R_running 16 = .ok (.if_icmp .le 5, 3) := by decide +kernel
theorem d_R_running_19 : decode b_R_running 19 = .ok (.iconst (-1), 1) := by decide +kernel
theorem d_R_running_20 : decode b_R_running 20 = .ok (.ireturn, 1) := by decide +kernel
theorem d_R_running_21 : decode b_R_running 21 = .ok (.iload_n 2, 1) := by decide +kernel
theorem d_R_running_22 : decode b_R_running 22 = .ok (.bipush 14, 2) := by decide +kernel
theorem d_R_running_24 : decode b_R_running 24 = .ok (.if_icmp .ne 12, 3) := by decide +kernel
theorem d_R_running_27 : decode b_R_running 27 = .ok (.aload_n 0, 1) := by decide +kernel
theorem d_R_running_28 : decode b_R_running 28 = .ok (.getfield 32, 3) := by decide +kernel
theorem d_R_running_31 : decode b_R_running 31 = .ok (.iload_n 1, 1) := by decide +kernel
theorem d_R_running_32 : decode b_R_running 32 = .ok (.iaload, 1) := by decide +kernel
theorem d_R_running_33 : decode b_R_running 33 = .ok (.goto 14, 3) := by decide +kernel
theorem d_R_running_36 : decode b_R_running 36 = .ok (.aload_n 0, 1) := by decide +kernel
theorem d_R_running_37 : decode b_R_running 37 = .ok (.getfield 25, 3) := by decide +kernel
theorem d_R_running_40 : decode b_R_running 40 = .ok (.bipush 16, 2) := by decide +kernel
theorem d_R_running_42 : decode b_R_running 42 = .ok (.iload_n 1, 1) := by decide +kernel
theorem d_R_running_43 : decode b_R_running 43 = .ok (.imul, 1) := by decide +kernel
theorem d_R_running_44 : decode b_R_running 44 = .ok (.iload_n 2, 1) := by decide +kernel
theorem d_R_running_45 : decode b_R_running 45 = .ok (.iadd, 1) := by decide +kernel
theorem d_R_running_46 : decode b_R_running 46 = .ok (.iaload, 1) := by decide +kernel
theorem d_R_running_47 : decode b_R_running 47 = .ok (.ireturn, 1) := by decide +kernel
def v_R_running (u : gm_St) (x : Int32) (y : Int32) : Int32 := (if (v_R_isModule x) = true then (if y < (6 : Int32) then (-1 : Int32) else (if y ≤ (15 : Int32) then (if y = (14 : Int32) then (u.2.1 1 x.toNatClampNeg) else (u.2.1 0 (16 * x.toNatClampNeg + y.toNatClampNeg))) else (-1 : Int32))) else (-1 : Int32))
set_option maxRecDepth 100000 in
set_option maxHeartbeats 4000000 in
theorem c_R_running {l : Launch} {D : va_G} {dk : Nat → ClassId} {a : Nat → Nat} {A : Nat → Prop} {lt : Nat} {u : gm_St} {x : Int32} {y : Int32} : gm_I l D (gm_ty dk) (gr_W dk a) A lt y_R_running b_R_running 3 (some .int) rm_R_running [.ref (a 0), .int x, .int y] u (v_R_running u x y) u := by
  refine gm_enterI (by decide) (Nat.le_of_ble_eq_true rfl) ?_
  intro p e s m args below meth c ls Q H locs hF hM hl hQ
  have hx := hF.1
  have hb := hF.2.1
  have hml := hF.2.2.1
  have hown := hF.2.2.2.1
  have hts := hF.2.2.2.2.1
  have hl : lv_has ls 3 [(0, .ref (a 0)), (1, .int x), (2, .int y)] := hl
  refine lv_iload_n hx hb d_R_running_0 rfl (lv_at hl 1 rfl) ?_
  refine gm_Si (As := [.int x]) (rest := []) hF hM (c_R_isModule (u := u) (x := x) ) (gk_R_109 hts ⟨by decide, by decide⟩) rfl hl.1 rfl (Nat.le_of_ble_eq_true rfl) ⟨Nat.zero_le _, Nat.zero_le _⟩ d_R_running_1 (fun H locs hM => ?_)
  refine gm_ifz (b := (v_R_isModule x)) (tgt := 19) hx hb d_R_running_4 rfl (fun h1 => ?_) (fun h1 => ?_)
  · refine lv_iconst (v := -1) hx hb d_R_running_19 (by decide) ?_
    have hq := hQ H locs 20 ls
    simp only [v_R_running, if_neg (gm_nf h1)] at hq
    exact hq hM d_R_running_20
  · obtain ⟨n, h_n, rfl⟩ := gr_isME h1
    refine lv_iload_n hx hb d_R_running_7 rfl (lv_at hl 2 rfl) ?_
    refine lv_bipush (v := 6) hx hb d_R_running_8 (by decide) ?_
    refine lv_icmp_lt (tgt := 19) hx hb d_R_running_10 rfl (fun h2 => ?_) (fun h2 => ?_)
    · refine lv_iconst (v := -1) hx hb d_R_running_19 (by decide) ?_
      have hq := hQ H locs 20 ls
      simp only [v_R_running, if_pos h1, nI_clamp (show n < 2 ^ 31 by omega), if_pos h2] at hq
      exact hq hM d_R_running_20
    · refine lv_iload_n hx hb d_R_running_13 rfl (lv_at hl 2 rfl) ?_
      refine lv_bipush (v := 15) hx hb d_R_running_14 (by decide) ?_
      refine lv_icmp_le (tgt := 21) hx hb d_R_running_16 rfl (fun h3 => ?_) (fun h3 => ?_)
      · obtain ⟨q, h_q, rfl⟩ := gm_ixL (lo := 6) (n := 15) h2 h3 (by decide) (by decide)
        refine lv_iload_n hx hb d_R_running_21 rfl (lv_at hl 2 rfl) ?_
        refine lv_bipush (v := 14) hx hb d_R_running_22 (by decide) ?_
        have J5 : ∀ (ls : Array Slot) (H : Heap) (locs : List Loc), lv_has ls 3 [(0, .ref (a 0)), (1, .int (nI n)), (2, .int (nI q))] → gm_M D A s (gr_W dk a) u H locs → W p l e rm_R_running s m args below meth c H locs 0 0 Q (F0 m 47 ls [.int (if (nI q) = (14 : Int32) then (u.2.1 1 n) else (u.2.1 0 (16 * n + q)))]) := by
          intro ls H locs hl hM
          have hq := hQ H locs 47 ls
          simp only [v_R_running, if_pos h1, nI_clamp (show n < 2 ^ 31 by omega), if_neg h2, if_pos h3, nI_clamp (show q < 2 ^ 31 by omega)] at hq
          exact hq hM d_R_running_47
        refine lv_icmp_ne (tgt := 36) hx hb d_R_running_24 rfl (fun h4 => ?_) (fun h4 => ?_)
        · refine lv_aload_n hx hb d_R_running_36 rfl (lv_at hl 0 rfl) ?_
          refine gf_R_25 hF hM d_R_running_37 ?_
          refine lv_bipush (v := 16) hx hb d_R_running_40 (by decide) ?_
          refine lv_iload_n hx hb d_R_running_42 rfl (lv_at hl 1 rfl) ?_
          refine lv_imul hx hb d_R_running_43 ?_
          refine lv_iload_n hx hb d_R_running_44 rfl (lv_at hl 2 rfl) ?_
          refine lv_iadd hx hb d_R_running_45 ?_
          refine ga_held (k := (16 * n + q)) hF hM (by first | rfl | (simp only [← nI_add, ← pk_mul] <;> rfl)) (by first | omega | exact Nat.mod_lt _ (by decide)) d_R_running_46 ?_
          have hJ := J5
          try simp only [if_neg h4] at hJ
          exact hJ ls H locs hl hM
        · refine lv_aload_n hx hb d_R_running_27 rfl (lv_at hl 0 rfl) ?_
          refine gf_R_32 hF hM d_R_running_28 ?_
          refine lv_iload_n hx hb d_R_running_31 rfl (lv_at hl 1 rfl) ?_
          refine ga_waited (k := n) hF hM rfl (by first | omega | exact Nat.mod_lt _ (by decide)) d_R_running_32 ?_
          refine lv_goto (tgt := 47) hx hb d_R_running_33 rfl ?_
          have hJ := J5
          try simp only [if_pos h4] at hJ
          exact hJ ls H locs hl hM
      · refine lv_iconst (v := -1) hx hb d_R_running_19 (by decide) ?_
        have hq := hQ H locs 20 ls
        simp only [v_R_running, if_pos h1, nI_clamp (show n < 2 ^ 31 by omega), if_neg h2, if_neg h3] at hq
        exact hq hM d_R_running_20
theorem d_R_lights_0 : decode b_R_lights 0 = .ok (.iconst 0, 1) := by decide +kernel
theorem d_R_lights_1 : decode b_R_lights 1 = .ok (.istore_n 1, 1) := by decide +kernel
theorem d_R_lights_2 : decode b_R_lights 2 = .ok (.iconst 0, 1) := by decide +kernel
theorem d_R_lights_3 : decode b_R_lights 3 = .ok (.istore_n 2, 1) := by decide +kernel
theorem d_R_lights_4 : decode b_R_lights 4 = .ok (.iconst 0, 1) := by decide +kernel
theorem d_R_lights_5 : decode b_R_lights 5 = .ok (.istore_n 3, 1) := by decide +kernel
theorem d_R_lights_6 : decode b_R_lights 6 = .ok (.iload_n 3, 1) := by decide +kernel
theorem d_R_lights_7 : decode b_R_lights 7 = .ok (.iconst 2, 1) := by decide +kernel
theorem d_R_lights_8 : decode b_R_lights 8 = .ok (.if_icmp .ge 72, 3) := by decide +kernel
theorem d_R_lights_11 : decode b_R_lights 11 = .ok (.iload_n 1, 1) := by decide +kernel
theorem d_R_lights_12 : decode b_R_lights 12 = .ok (.ifCond .ne 38, 3) := by decide +kernel
theorem d_R_lights_15 : decode b_R_lights 15 = .ok (.aload_n 0, 1) := by decide +kernel
theorem d_R_lights_16 : decode b_R_lights 16 = .ok (.getfield 7, 3) := by decide +kernel
theorem d_R_lights_19 : decode b_R_lights 19 = .ok (.iload_n 3, 1) := by decide +kernel
theorem d_R_lights_20 : decode b_R_lights 20 = .ok (.baload, 1) := by decide +kernel
theorem d_R_lights_21 : decode b_R_lights 21 = .ok (.ifCond .ne 33, 3) := by decide +kernel
theorem d_R_lights_24 : decode b_R_lights 24 = .ok (.aload_n 0, 1) := by decide +kernel
theorem d_R_lights_25 : decode b_R_lights 25 = .ok (.getfield 16, 3) := by decide +kernel
theorem d_R_lights_28 : decode b_R_lights 28 = .ok (.bipush 6, 2) := by decide +kernel
theorem d_R_lights_30 : decode b_R_lights 30 = .ok (.iload_n 3, 1) := by decide +kernel
theorem d_R_lights_31 : decode b_R_lights 31 = .ok (.imul, 1) := by decide +kernel
theorem d_R_lights_32 : decode b_R_lights 32 = .ok (.baload, 1) := by decide +kernel
theorem d_R_lights_33 : decode b_R_lights 33 = .ok (.ifCond .eq 21, 3) := by decide +kernel
theorem d_R_lights_36 : decode b_R_lights 36 = .ok (.aload_n 0, 1) := by decide +kernel
theorem d_R_lights_37 : decode b_R_lights 37 = .ok (.getfield 16, 3) := by decide +kernel
theorem d_R_lights_40 : decode b_R_lights 40 = .ok (.bipush 6, 2) := by decide +kernel
theorem d_R_lights_42 : decode b_R_lights 42 = .ok (.iload_n 3, 1) := by decide +kernel
theorem d_R_lights_43 : decode b_R_lights 43 = .ok (.imul, 1) := by decide +kernel
theorem d_R_lights_44 : decode b_R_lights 44 = .ok (.iconst 1, 1) := by decide +kernel
theorem d_R_lights_45 : decode b_R_lights 45 = .ok (.iadd, 1) := by decide +kernel
theorem d_R_lights_46 : decode b_R_lights 46 = .ok (.baload, 1) := by decide +kernel
theorem d_R_lights_47 : decode b_R_lights 47 = .ok (.ifCond .ne 7, 3) := by decide +kernel
theorem d_R_lights_50 : decode b_R_lights 50 = .ok (.iconst 1, 1) := by decide +kernel
theorem d_R_lights_51 : decode b_R_lights 51 = .ok (.goto 4, 3) := by decide +kernel
theorem d_R_lights_54 : decode b_R_lights 54 = .ok (.iconst 0, 1) := by decide +kernel
theorem d_R_lights_55 : decode b_R_lights 55 = .ok (.istore_n 1, 1) := by decide +kernel
theorem d_R_lights_56 : decode b_R_lights 56 = .ok (.iload_n 2, 1) := by decide +kernel
theorem d_R_lights_57 : decode b_R_lights 57 = .ok (.ifCond .ne 11, 3) := by decide +kernel
theorem d_R_lights_60 : decode b_R_lights 60 = .ok (.aload_n 0, 1) := by decide +kernel
theorem d_R_lights_61 : decode b_R_lights 61 = .ok (.iload_n 3, 1) := by decide +kernel
theorem d_R_lights_62 : decode b_R_lights 62 = .ok (.invokevirtual 115, 3) := by decide +kernel
theorem d_R_lights_65 : decode b_R_lights 65 = .ok (.ifCond .eq 7, 3) := by decide +kernel
theorem d_R_lights_68 : decode b_R_lights 68 = .ok (.iconst 1, 1) := by decide +kernel
theorem d_R_lights_69 : decode b_R_lights 69 = .ok (.goto 4, 3) := by decide +kernel
theorem d_R_lights_72 : decode b_R_lights 72 = .ok (.iconst 0, 1) := by decide +kernel
theorem d_R_lights_73 : decode b_R_lights 73 = .ok (.istore_n 2, 1) := by decide +kernel
theorem d_R_lights_74 : decode b_R_lights 74 = .ok (.iinc 3 1, 3) := by decide +kernel
theorem d_R_lights_77 : decode b_R_lights 77 = .ok (.goto (-71), 3) := by decide +kernel
theorem d_R_lights_80 : decode b_R_lights 80 = .ok (.aload_n 0, 1) := by decide +kernel
theorem d_R_lights_81 : decode b_R_lights 81 = .ok (.iconst (-1), 1) := by decide +kernel
theorem d_R_lights_82 : decode b_R_lights 82 = .ok (.invokevirtual 118, 3) := by decide +kernel
theorem d_R_lights_85 : decode b_R_lights 85 = .ok (.iconst 1, 1) := by decide +kernel
theorem d_R_lights_86 : decode b_R_lights 86 = .ok (.if_icmp .le 7, 3) := by decide +kernel
theorem d_R_lights_89 : decode b_R_lights 89 = .ok (.iconst 1, 1) := by decide +kernel
theorem d_R_lights_90 : decode b_R_lights 90 = .ok (.goto 4, 3) := by decide +kernel
theorem d_R_lights_93 : decode b_R_lights 93 = .ok (.iconst 0, 1) := by decide +kernel
theorem d_R_lights_94 : decode b_R_lights 94 = .ok (.istore_n 3, 1) := by decide +kernel
theorem d_R_lights_95 : decode b_R_lights 95 = .ok (.iload_n 1, 1) := by decide +kernel
theorem d_R_lights_96 : decode b_R_lights 96 = .ok (.ifCond .eq 7, 3) := by decide +kernel
theorem d_R_lights_99 : decode b_R_lights 99 = .ok (.iconst 1, 1) := by decide +kernel
theorem d_R_lights_100 : decode b_R_lights 100 = .ok (.goto 4, 3) := by decide +kernel
theorem d_R_lights_103 : decode b_R_lights 103 = .ok (.iconst 0, 1) := by decide +kernel
theorem d_R_lights_104 : decode b_R_lights 104 = .ok (.iload_n 3, 1) := by decide +kernel
theorem d_R_lights_105 : decode b_R_lights 105 = .ok (.ifCond .eq 7, 3) := by decide +kernel
theorem d_R_lights_108 : decode b_R_lights 108 = .ok (.iconst 2, 1) := by decide +kernel
theorem d_R_lights_109 : decode b_R_lights 109 = .ok (.goto 4, 3) := by decide +kernel
theorem d_R_lights_112 : decode b_R_lights 112 = .ok (.iconst 0, 1) := by decide +kernel
theorem d_R_lights_113 : decode b_R_lights 113 = .ok (.iadd, 1) := by decide +kernel
theorem d_R_lights_114 : decode b_R_lights 114 = .ok (.iload_n 2, 1) := by decide +kernel
theorem d_R_lights_115 : decode b_R_lights 115 = .ok (.ifCond .eq 7, 3) := by decide +kernel
theorem d_R_lights_118 : decode b_R_lights 118 = .ok (.iconst 4, 1) := by decide +kernel
theorem d_R_lights_119 : decode b_R_lights 119 = .ok (.goto 4, 3) := by decide +kernel
theorem d_R_lights_122 : decode b_R_lights 122 = .ok (.iconst 0, 1) := by decide +kernel
theorem d_R_lights_123 : decode b_R_lights 123 = .ok (.iadd, 1) := by decide +kernel
theorem d_R_lights_124 : decode b_R_lights 124 = .ok (.ireturn, 1) := by decide +kernel
def lp_R_lights (u : gm_St) : Nat → Nat → Bool → Bool → Bool × Bool
  | 0, _, gb, rb => (gb, rb)
  | k + 1, i, gb, rb => lp_R_lights u k (i + 1) (if gb = true then true else (if (u.1 0 i) = true then false else (if (u.1 2 (6 * i)) = true then (if (u.1 2 (6 * i + 1)) = true then false else true) else false))) (if rb = true then true else (if (v_R_anomalies u (nI i)) = 0 then false else true))
def v_R_lights (u : gm_St) : Int32 := (((gm_b (if ((lp_R_lights u 2 0 false false).1) = true then true else false)) + (if (if (v_R_valves u (-1 : Int32)) ≤ (1 : Int32) then false else true) = true then (2 : Int32) else (0 : Int32))) + (if ((lp_R_lights u 2 0 false false).2) = true then (4 : Int32) else (0 : Int32)))
set_option maxRecDepth 100000 in
set_option maxHeartbeats 4000000 in
theorem c_R_lights {l : Launch} {D : va_G} {dk : Nat → ClassId} {a : Nat → Nat} {A : Nat → Prop} {lt : Nat} {u : gm_St} : gm_I l D (gm_ty dk) (gr_W dk a) A lt y_R_lights b_R_lights 4 (some .int) rm_R_lights [.ref (a 0)] u (v_R_lights u) u := by
  refine gm_enterI (by decide) (Nat.le_of_ble_eq_true rfl) ?_
  intro p e s m args below meth c ls Q H locs hF hM hl hQ
  have hx := hF.1
  have hb := hF.2.1
  have hml := hF.2.2.1
  have hown := hF.2.2.2.1
  have hts := hF.2.2.2.2.1
  have hl : lv_has ls 4 [(0, .ref (a 0))] := hl
  refine lv_iconst (v := 0) hx hb d_R_lights_0 (by decide) ?_
  refine lv_istore_n (lv' := [(1, .int (0 : Int32)), (0, .ref (a 0))]) hx hb d_R_lights_1 rfl hl (by decide) rfl (fun ls hl => ?_)
  refine lv_iconst (v := 0) hx hb d_R_lights_2 (by decide) ?_
  refine lv_istore_n (lv' := [(2, .int (0 : Int32)), (1, .int (0 : Int32)), (0, .ref (a 0))]) hx hb d_R_lights_3 rfl hl (by decide) rfl (fun ls hl => ?_)
  refine lv_iconst (v := 0) hx hb d_R_lights_4 (by decide) ?_
  refine lv_istore_n (lv' := [(3, .int (0 : Int32)), (2, .int (0 : Int32)), (1, .int (0 : Int32)), (0, .ref (a 0))]) hx hb d_R_lights_5 rfl hl (by decide) rfl (fun ls hl => ?_)
  have L1 : ∀ (k1 i1 : Nat) (gb1 : Bool) (rb1 : Bool) (ls : Array Slot) (H : Heap) (locs : List Loc), i1 + k1 = 2 → lv_has ls 4 [(3, .int (nI i1)), (2, .int (gm_b rb1)), (1, .int (gm_b gb1)), (0, .ref (a 0))] → gm_M D A s (gr_W dk a) u H locs → (∀ (ls : Array Slot) (H : Heap) (locs : List Loc), lv_has ls 4 [(3, .int (nI 2)), (2, .int (gm_b ((lp_R_lights u k1 i1 gb1 rb1).2))), (1, .int (gm_b ((lp_R_lights u k1 i1 gb1 rb1).1))), (0, .ref (a 0))] → gm_M D A s (gr_W dk a) u H locs → W p l e rm_R_lights s m args below meth c H locs 0 0 Q (F0 m 80 ls [])) → W p l e rm_R_lights s m args below meth c H locs 0 0 Q (F0 m 6 ls []) := by
    intro k1
    induction k1 with
    | zero =>
      intro i1 gb1 rb1 ls H locs hk1 hl hM kk
      obtain rfl : i1 = 2 := by omega
      refine lv_iload_n hx hb d_R_lights_6 rfl (lv_at hl 0 rfl) ?_
      refine lv_iconst (v := 2) hx hb d_R_lights_7 (by decide) ?_
      refine lv_icmp_ge (tgt := 80) hx hb d_R_lights_8 rfl (fun _ => ?_) (fun h => absurd (by decide) h)
      exact kk ls H locs hl hM
    | succ k1 ih =>
      intro i1 gb1 rb1 ls H locs hk1 hl hM kk
      refine lv_iload_n hx hb d_R_lights_6 rfl (lv_at hl 0 rfl) ?_
      refine lv_iconst (v := 2) hx hb d_R_lights_7 (by decide) ?_
      refine lv_icmp_ge (tgt := 80) hx hb d_R_lights_8 rfl (fun h => absurd h (nI_ge (a := i1) (b := 2) (by omega) (by first | decide | omega))) (fun _ => ?_)
      refine lv_iload_n hx hb d_R_lights_11 rfl (lv_at hl 2 rfl) ?_
      have J3 : ∀ (ls : Array Slot) (H : Heap) (locs : List Loc), lv_has ls 4 [(0, .ref (a 0)), (1, .int (gm_b gb1)), (2, .int (gm_b rb1)), (3, .int (nI i1))] → gm_M D A s (gr_W dk a) u H locs → W p l e rm_R_lights s m args below meth c H locs 0 0 Q (F0 m 55 ls [.int (gm_b (if gb1 = true then true else (if (u.1 0 i1) = true then false else (if (u.1 2 (6 * i1)) = true then (if (u.1 2 (6 * i1 + 1)) = true then false else true) else false))))]) := by
        intro ls H locs hl hM
        refine lv_istore_n (lv' := [(1, .int (gm_b (if gb1 = true then true else (if (u.1 0 i1) = true then false else (if (u.1 2 (6 * i1)) = true then (if (u.1 2 (6 * i1 + 1)) = true then false else true) else false))))), (0, .ref (a 0)), (2, .int (gm_b rb1)), (3, .int (nI i1))]) hx hb d_R_lights_55 rfl hl (by decide) rfl (fun ls hl => ?_)
        refine lv_iload_n hx hb d_R_lights_56 rfl (lv_at hl 2 rfl) ?_
        have J5 : ∀ (ls : Array Slot) (H : Heap) (locs : List Loc), lv_has ls 4 [(0, .ref (a 0)), (1, .int (gm_b (if gb1 = true then true else (if (u.1 0 i1) = true then false else (if (u.1 2 (6 * i1)) = true then (if (u.1 2 (6 * i1 + 1)) = true then false else true) else false))))), (2, .int (gm_b rb1)), (3, .int (nI i1))] → gm_M D A s (gr_W dk a) u H locs → W p l e rm_R_lights s m args below meth c H locs 0 0 Q (F0 m 73 ls [.int (gm_b (if rb1 = true then true else (if (v_R_anomalies u (nI i1)) = 0 then false else true)))]) := by
          intro ls H locs hl hM
          refine lv_istore_n (lv' := [(2, .int (gm_b (if rb1 = true then true else (if (v_R_anomalies u (nI i1)) = 0 then false else true)))), (0, .ref (a 0)), (1, .int (gm_b (if gb1 = true then true else (if (u.1 0 i1) = true then false else (if (u.1 2 (6 * i1)) = true then (if (u.1 2 (6 * i1 + 1)) = true then false else true) else false))))), (3, .int (nI i1))]) hx hb d_R_lights_73 rfl hl (by decide) rfl (fun ls hl => ?_)
          refine lv_iinc (k := 3) (v := (nI (i1 + 1))) (lv' := [(3, .int (nI (i1 + 1))), (2, .int (gm_b (if rb1 = true then true else (if (v_R_anomalies u (nI i1)) = 0 then false else true)))), (0, .ref (a 0)), (1, .int (gm_b (if gb1 = true then true else (if (u.1 0 i1) = true then false else (if (u.1 2 (6 * i1)) = true then (if (u.1 2 (6 * i1 + 1)) = true then false else true) else false)))))]) hx hb d_R_lights_74 hl rfl (nI_1 _) (by decide) rfl (fun ls hl => ?_)
          refine lv_goto (tgt := 6) hx hb d_R_lights_77 rfl ?_
          have hK := kk
          simp only [lp_R_lights] at hK
          exact ih (i1 + 1) (if gb1 = true then true else (if (u.1 0 i1) = true then false else (if (u.1 2 (6 * i1)) = true then (if (u.1 2 (6 * i1 + 1)) = true then false else true) else false))) (if rb1 = true then true else (if (v_R_anomalies u (nI i1)) = 0 then false else true)) ls H locs (by omega) (lv_sub hl [0, 1, 3, 2] rfl) hM hK
        refine gm_ifn (b := rb1) (tgt := 68) hx hb d_R_lights_57 rfl (fun h4 => ?_) (fun h4 => ?_)
        · refine lv_iconst (v := 1) hx hb d_R_lights_68 (by decide) ?_
          refine lv_goto (tgt := 73) hx hb d_R_lights_69 rfl ?_
          have hJ := J5
          try simp only [if_pos h4] at hJ
          exact hJ ls H locs (lv_sub hl [1, 0, 2, 3] rfl) hM
        · refine lv_aload_n hx hb d_R_lights_60 rfl (lv_at hl 1 rfl) ?_
          refine lv_iload_n hx hb d_R_lights_61 rfl (lv_at hl 3 rfl) ?_
          refine gm_Vi (As := [.int (nI i1)]) (rest := []) hF hM (c_R_anomalies (u := u) (x := (nI i1)) ) (gk_R_115 hts ⟨by decide, by decide⟩) (gv_R hF hM rfl) rfl hl.1 rfl (Nat.le_of_ble_eq_true rfl) ⟨Nat.zero_le _, Nat.zero_le _⟩ d_R_lights_62 (fun H locs hM => ?_)
          refine lv_if_eq (tgt := 72) hx hb d_R_lights_65 rfl (fun h6 => ?_) (fun h6 => ?_)
          · refine lv_iconst (v := 0) hx hb d_R_lights_72 (by decide) ?_
            have hJ := J5
            try simp only [if_neg (gm_nf h4), if_pos h6] at hJ
            exact hJ ls H locs (lv_sub hl [1, 0, 2, 3] rfl) hM
          · refine lv_iconst (v := 1) hx hb d_R_lights_68 (by decide) ?_
            refine lv_goto (tgt := 73) hx hb d_R_lights_69 rfl ?_
            have hJ := J5
            try simp only [if_neg (gm_nf h4), if_neg h6] at hJ
            exact hJ ls H locs (lv_sub hl [1, 0, 2, 3] rfl) hM
      refine gm_ifn (b := gb1) (tgt := 50) hx hb d_R_lights_12 rfl (fun h2 => ?_) (fun h2 => ?_)
      · refine lv_iconst (v := 1) hx hb d_R_lights_50 (by decide) ?_
        refine lv_goto (tgt := 55) hx hb d_R_lights_51 rfl ?_
        have hJ := J3
        try simp only [if_pos h2] at hJ
        exact hJ ls H locs (lv_sub hl [3, 2, 1, 0] rfl) hM
      · refine lv_aload_n hx hb d_R_lights_15 rfl (lv_at hl 3 rfl) ?_
        refine gf_R_7 hF hM d_R_lights_16 ?_
        refine lv_iload_n hx hb d_R_lights_19 rfl (lv_at hl 0 rfl) ?_
        refine ga_failed (k := i1) hF hM rfl (by first | omega | exact Nat.mod_lt _ (by decide)) d_R_lights_20 ?_
        refine gm_ifn (b := (u.1 0 i1)) (tgt := 54) hx hb d_R_lights_21 rfl (fun h7 => ?_) (fun h7 => ?_)
        · refine lv_iconst (v := 0) hx hb d_R_lights_54 (by decide) ?_
          have hJ := J3
          try simp only [if_neg (gm_nf h2), if_pos h7] at hJ
          exact hJ ls H locs (lv_sub hl [3, 2, 1, 0] rfl) hM
        · refine lv_aload_n hx hb d_R_lights_24 rfl (lv_at hl 3 rfl) ?_
          refine gf_R_16 hF hM d_R_lights_25 ?_
          refine lv_bipush (v := 6) hx hb d_R_lights_28 (by decide) ?_
          refine lv_iload_n hx hb d_R_lights_30 rfl (lv_at hl 0 rfl) ?_
          refine lv_imul hx hb d_R_lights_31 ?_
          refine ga_value (k := (6 * i1)) hF hM (by first | rfl | (simp only [← nI_add, ← pk_mul] <;> rfl)) (by first | omega | exact Nat.mod_lt _ (by decide)) d_R_lights_32 ?_
          refine gm_ifz (b := (u.1 2 (6 * i1))) (tgt := 54) hx hb d_R_lights_33 rfl (fun h8 => ?_) (fun h8 => ?_)
          · refine lv_iconst (v := 0) hx hb d_R_lights_54 (by decide) ?_
            have hJ := J3
            try simp only [if_neg (gm_nf h2), if_neg (gm_nf h7), if_neg (gm_nf h8)] at hJ
            exact hJ ls H locs (lv_sub hl [3, 2, 1, 0] rfl) hM
          · refine lv_aload_n hx hb d_R_lights_36 rfl (lv_at hl 3 rfl) ?_
            refine gf_R_16 hF hM d_R_lights_37 ?_
            refine lv_bipush (v := 6) hx hb d_R_lights_40 (by decide) ?_
            refine lv_iload_n hx hb d_R_lights_42 rfl (lv_at hl 0 rfl) ?_
            refine lv_imul hx hb d_R_lights_43 ?_
            refine lv_iconst (v := 1) hx hb d_R_lights_44 (by decide) ?_
            refine lv_iadd hx hb d_R_lights_45 ?_
            refine ga_value (k := (6 * i1 + 1)) hF hM (by first | rfl | (simp only [← nI_add, ← pk_mul] <;> rfl)) (by first | omega | exact Nat.mod_lt _ (by decide)) d_R_lights_46 ?_
            refine gm_ifn (b := (u.1 2 (6 * i1 + 1))) (tgt := 54) hx hb d_R_lights_47 rfl (fun h9 => ?_) (fun h9 => ?_)
            · refine lv_iconst (v := 0) hx hb d_R_lights_54 (by decide) ?_
              have hJ := J3
              try simp only [if_neg (gm_nf h2), if_neg (gm_nf h7), if_pos h8, if_pos h9] at hJ
              exact hJ ls H locs (lv_sub hl [3, 2, 1, 0] rfl) hM
            · refine lv_iconst (v := 1) hx hb d_R_lights_50 (by decide) ?_
              refine lv_goto (tgt := 55) hx hb d_R_lights_51 rfl ?_
              have hJ := J3
              try simp only [if_neg (gm_nf h2), if_neg (gm_nf h7), if_pos h8, if_neg (gm_nf h9)] at hJ
              exact hJ ls H locs (lv_sub hl [3, 2, 1, 0] rfl) hM
  refine L1 2 0 false false ls H locs (by omega) hl hM (fun ls H locs hl hM => ?_)
  refine lv_aload_n hx hb d_R_lights_80 rfl (lv_at hl 3 rfl) ?_
  refine lv_iconst (v := -1) hx hb d_R_lights_81 (by decide) ?_
  refine gm_Vi (As := [.int (-1 : Int32)]) (rest := []) hF hM (c_R_valves (u := u) (x := (-1 : Int32)) ) (gk_R_118 hts ⟨by decide, by decide⟩) (gv_R hF hM rfl) rfl hl.1 rfl (Nat.le_of_ble_eq_true rfl) ⟨Nat.zero_le _, Nat.zero_le _⟩ d_R_lights_82 (fun H locs hM => ?_)
  refine lv_iconst (v := 1) hx hb d_R_lights_85 (by decide) ?_
  have J11 : ∀ (ls : Array Slot) (H : Heap) (locs : List Loc), lv_has ls 4 [(0, .ref (a 0)), (1, .int (gm_b ((lp_R_lights u 2 0 false false).1))), (2, .int (gm_b ((lp_R_lights u 2 0 false false).2))), (3, .int (nI 2))] → gm_M D A s (gr_W dk a) u H locs → W p l e rm_R_lights s m args below meth c H locs 0 0 Q (F0 m 94 ls [.int (gm_b (if (v_R_valves u (-1 : Int32)) ≤ (1 : Int32) then false else true))]) := by
    intro ls H locs hl hM
    refine lv_istore_n (lv' := [(3, .int (gm_b (if (v_R_valves u (-1 : Int32)) ≤ (1 : Int32) then false else true))), (0, .ref (a 0)), (1, .int (gm_b ((lp_R_lights u 2 0 false false).1))), (2, .int (gm_b ((lp_R_lights u 2 0 false false).2)))]) hx hb d_R_lights_94 rfl hl (by decide) rfl (fun ls hl => ?_)
    refine lv_iload_n hx hb d_R_lights_95 rfl (lv_at hl 2 rfl) ?_
    have J13 : ∀ (ls : Array Slot) (H : Heap) (locs : List Loc), lv_has ls 4 [(0, .ref (a 0)), (1, .int (gm_b ((lp_R_lights u 2 0 false false).1))), (2, .int (gm_b ((lp_R_lights u 2 0 false false).2))), (3, .int (gm_b (if (v_R_valves u (-1 : Int32)) ≤ (1 : Int32) then false else true)))] → gm_M D A s (gr_W dk a) u H locs → W p l e rm_R_lights s m args below meth c H locs 0 0 Q (F0 m 104 ls [.int (gm_b (if ((lp_R_lights u 2 0 false false).1) = true then true else false))]) := by
      intro ls H locs hl hM
      refine lv_iload_n hx hb d_R_lights_104 rfl (lv_at hl 3 rfl) ?_
      have J15 : ∀ (ls : Array Slot) (H : Heap) (locs : List Loc), lv_has ls 4 [(0, .ref (a 0)), (1, .int (gm_b ((lp_R_lights u 2 0 false false).1))), (2, .int (gm_b ((lp_R_lights u 2 0 false false).2))), (3, .int (gm_b (if (v_R_valves u (-1 : Int32)) ≤ (1 : Int32) then false else true)))] → gm_M D A s (gr_W dk a) u H locs → W p l e rm_R_lights s m args below meth c H locs 0 0 Q (F0 m 113 ls [.int (if (if (v_R_valves u (-1 : Int32)) ≤ (1 : Int32) then false else true) = true then (2 : Int32) else (0 : Int32)), .int (gm_b (if ((lp_R_lights u 2 0 false false).1) = true then true else false))]) := by
        intro ls H locs hl hM
        refine lv_iadd hx hb d_R_lights_113 ?_
        refine lv_iload_n hx hb d_R_lights_114 rfl (lv_at hl 2 rfl) ?_
        have J17 : ∀ (ls : Array Slot) (H : Heap) (locs : List Loc), lv_has ls 4 [(0, .ref (a 0)), (1, .int (gm_b ((lp_R_lights u 2 0 false false).1))), (2, .int (gm_b ((lp_R_lights u 2 0 false false).2))), (3, .int (gm_b (if (v_R_valves u (-1 : Int32)) ≤ (1 : Int32) then false else true)))] → gm_M D A s (gr_W dk a) u H locs → W p l e rm_R_lights s m args below meth c H locs 0 0 Q (F0 m 123 ls [.int (if ((lp_R_lights u 2 0 false false).2) = true then (4 : Int32) else (0 : Int32)), .int ((gm_b (if ((lp_R_lights u 2 0 false false).1) = true then true else false)) + (if (if (v_R_valves u (-1 : Int32)) ≤ (1 : Int32) then false else true) = true then (2 : Int32) else (0 : Int32)))]) := by
          intro ls H locs hl hM
          refine lv_iadd hx hb d_R_lights_123 ?_
          have hq := hQ H locs 124 ls
          simp only [v_R_lights] at hq
          exact hq hM d_R_lights_124
        refine gm_ifz (b := ((lp_R_lights u 2 0 false false).2)) (tgt := 122) hx hb d_R_lights_115 rfl (fun h16 => ?_) (fun h16 => ?_)
        · refine lv_iconst (v := 0) hx hb d_R_lights_122 (by decide) ?_
          have hJ := J17
          try simp only [if_neg (gm_nf h16)] at hJ
          exact hJ ls H locs hl hM
        · refine lv_iconst (v := 4) hx hb d_R_lights_118 (by decide) ?_
          refine lv_goto (tgt := 123) hx hb d_R_lights_119 rfl ?_
          have hJ := J17
          try simp only [if_pos h16] at hJ
          exact hJ ls H locs hl hM
      refine gm_ifz (b := (if (v_R_valves u (-1 : Int32)) ≤ (1 : Int32) then false else true)) (tgt := 112) hx hb d_R_lights_105 rfl (fun h14 => ?_) (fun h14 => ?_)
      · refine lv_iconst (v := 0) hx hb d_R_lights_112 (by decide) ?_
        have hJ := J15
        try simp only [if_neg (gm_nf h14)] at hJ
        exact hJ ls H locs hl hM
      · refine lv_iconst (v := 2) hx hb d_R_lights_108 (by decide) ?_
        refine lv_goto (tgt := 113) hx hb d_R_lights_109 rfl ?_
        have hJ := J15
        try simp only [if_pos h14] at hJ
        exact hJ ls H locs hl hM
    refine gm_ifz (b := ((lp_R_lights u 2 0 false false).1)) (tgt := 103) hx hb d_R_lights_96 rfl (fun h12 => ?_) (fun h12 => ?_)
    · refine lv_iconst (v := 0) hx hb d_R_lights_103 (by decide) ?_
      have hJ := J13
      try simp only [if_neg (gm_nf h12)] at hJ
      exact hJ ls H locs (lv_sub hl [1, 2, 3, 0] rfl) hM
    · refine lv_iconst (v := 1) hx hb d_R_lights_99 (by decide) ?_
      refine lv_goto (tgt := 104) hx hb d_R_lights_100 rfl ?_
      have hJ := J13
      try simp only [if_pos h12] at hJ
      exact hJ ls H locs (lv_sub hl [1, 2, 3, 0] rfl) hM
  refine lv_icmp_le (tgt := 93) hx hb d_R_lights_86 rfl (fun h10 => ?_) (fun h10 => ?_)
  · refine lv_iconst (v := 0) hx hb d_R_lights_93 (by decide) ?_
    have hJ := J11
    try simp only [if_pos h10] at hJ
    exact hJ ls H locs (lv_sub hl [3, 2, 1, 0] rfl) hM
  · refine lv_iconst (v := 1) hx hb d_R_lights_89 (by decide) ?_
    refine lv_goto (tgt := 94) hx hb d_R_lights_90 rfl ?_
    have hJ := J11
    try simp only [if_neg h10] at hJ
    exact hJ ls H locs (lv_sub hl [3, 2, 1, 0] rfl) hM
theorem d_R_entry_0 : decode b_R_entry 0 = .ok (.aload_n 0, 1) := by decide +kernel
theorem d_R_entry_1 : decode b_R_entry 1 = .ok (.getfield 77, 3) := by decide +kernel
theorem d_R_entry_4 : decode b_R_entry 4 = .ok (.bipush 16, 2) := by decide +kernel
theorem d_R_entry_6 : decode b_R_entry 6 = .ok (.if_icmp .ge 10, 3) := by decide +kernel
theorem d_R_entry_9 : decode b_R_entry 9 = .ok (.aload_n 0, 1) := by decide +kernel
theorem d_R_entry_10 : decode b_R_entry 10 = .ok (.getfield 77, 3) := by decide +kernel
theorem d_R_entry_13 : decode b_R_entry 13 = .ok (.goto 5, 3) := by decide +kernel
theorem d_R_entry_16 : decode b_R_entry 16 = .ok (.bipush 16, 2) := by decide +kernel
theorem d_R_entry_18 : decode b_R_entry 18 = .ok (.istore_n 2, 1) := by decide +kernel
theorem d_R_entry_19 : decode b_R_entry 19 = .ok (.iload_n 1, 1) := by decide +kernel
theorem d_R_entry_20 : decode b_R_entry 20 = .ok (.ifCond .lt 8, 3) := by decide +kernel
theorem d_R_entry_23 : decode b_R_entry 23 = .ok (.iload_n 1, 1) := by decide +kernel
theorem d_R_entry_24 : decode b_R_entry 24 = .ok (.iload_n 2, 1) := by decide +kernel
theorem d_R_entry_25 : decode b_R_entry 25 = .ok (.if_icmp .lt 9, 3) := by decide +kernel
theorem d_R_entry_28 : decode b_R_entry 28 = .ok (.ldc2_w 121, 3) := by decide +kernel
theorem d_R_entry_31 : decode b_R_entry 31 = .ok (.goto 19, 3) := by decide +kernel
theorem d_R_entry_34 : decode b_R_entry 34 = .ok (.aload_n 0, 1) := by decide +kernel
theorem d_R_entry_35 : decode b_R_entry 35 = .ok (.getfield 38, 3) := by decide +kernel
theorem d_R_entry_38 : decode b_R_entry 38 = .ok (.aload_n 0, 1) := by decide +kernel
theorem d_R_entry_39 : decode b_R_entry 39 = .ok (.getfield 77, 3) := by decide +kernel
theorem d_R_entry_42 : decode b_R_entry 42 = .ok (.iconst 1, 1) := by decide +kernel
theorem d_R_entry_43 : decode b_R_entry 43 = .ok (.isub, 1) := by decide +kernel
theorem d_R_entry_44 : decode b_R_entry 44 = .ok (.iload_n 1, 1) := by decide +kernel
theorem d_R_entry_45 : decode b_R_entry 45 = .ok (.isub, 1) := by decide +kernel
theorem d_R_entry_46 : decode b_R_entry 46 = .ok (.bipush 16, 2) := by decide +kernel
theorem d_R_entry_48 : decode b_R_entry 48 = .ok (.irem, 1) := by decide +kernel
theorem d_R_entry_49 : decode b_R_entry 49 = .ok (.laload, 1) := by decide +kernel
theorem d_R_entry_50 : decode b_R_entry 50 = .ok (.lreturn, 1) := by decide +kernel
def v_R_entry (u : gm_St) (x : Int32) : Int64 := (if x < 0 then (-1 : Int64) else (if x < (if (16 : Int32) ≤ (nI (u.2.2.1 0)) then (16 : Int32) else (nI (u.2.2.1 0))) then (u.2.2.2 (((u.2.2.1 0) - 1 - x.toNatClampNeg) % 16)) else (-1 : Int64)))
set_option maxRecDepth 100000 in
set_option maxHeartbeats 4000000 in
theorem c_R_entry {l : Launch} {D : va_G} {dk : Nat → ClassId} {a : Nat → Nat} {A : Nat → Prop} {lt : Nat} {u : gm_St} {x : Int32} (hp0 : u.2.2.1 0 + 0 ≤ 1073741824) : gm_L l D (gm_ty dk) (gr_W dk a) A lt y_R_entry b_R_entry 3 (some .long) rm_R_entry [.ref (a 0), .int x] u (v_R_entry u x) u := by
  refine gm_enterL (by decide) (Nat.le_of_ble_eq_true rfl) ?_
  intro p e s m args below meth c ls Q H locs hF hM hl hQ
  have hx := hF.1
  have hb := hF.2.1
  have hml := hF.2.2.1
  have hown := hF.2.2.2.1
  have hts := hF.2.2.2.2.1
  have hl : lv_has ls 3 [(0, .ref (a 0)), (1, .int x)] := hl
  refine lv_aload_n hx hb d_R_entry_0 rfl (lv_at hl 0 rfl) ?_
  refine gf_R_77 hF hM d_R_entry_1 ?_
  refine lv_bipush (v := 16) hx hb d_R_entry_4 (by decide) ?_
  have J2 : ∀ (ls : Array Slot) (H : Heap) (locs : List Loc), lv_has ls 3 [(0, .ref (a 0)), (1, .int x)] → gm_M D A s (gr_W dk a) u H locs → W p l e rm_R_entry s m args below meth c H locs 0 0 Q (F0 m 18 ls [.int (if (16 : Int32) ≤ (nI (u.2.2.1 0)) then (16 : Int32) else (nI (u.2.2.1 0)))]) := by
    intro ls H locs hl hM
    refine lv_istore_n (lv' := [(2, .int (if (16 : Int32) ≤ (nI (u.2.2.1 0)) then (16 : Int32) else (nI (u.2.2.1 0)))), (0, .ref (a 0)), (1, .int x)]) hx hb d_R_entry_18 rfl hl (by decide) rfl (fun ls hl => ?_)
    refine lv_iload_n hx hb d_R_entry_19 rfl (lv_at hl 2 rfl) ?_
    have J4 : ∀ (ls : Array Slot) (H : Heap) (locs : List Loc), lv_has ls 3 [(0, .ref (a 0)), (1, .int x), (2, .int (if (16 : Int32) ≤ (nI (u.2.2.1 0)) then (16 : Int32) else (nI (u.2.2.1 0))))] → gm_M D A s (gr_W dk a) u H locs → W p l e rm_R_entry s m args below meth c H locs 0 0 Q (F0 m 50 ls [.long (if x < 0 then (-1 : Int64) else (if x < (if (16 : Int32) ≤ (nI (u.2.2.1 0)) then (16 : Int32) else (nI (u.2.2.1 0))) then (u.2.2.2 (((u.2.2.1 0) - 1 - x.toNatClampNeg) % 16)) else (-1 : Int64)))]) := by
      intro ls H locs hl hM
      have hq := hQ H locs 50 ls
      simp only [v_R_entry] at hq
      exact hq hM d_R_entry_50
    refine lv_if_lt (tgt := 28) hx hb d_R_entry_20 rfl (fun h3 => ?_) (fun h3 => ?_)
    · refine lv_ldc2 (v := -1) hx hb hown (hts _ (gm_in 467 (by decide +kernel) rfl)) d_R_entry_28 ?_
      refine lv_goto (tgt := 50) hx hb d_R_entry_31 rfl ?_
      have hJ := J4
      try simp only [if_pos h3] at hJ
      exact hJ ls H locs (lv_sub hl [1, 2, 0] rfl) hM
    · refine lv_iload_n hx hb d_R_entry_23 rfl (lv_at hl 2 rfl) ?_
      refine lv_iload_n hx hb d_R_entry_24 rfl (lv_at hl 0 rfl) ?_
      refine lv_icmp_lt (tgt := 34) hx hb d_R_entry_25 rfl (fun h5 => ?_) (fun h5 => ?_)
      · have hq_x := gr_kept h3 h5 hp0
        have hm_x := hq_x.1
        have ex_x := hq_x.2
        refine lv_aload_n hx hb d_R_entry_34 rfl (lv_at hl 1 rfl) ?_
        refine gf_R_38 hF hM d_R_entry_35 ?_
        refine lv_aload_n hx hb d_R_entry_38 rfl (lv_at hl 1 rfl) ?_
        refine gf_R_77 hF hM d_R_entry_39 ?_
        refine lv_iconst (v := 1) hx hb d_R_entry_42 (by decide) ?_
        refine lv_isub hx hb d_R_entry_43 ?_
        refine gm_tp (y := (nI ((u.2.2.1 0) - 1))) (gr_sub (b := 1) rfl rfl (by omega)) ?_
        refine lv_iload_n hx hb d_R_entry_44 rfl (lv_at hl 2 rfl) ?_
        refine lv_isub hx hb d_R_entry_45 ?_
        refine gm_tp (y := (nI ((u.2.2.1 0) - 1 - x.toNatClampNeg))) (gr_sub (b := x.toNatClampNeg) rfl ex_x (by omega)) ?_
        refine lv_bipush (v := 16) hx hb d_R_entry_46 (by decide) ?_
        refine lv_irem hx hb d_R_entry_48 (by decide) ?_
        refine gm_tp (y := (nI (((u.2.2.1 0) - 1 - x.toNatClampNeg) % 16))) (gm_rem rfl (by first | omega | (have := (‹gm_ok _›).1; omega) | exact Nat.lt_of_lt_of_le hp0 (by decide)) (by decide) (by decide)) ?_
        refine ga_rrec (k := (((u.2.2.1 0) - 1 - x.toNatClampNeg) % 16)) hF hM rfl (by first | omega | exact Nat.mod_lt _ (by decide)) d_R_entry_49 ?_
        have hJ := J4
        try simp only [if_neg h3, if_pos h5] at hJ
        exact hJ ls H locs (lv_sub hl [1, 2, 0] rfl) hM
      · refine lv_ldc2 (v := -1) hx hb hown (hts _ (gm_in 467 (by decide +kernel) rfl)) d_R_entry_28 ?_
        refine lv_goto (tgt := 50) hx hb d_R_entry_31 rfl ?_
        have hJ := J4
        try simp only [if_neg h3, if_neg h5] at hJ
        exact hJ ls H locs (lv_sub hl [1, 2, 0] rfl) hM
  refine lv_icmp_ge (tgt := 16) hx hb d_R_entry_6 rfl (fun h1 => ?_) (fun h1 => ?_)
  · refine lv_bipush (v := 16) hx hb d_R_entry_16 (by decide) ?_
    have hJ := J2
    try simp only [if_pos h1] at hJ
    exact hJ ls H locs hl hM
  · refine lv_aload_n hx hb d_R_entry_9 rfl (lv_at hl 0 rfl) ?_
    refine gf_R_77 hF hM d_R_entry_10 ?_
    refine lv_goto (tgt := 18) hx hb d_R_entry_13 rfl ?_
    have hJ := J2
    try simp only [if_neg h1] at hJ
    exact hJ ls H locs hl hM
theorem d_R_ones_0 : decode b_R_ones 0 = .ok (.iconst 0, 1) := by decide +kernel
theorem d_R_ones_1 : decode b_R_ones 1 = .ok (.istore_n 1, 1) := by decide +kernel
theorem d_R_ones_2 : decode b_R_ones 2 = .ok (.iconst 0, 1) := by decide +kernel
theorem d_R_ones_3 : decode b_R_ones 3 = .ok (.istore_n 2, 1) := by decide +kernel
theorem d_R_ones_4 : decode b_R_ones 4 = .ok (.iload_n 2, 1) := by decide +kernel
theorem d_R_ones_5 : decode b_R_ones 5 = .ok (.bipush 32, 2) := by decide +kernel
theorem d_R_ones_7 : decode b_R_ones 7 = .ok (.if_icmp .ge 17, 3) := by decide +kernel
theorem d_R_ones_10 : decode b_R_ones 10 = .ok (.iload_n 1, 1) := by decide +kernel
theorem d_R_ones_11 : decode b_R_ones 11 = .ok (.iload_n 0, 1) := by decide +kernel
theorem d_R_ones_12 : decode b_R_ones 12 = .ok (.iload_n 2, 1) := by decide +kernel
theorem d_R_ones_13 : decode b_R_ones 13 = .ok (.ishr, 1) := by decide +kernel
theorem d_R_ones_14 : decode b_R_ones 14 = .ok (.iconst 1, 1) := by decide +kernel
theorem d_R_ones_15 : decode b_R_ones 15 = .ok (.iand, 1) := by decide +kernel
theorem d_R_ones_16 : decode b_R_ones 16 = .ok (.iadd, 1) := by decide +kernel
theorem d_R_ones_17 : decode b_R_ones 17 = .ok (.istore_n 1, 1) := by decide +kernel
theorem d_R_ones_18 : decode b_R_ones 18 = .ok (.iinc 2 1, 3) := by decide +kernel
theorem d_R_ones_21 : decode b_R_ones 21 = .ok (.goto (-17), 3) := by decide +kernel
theorem d_R_ones_24 : decode b_R_ones 24 = .ok (.iload_n 1, 1) := by decide +kernel
theorem d_R_ones_25 : decode b_R_ones 25 = .ok (.ireturn, 1) := by decide +kernel
def lp_R_ones (x : Int32) : Nat → Nat → Int32 → Int32
  | 0, _, z => z
  | k + 1, i, z => lp_R_ones x k (i + 1) (z + ((x >>> ((nI i) &&& 31)) &&& (1 : Int32)))
def v_R_ones (x : Int32) : Int32 := (lp_R_ones x 32 0 (0 : Int32))
set_option maxRecDepth 100000 in
set_option maxHeartbeats 4000000 in
theorem c_R_ones {l : Launch} {D : va_G} {dk : Nat → ClassId} {Wd : gm_St → va_W} {A : Nat → Prop} {lt : Nat} {u : gm_St} {x : Int32} : gm_I l D (gm_ty dk) Wd A lt y_R_ones b_R_ones 3 (some .int) rm_R_ones [.int x] u (v_R_ones x) u := by
  refine gm_enterI (by decide) (Nat.le_of_ble_eq_true rfl) ?_
  intro p e s m args below meth c ls Q H locs hF hM hl hQ
  have hx := hF.1
  have hb := hF.2.1
  have hml := hF.2.2.1
  have hown := hF.2.2.2.1
  have hts := hF.2.2.2.2.1
  have hl : lv_has ls 3 [(0, .int x)] := hl
  refine lv_iconst (v := 0) hx hb d_R_ones_0 (by decide) ?_
  refine lv_istore_n (lv' := [(1, .int (0 : Int32)), (0, .int x)]) hx hb d_R_ones_1 rfl hl (by decide) rfl (fun ls hl => ?_)
  refine lv_iconst (v := 0) hx hb d_R_ones_2 (by decide) ?_
  refine lv_istore_n (lv' := [(2, .int (0 : Int32)), (1, .int (0 : Int32)), (0, .int x)]) hx hb d_R_ones_3 rfl hl (by decide) rfl (fun ls hl => ?_)
  have L1 : ∀ (k1 i1 : Nat) (z1 : Int32) (ls : Array Slot) (H : Heap) (locs : List Loc), i1 + k1 = 32 → lv_has ls 3 [(2, .int (nI i1)), (1, .int z1), (0, .int x)] → gm_M D A s Wd u H locs → (∀ (ls : Array Slot) (H : Heap) (locs : List Loc), lv_has ls 3 [(2, .int (nI 32)), (1, .int (lp_R_ones x k1 i1 z1)), (0, .int x)] → gm_M D A s Wd u H locs → W p l e rm_R_ones s m args below meth c H locs 0 0 Q (F0 m 24 ls [])) → W p l e rm_R_ones s m args below meth c H locs 0 0 Q (F0 m 4 ls []) := by
    intro k1
    induction k1 with
    | zero =>
      intro i1 z1 ls H locs hk1 hl hM kk
      obtain rfl : i1 = 32 := by omega
      refine lv_iload_n hx hb d_R_ones_4 rfl (lv_at hl 0 rfl) ?_
      refine lv_bipush (v := 32) hx hb d_R_ones_5 (by decide) ?_
      refine lv_icmp_ge (tgt := 24) hx hb d_R_ones_7 rfl (fun _ => ?_) (fun h => absurd (by decide) h)
      exact kk ls H locs hl hM
    | succ k1 ih =>
      intro i1 z1 ls H locs hk1 hl hM kk
      refine lv_iload_n hx hb d_R_ones_4 rfl (lv_at hl 0 rfl) ?_
      refine lv_bipush (v := 32) hx hb d_R_ones_5 (by decide) ?_
      refine lv_icmp_ge (tgt := 24) hx hb d_R_ones_7 rfl (fun h => absurd h (nI_ge (a := i1) (b := 32) (by omega) (by first | decide | omega))) (fun _ => ?_)
      refine lv_iload_n hx hb d_R_ones_10 rfl (lv_at hl 1 rfl) ?_
      refine lv_iload_n hx hb d_R_ones_11 rfl (lv_at hl 2 rfl) ?_
      refine lv_iload_n hx hb d_R_ones_12 rfl (lv_at hl 0 rfl) ?_
      refine lv_ishr hx hb d_R_ones_13 ?_
      refine lv_iconst (v := 1) hx hb d_R_ones_14 (by decide) ?_
      refine lv_iand hx hb d_R_ones_15 ?_
      refine lv_iadd hx hb d_R_ones_16 ?_
      refine lv_istore_n (lv' := [(1, .int (z1 + ((x >>> ((nI i1) &&& 31)) &&& (1 : Int32)))), (2, .int (nI i1)), (0, .int x)]) hx hb d_R_ones_17 rfl hl (by decide) rfl (fun ls hl => ?_)
      refine lv_iinc (k := 1) (v := (nI (i1 + 1))) (lv' := [(2, .int (nI (i1 + 1))), (1, .int (z1 + ((x >>> ((nI i1) &&& 31)) &&& (1 : Int32)))), (0, .int x)]) hx hb d_R_ones_18 hl rfl (nI_1 _) (by decide) rfl (fun ls hl => ?_)
      refine lv_goto (tgt := 4) hx hb d_R_ones_21 rfl ?_
      have hK := kk
      simp only [lp_R_ones] at hK
      exact ih (i1 + 1) (z1 + ((x >>> ((nI i1) &&& 31)) &&& (1 : Int32))) ls H locs (by omega) hl hM hK
  refine L1 32 0 (0 : Int32) ls H locs (by omega) hl hM (fun ls H locs hl hM => ?_)
  refine lv_iload_n hx hb d_R_ones_24 rfl (lv_at hl 1 rfl) ?_
  have hq := hQ H locs 25 ls
  simp only [v_R_ones] at hq
  exact hq hM d_R_ones_25
theorem d_R_word_0 : decode b_R_word 0 = .ok (.iload_n 2, 1) := by decide +kernel
theorem d_R_word_1 : decode b_R_word 1 = .ok (.invokestatic 109, 3) := by decide +kernel
theorem d_R_word_4 : decode b_R_word 4 = .ok (.ifCond .eq 14, 3) := by decide +kernel
theorem d_R_word_7 : decode b_R_word 7 = .ok (.iload_n 1, 1) := by decide +kernel
theorem d_R_word_8 : decode b_R_word 8 = .ok (.ifCond .lt 10, 3) := by decide +kernel
theorem d_R_word_11 : decode b_R_word 11 = .ok (.iload_n 1, 1) := by decide +kernel
theorem d_R_word_12 : decode b_R_word 12 = .ok (.sipush 255, 3) := by decide +kernel
theorem d_R_word_15 : decode b_R_word 15 = .ok (.if_icmp .le 5, 3) := by decide +kernel
theorem d_R_word_18 : decode b_R_word 18 = .ok (.iconst 0, 1) := by decide +kernel
theorem d_R_word_19 : decode b_R_word 19 = .ok (.ireturn, 1) := by decide +kernel
theorem d_R_word_20 : decode b_R_word 20 = .ok (.iload_n 1, 1) := by decide +kernel
theorem d_R_word_21 : decode b_R_word 21 = .ok (.iload_n 2, 1) := by decide +kernel
theorem d_R_word_22 : decode b_R_word 22 = .ok (.iconst 1, 1) := by decide +kernel
theorem d_R_word_23 : decode b_R_word 23 = .ok (.iadd, 1) := by decide +kernel
theorem d_R_word_24 : decode b_R_word 24 = .ok (.bipush 8, 2) := by decide +kernel
theorem d_R_word_26 : decode b_R_word 26 = .ok (.ishl, 1) := by decide +kernel
theorem d_R_word_27 : decode b_R_word 27 = .ok (.iadd, 1) := by decide +kernel
theorem d_R_word_28 : decode b_R_word 28 = .ok (.aload_n 0, 1) := by decide +kernel
theorem d_R_word_29 : decode b_R_word 29 = .ok (.iload_n 2, 1) := by decide +kernel
theorem d_R_word_30 : decode b_R_word 30 = .ok (.invokevirtual 112, 3) := by decide +kernel
theorem d_R_word_33 : decode b_R_word 33 = .ok (.bipush 10, 2) := by decide +kernel
theorem d_R_word_35 : decode b_R_word 35 = .ok (.ishl, 1) := by decide +kernel
theorem d_R_word_36 : decode b_R_word 36 = .ok (.iadd, 1) := by decide +kernel
theorem d_R_word_37 : decode b_R_word 37 = .ok (.istore_n 3, 1) := by decide +kernel
theorem d_R_word_38 : decode b_R_word 38 = .ok (.iconst 0, 1) := by decide +kernel
theorem d_R_word_39 : decode b_R_word 39 = .ok (.istore 4, 2) := by decide +kernel
theorem d_R_word_41 : decode b_R_word 41 = .ok (.iload 4, 2) := by decide +kernel
theorem d_R_word_43 : decode b_R_word 43 = .ok (.bipush 6, 2) := by decide +kernel
theorem d_R_word_45 : decode b_R_word 45 = .ok (.if_icmp .ge 67, 3) := by decide +kernel
theorem d_R_word_48 : decode b_R_word 48 = .ok (.aload_n 0, 1) := by decide +kernel
theorem d_R_word_49 : decode b_R_word 49 = .ok (.getfield 16, 3) := by decide +kernel
theorem d_R_word_52 : decode b_R_word 52 = .ok (.bipush 6, 2) := by decide +kernel
theorem d_R_word_54 : decode b_R_word 54 = .ok (.iload_n 2, 1) := by decide +kernel
theorem d_R_word_55 : decode b_R_word 55 = .ok (.imul, 1) := by decide +kernel
theorem d_R_word_56 : decode b_R_word 56 = .ok (.iload 4, 2) := by decide +kernel
theorem d_R_word_58 : decode b_R_word 58 = .ok (.iadd, 1) := by decide +kernel
theorem d_R_word_59 : decode b_R_word 59 = .ok (.baload, 1) := by decide +kernel
theorem d_R_word_60 : decode b_R_word 60 = .ok (.ifCond .eq 15, 3) := by decide +kernel
theorem d_R_word_63 : decode b_R_word 63 = .ok (.iload_n 3, 1) := by decide +kernel
theorem d_R_word_64 : decode b_R_word 64 = .ok (.iconst 1, 1) := by decide +kernel
theorem d_R_word_65 : decode b_R_word 65 = .ok (.bipush 15, 2) := by decide +kernel
theorem d_R_word_67 : decode b_R_word 67 = .ok (.iload 4, 2) := by decide +kernel
theorem d_R_word_69 : decode b_R_word 69 = .ok (.iadd, 1) := by decide +kernel
theorem d_R_word_70 : decode b_R_word 70 = .ok (.ishl, 1) := by decide +kernel
theorem d_R_word_71 : decode b_R_word 71 = .ok (.iadd, 1) := by decide +kernel
theorem d_R_word_72 : decode b_R_word 72 = .ok (.goto 4, 3) := by decide +kernel
theorem d_R_word_75 : decode b_R_word 75 = .ok (.iload_n 3, 1) := by decide +kernel
theorem d_R_word_76 : decode b_R_word 76 = .ok (.istore_n 3, 1) := by decide +kernel
theorem d_R_word_77 : decode b_R_word 77 = .ok (.aload_n 0, 1) := by decide +kernel
theorem d_R_word_78 : decode b_R_word 78 = .ok (.getfield 19, 3) := by decide +kernel
theorem d_R_word_81 : decode b_R_word 81 = .ok (.bipush 6, 2) := by decide +kernel
theorem d_R_word_83 : decode b_R_word 83 = .ok (.iload_n 2, 1) := by decide +kernel
theorem d_R_word_84 : decode b_R_word 84 = .ok (.imul, 1) := by decide +kernel
theorem d_R_word_85 : decode b_R_word 85 = .ok (.iload 4, 2) := by decide +kernel
theorem d_R_word_87 : decode b_R_word 87 = .ok (.iadd, 1) := by decide +kernel
theorem d_R_word_88 : decode b_R_word 88 = .ok (.baload, 1) := by decide +kernel
theorem d_R_word_89 : decode b_R_word 89 = .ok (.ifCond .eq 15, 3) := by decide +kernel
theorem d_R_word_92 : decode b_R_word 92 = .ok (.iload_n 3, 1) := by decide +kernel
theorem d_R_word_93 : decode b_R_word 93 = .ok (.iconst 1, 1) := by decide +kernel
theorem d_R_word_94 : decode b_R_word 94 = .ok (.bipush 21, 2) := by decide +kernel
theorem d_R_word_96 : decode b_R_word 96 = .ok (.iload 4, 2) := by decide +kernel
theorem d_R_word_98 : decode b_R_word 98 = .ok (.iadd, 1) := by decide +kernel
theorem d_R_word_99 : decode b_R_word 99 = .ok (.ishl, 1) := by decide +kernel
theorem d_R_word_100 : decode b_R_word 100 = .ok (.iadd, 1) := by decide +kernel
theorem d_R_word_101 : decode b_R_word 101 = .ok (.goto 4, 3) := by decide +kernel
theorem d_R_word_104 : decode b_R_word 104 = .ok (.iload_n 3, 1) := by decide +kernel
theorem d_R_word_105 : decode b_R_word 105 = .ok (.istore_n 3, 1) := by decide +kernel
theorem d_R_word_106 : decode b_R_word 106 = .ok (.iinc 4 1, 3) := by decide +kernel
theorem d_R_word_109 : decode b_R_word 109 = .ok (.goto (-68), 3) := by decide +kernel
theorem d_R_word_112 : decode b_R_word 112 = .ok (.aload_n 0, 1) := by decide +kernel
theorem d_R_word_113 : decode b_R_word 113 = .ok (.getfield 7, 3) := by decide +kernel
theorem d_R_word_116 : decode b_R_word 116 = .ok (.iload_n 2, 1) := by decide +kernel
theorem d_R_word_117 : decode b_R_word 117 = .ok (.baload, 1) := by decide +kernel
theorem d_R_word_118 : decode b_R_word 118 = .ok (.ifCond .eq 7, 3) := by decide +kernel
theorem d_R_word_121 : decode b_R_word 121 = .ok (.iconst 0, 1) := by decide +kernel
theorem d_R_word_122 : decode b_R_word 122 = .ok (.goto 16, 3) := by decide +kernel
theorem d_R_word_125 : decode b_R_word 125 = .ok (.aload_n 0, 1) := by decide +kernel
theorem d_R_word_126 : decode b_R_word 126 = .ok (.iload_n 2, 1) := by decide +kernel
theorem d_R_word_127 : decode b_R_word 127 = .ok (.invokevirtual 115, 3) := by decide +kernel
theorem d_R_word_130 : decode b_R_word 130 = .ok (.ifCond .eq 7, 3) := by decide +kernel
theorem d_R_word_133 : decode b_R_word 133 = .ok (.iconst 1, 1) := by decide +kernel
theorem d_R_word_134 : decode b_R_word 134 = .ok (.goto 4, 3) := by decide +kernel
theorem d_R_word_137 : decode b_R_word 137 = .ok (.iconst 3, 1) := by decide +kernel
theorem d_R_word_138 : decode b_R_word 138 = .ok (.istore 4, 2) := by decide +kernel
theorem d_R_word_140 : decode b_R_word 140 = .ok (.iload_n 3, 1) := by decide +kernel
theorem d_R_word_141 : decode b_R_word 141 = .ok (.iload 4, 2) := by decide +kernel
theorem d_R_word_143 : decode b_R_word 143 = .ok (.bipush 29, 2) := by decide +kernel
theorem d_R_word_145 : decode b_R_word 145 = .ok (.ishl, 1) := by decide +kernel
theorem d_R_word_146 : decode b_R_word 146 = .ok (.iadd, 1) := by decide +kernel
theorem d_R_word_147 : decode b_R_word 147 = .ok (.istore_n 3, 1) := by decide +kernel
theorem d_R_word_148 : decode b_R_word 148 = .ok (.iload_n 3, 1) := by decide +kernel
theorem d_R_word_149 : decode b_R_word 149 = .ok (.invokestatic 123, 3) := by decide +kernel
theorem d_R_word_152 : decode b_R_word 152 = .ok (.iconst 2, 1) := by decide +kernel
theorem d_R_word_153 : decode b_R_word 153 = .ok (.irem, 1) := by decide +kernel
theorem d_R_word_154 : decode b_R_word 154 = .ok (.iconst 1, 1) := by decide +kernel
theorem d_R_word_155 : decode b_R_word 155 = .ok (.if_icmp .ne 7, 3) := by decide +kernel
theorem d_R_word_158 : decode b_R_word 158 = .ok (.iload_n 3, 1) := by decide +kernel
theorem d_R_word_159 : decode b_R_word 159 = .ok (.goto 7, 3) := by decide +kernel
theorem d_R_word_162 : decode b_R_word 162 = .ok (.iload_n 3, 1) := by decide +kernel
theorem d_R_word_163 : decode b_R_word 163 = .ok (.ldc 126, 2) := by decide +kernel
theorem d_R_word_165 : decode b_R_word 165 = .ok (.ior, 1) := by decide +kernel
theorem d_R_word_166 : decode b_R_word 166 = .ok (.ireturn, 1) := by decide +kernel
def lp_R_word (u : gm_St) (mn : Nat) : Nat → Nat → Int32 → Int32
  | 0, _, z => z
  | k + 1, i, z => lp_R_word u mn k (i + 1) (if (u.1 3 (6 * mn + i)) = true then ((if (u.1 2 (6 * mn + i)) = true then (z + ((1 : Int32) <<< (((15 : Int32) + (nI i)) &&& 31))) else z) + ((1 : Int32) <<< (((21 : Int32) + (nI i)) &&& 31))) else (if (u.1 2 (6 * mn + i)) = true then (z + ((1 : Int32) <<< (((15 : Int32) + (nI i)) &&& 31))) else z))
def v_R_word (u : gm_St) (x : Int32) (y : Int32) : Int32 := (if (v_R_isModule y) = true then (if x < 0 then (0 : Int32) else (if x ≤ (255 : Int32) then (if ((v_R_ones ((lp_R_word u y.toNatClampNeg 6 0 ((x + ((y + (1 : Int32)) <<< ((8 : Int32) &&& 31))) + ((v_R_valvesOf u y.toNatClampNeg) <<< ((10 : Int32) &&& 31)))) + ((if (u.1 0 y.toNatClampNeg) = true then (0 : Int32) else (if (v_R_anomalies u y) = 0 then (3 : Int32) else (1 : Int32))) <<< ((29 : Int32) &&& 31)))) - (v_R_ones ((lp_R_word u y.toNatClampNeg 6 0 ((x + ((y + (1 : Int32)) <<< ((8 : Int32) &&& 31))) + ((v_R_valvesOf u y.toNatClampNeg) <<< ((10 : Int32) &&& 31)))) + ((if (u.1 0 y.toNatClampNeg) = true then (0 : Int32) else (if (v_R_anomalies u y) = 0 then (3 : Int32) else (1 : Int32))) <<< ((29 : Int32) &&& 31)))) / (2 : Int32) * (2 : Int32)) = (1 : Int32) then ((lp_R_word u y.toNatClampNeg 6 0 ((x + ((y + (1 : Int32)) <<< ((8 : Int32) &&& 31))) + ((v_R_valvesOf u y.toNatClampNeg) <<< ((10 : Int32) &&& 31)))) + ((if (u.1 0 y.toNatClampNeg) = true then (0 : Int32) else (if (v_R_anomalies u y) = 0 then (3 : Int32) else (1 : Int32))) <<< ((29 : Int32) &&& 31))) else (((lp_R_word u y.toNatClampNeg 6 0 ((x + ((y + (1 : Int32)) <<< ((8 : Int32) &&& 31))) + ((v_R_valvesOf u y.toNatClampNeg) <<< ((10 : Int32) &&& 31)))) + ((if (u.1 0 y.toNatClampNeg) = true then (0 : Int32) else (if (v_R_anomalies u y) = 0 then (3 : Int32) else (1 : Int32))) <<< ((29 : Int32) &&& 31))) ||| (-2147483648 : Int32))) else (0 : Int32))) else (0 : Int32))
set_option maxRecDepth 100000 in
set_option maxHeartbeats 4000000 in
theorem c_R_word {l : Launch} {D : va_G} {dk : Nat → ClassId} {a : Nat → Nat} {A : Nat → Prop} {lt : Nat} {u : gm_St} {x : Int32} {y : Int32} : gm_I l D (gm_ty dk) (gr_W dk a) A lt y_R_word b_R_word 5 (some .int) rm_R_word [.ref (a 0), .int x, .int y] u (v_R_word u x y) u := by
  refine gm_enterI (by decide) (Nat.le_of_ble_eq_true rfl) ?_
  intro p e s m args below meth c ls Q H locs hF hM hl hQ
  have hx := hF.1
  have hb := hF.2.1
  have hml := hF.2.2.1
  have hown := hF.2.2.2.1
  have hts := hF.2.2.2.2.1
  have hl : lv_has ls 5 [(0, .ref (a 0)), (1, .int x), (2, .int y)] := hl
  refine lv_iload_n hx hb d_R_word_0 rfl (lv_at hl 2 rfl) ?_
  refine gm_Si (As := [.int y]) (rest := []) hF hM (c_R_isModule (u := u) (x := y) ) (gk_R_109 hts ⟨by decide, by decide⟩) rfl hl.1 rfl (Nat.le_of_ble_eq_true rfl) ⟨Nat.zero_le _, Nat.zero_le _⟩ d_R_word_1 (fun H locs hM => ?_)
  refine gm_ifz (b := (v_R_isModule y)) (tgt := 18) hx hb d_R_word_4 rfl (fun h1 => ?_) (fun h1 => ?_)
  · refine lv_iconst (v := 0) hx hb d_R_word_18 (by decide) ?_
    have hq := hQ H locs 19 ls
    simp only [v_R_word, if_neg (gm_nf h1)] at hq
    exact hq hM d_R_word_19
  · obtain ⟨n, h_n, rfl⟩ := gr_isME h1
    refine lv_iload_n hx hb d_R_word_7 rfl (lv_at hl 1 rfl) ?_
    refine lv_if_lt (tgt := 18) hx hb d_R_word_8 rfl (fun h2 => ?_) (fun h2 => ?_)
    · refine lv_iconst (v := 0) hx hb d_R_word_18 (by decide) ?_
      have hq := hQ H locs 19 ls
      simp only [v_R_word, if_pos h1, nI_clamp (show n < 2 ^ 31 by omega), if_pos h2] at hq
      exact hq hM d_R_word_19
    · refine lv_iload_n hx hb d_R_word_11 rfl (lv_at hl 1 rfl) ?_
      refine lv_sipush (v := 255) hx hb d_R_word_12 (by decide) ?_
      refine lv_icmp_le (tgt := 20) hx hb d_R_word_15 rfl (fun h3 => ?_) (fun h3 => ?_)
      · refine lv_iload_n hx hb d_R_word_20 rfl (lv_at hl 1 rfl) ?_
        refine lv_iload_n hx hb d_R_word_21 rfl (lv_at hl 2 rfl) ?_
        refine lv_iconst (v := 1) hx hb d_R_word_22 (by decide) ?_
        refine lv_iadd hx hb d_R_word_23 ?_
        refine lv_bipush (v := 8) hx hb d_R_word_24 (by decide) ?_
        refine lv_ishl hx hb d_R_word_26 ?_
        refine lv_iadd hx hb d_R_word_27 ?_
        refine lv_aload_n hx hb d_R_word_28 rfl (lv_at hl 0 rfl) ?_
        refine lv_iload_n hx hb d_R_word_29 rfl (lv_at hl 2 rfl) ?_
        refine gm_Vi (As := [.int (nI n)]) (rest := [.int (x + (((nI n) + (1 : Int32)) <<< ((8 : Int32) &&& 31)))]) hF hM (c_R_valvesOf (u := u) (mn := n) (by omega)) (gk_R_112 hts ⟨by decide, by decide⟩) (gv_R hF hM rfl) rfl hl.1 rfl (Nat.le_of_ble_eq_true rfl) ⟨Nat.zero_le _, Nat.zero_le _⟩ d_R_word_30 (fun H locs hM => ?_)
        refine lv_bipush (v := 10) hx hb d_R_word_33 (by decide) ?_
        refine lv_ishl hx hb d_R_word_35 ?_
        refine lv_iadd hx hb d_R_word_36 ?_
        refine lv_istore_n (lv' := [(3, .int ((x + (((nI n) + (1 : Int32)) <<< ((8 : Int32) &&& 31))) + ((v_R_valvesOf u n) <<< ((10 : Int32) &&& 31)))), (0, .ref (a 0)), (1, .int x), (2, .int (nI n))]) hx hb d_R_word_37 rfl hl (by decide) rfl (fun ls hl => ?_)
        refine lv_iconst (v := 0) hx hb d_R_word_38 (by decide) ?_
        refine lv_istore (lv' := [(4, .int (0 : Int32)), (3, .int ((x + (((nI n) + (1 : Int32)) <<< ((8 : Int32) &&& 31))) + ((v_R_valvesOf u n) <<< ((10 : Int32) &&& 31)))), (0, .ref (a 0)), (1, .int x), (2, .int (nI n))]) hx hb d_R_word_39 hl (by decide) rfl (fun ls hl => ?_)
        have L4 : ∀ (k4 i4 : Nat) (z4 : Int32) (ls : Array Slot) (H : Heap) (locs : List Loc), i4 + k4 = 6 → lv_has ls 5 [(4, .int (nI i4)), (3, .int z4), (0, .ref (a 0)), (1, .int x), (2, .int (nI n))] → gm_M D A s (gr_W dk a) u H locs → (∀ (ls : Array Slot) (H : Heap) (locs : List Loc), lv_has ls 5 [(4, .int (nI 6)), (3, .int (lp_R_word u n k4 i4 z4)), (0, .ref (a 0)), (1, .int x), (2, .int (nI n))] → gm_M D A s (gr_W dk a) u H locs → W p l e rm_R_word s m args below meth c H locs 0 0 Q (F0 m 112 ls [])) → W p l e rm_R_word s m args below meth c H locs 0 0 Q (F0 m 41 ls []) := by
          intro k4
          induction k4 with
          | zero =>
            intro i4 z4 ls H locs hk4 hl hM kk
            obtain rfl : i4 = 6 := by omega
            refine lv_iload hx hb d_R_word_41 (lv_at hl 0 rfl) ?_
            refine lv_bipush (v := 6) hx hb d_R_word_43 (by decide) ?_
            refine lv_icmp_ge (tgt := 112) hx hb d_R_word_45 rfl (fun _ => ?_) (fun h => absurd (by decide) h)
            exact kk ls H locs hl hM
          | succ k4 ih =>
            intro i4 z4 ls H locs hk4 hl hM kk
            refine lv_iload hx hb d_R_word_41 (lv_at hl 0 rfl) ?_
            refine lv_bipush (v := 6) hx hb d_R_word_43 (by decide) ?_
            refine lv_icmp_ge (tgt := 112) hx hb d_R_word_45 rfl (fun h => absurd h (nI_ge (a := i4) (b := 6) (by omega) (by first | decide | omega))) (fun _ => ?_)
            refine lv_aload_n hx hb d_R_word_48 rfl (lv_at hl 2 rfl) ?_
            refine gf_R_16 hF hM d_R_word_49 ?_
            refine lv_bipush (v := 6) hx hb d_R_word_52 (by decide) ?_
            refine lv_iload_n hx hb d_R_word_54 rfl (lv_at hl 4 rfl) ?_
            refine lv_imul hx hb d_R_word_55 ?_
            refine lv_iload hx hb d_R_word_56 (lv_at hl 0 rfl) ?_
            refine lv_iadd hx hb d_R_word_58 ?_
            refine ga_value (k := (6 * n + i4)) hF hM (by first | rfl | (simp only [← nI_add, ← pk_mul] <;> rfl)) (by first | omega | exact Nat.mod_lt _ (by decide)) d_R_word_59 ?_
            have J6 : ∀ (ls : Array Slot) (H : Heap) (locs : List Loc), lv_has ls 5 [(0, .ref (a 0)), (1, .int x), (2, .int (nI n)), (3, .int z4), (4, .int (nI i4))] → gm_M D A s (gr_W dk a) u H locs → W p l e rm_R_word s m args below meth c H locs 0 0 Q (F0 m 76 ls [.int (if (u.1 2 (6 * n + i4)) = true then (z4 + ((1 : Int32) <<< (((15 : Int32) + (nI i4)) &&& 31))) else z4)]) := by
              intro ls H locs hl hM
              refine lv_istore_n (lv' := [(3, .int (if (u.1 2 (6 * n + i4)) = true then (z4 + ((1 : Int32) <<< (((15 : Int32) + (nI i4)) &&& 31))) else z4)), (0, .ref (a 0)), (1, .int x), (2, .int (nI n)), (4, .int (nI i4))]) hx hb d_R_word_76 rfl hl (by decide) rfl (fun ls hl => ?_)
              refine lv_aload_n hx hb d_R_word_77 rfl (lv_at hl 1 rfl) ?_
              refine gf_R_19 hF hM d_R_word_78 ?_
              refine lv_bipush (v := 6) hx hb d_R_word_81 (by decide) ?_
              refine lv_iload_n hx hb d_R_word_83 rfl (lv_at hl 3 rfl) ?_
              refine lv_imul hx hb d_R_word_84 ?_
              refine lv_iload hx hb d_R_word_85 (lv_at hl 4 rfl) ?_
              refine lv_iadd hx hb d_R_word_87 ?_
              refine ga_broken (k := (6 * n + i4)) hF hM (by first | rfl | (simp only [← nI_add, ← pk_mul] <;> rfl)) (by first | omega | exact Nat.mod_lt _ (by decide)) d_R_word_88 ?_
              have J8 : ∀ (ls : Array Slot) (H : Heap) (locs : List Loc), lv_has ls 5 [(0, .ref (a 0)), (1, .int x), (2, .int (nI n)), (3, .int (if (u.1 2 (6 * n + i4)) = true then (z4 + ((1 : Int32) <<< (((15 : Int32) + (nI i4)) &&& 31))) else z4)), (4, .int (nI i4))] → gm_M D A s (gr_W dk a) u H locs → W p l e rm_R_word s m args below meth c H locs 0 0 Q (F0 m 105 ls [.int (if (u.1 3 (6 * n + i4)) = true then ((if (u.1 2 (6 * n + i4)) = true then (z4 + ((1 : Int32) <<< (((15 : Int32) + (nI i4)) &&& 31))) else z4) + ((1 : Int32) <<< (((21 : Int32) + (nI i4)) &&& 31))) else (if (u.1 2 (6 * n + i4)) = true then (z4 + ((1 : Int32) <<< (((15 : Int32) + (nI i4)) &&& 31))) else z4))]) := by
                intro ls H locs hl hM
                refine lv_istore_n (lv' := [(3, .int (if (u.1 3 (6 * n + i4)) = true then ((if (u.1 2 (6 * n + i4)) = true then (z4 + ((1 : Int32) <<< (((15 : Int32) + (nI i4)) &&& 31))) else z4) + ((1 : Int32) <<< (((21 : Int32) + (nI i4)) &&& 31))) else (if (u.1 2 (6 * n + i4)) = true then (z4 + ((1 : Int32) <<< (((15 : Int32) + (nI i4)) &&& 31))) else z4))), (0, .ref (a 0)), (1, .int x), (2, .int (nI n)), (4, .int (nI i4))]) hx hb d_R_word_105 rfl hl (by decide) rfl (fun ls hl => ?_)
                refine lv_iinc (k := 4) (v := (nI (i4 + 1))) (lv' := [(4, .int (nI (i4 + 1))), (3, .int (if (u.1 3 (6 * n + i4)) = true then ((if (u.1 2 (6 * n + i4)) = true then (z4 + ((1 : Int32) <<< (((15 : Int32) + (nI i4)) &&& 31))) else z4) + ((1 : Int32) <<< (((21 : Int32) + (nI i4)) &&& 31))) else (if (u.1 2 (6 * n + i4)) = true then (z4 + ((1 : Int32) <<< (((15 : Int32) + (nI i4)) &&& 31))) else z4))), (0, .ref (a 0)), (1, .int x), (2, .int (nI n))]) hx hb d_R_word_106 hl rfl (nI_1 _) (by decide) rfl (fun ls hl => ?_)
                refine lv_goto (tgt := 41) hx hb d_R_word_109 rfl ?_
                have hK := kk
                simp only [lp_R_word] at hK
                exact ih (i4 + 1) (if (u.1 3 (6 * n + i4)) = true then ((if (u.1 2 (6 * n + i4)) = true then (z4 + ((1 : Int32) <<< (((15 : Int32) + (nI i4)) &&& 31))) else z4) + ((1 : Int32) <<< (((21 : Int32) + (nI i4)) &&& 31))) else (if (u.1 2 (6 * n + i4)) = true then (z4 + ((1 : Int32) <<< (((15 : Int32) + (nI i4)) &&& 31))) else z4)) ls H locs (by omega) hl hM hK
              refine gm_ifz (b := (u.1 3 (6 * n + i4))) (tgt := 104) hx hb d_R_word_89 rfl (fun h7 => ?_) (fun h7 => ?_)
              · refine lv_iload_n hx hb d_R_word_104 rfl (lv_at hl 0 rfl) ?_
                have hJ := J8
                try simp only [if_neg (gm_nf h7)] at hJ
                exact hJ ls H locs (lv_sub hl [1, 2, 3, 0, 4] rfl) hM
              · refine lv_iload_n hx hb d_R_word_92 rfl (lv_at hl 0 rfl) ?_
                refine lv_iconst (v := 1) hx hb d_R_word_93 (by decide) ?_
                refine lv_bipush (v := 21) hx hb d_R_word_94 (by decide) ?_
                refine lv_iload hx hb d_R_word_96 (lv_at hl 4 rfl) ?_
                refine lv_iadd hx hb d_R_word_98 ?_
                refine lv_ishl hx hb d_R_word_99 ?_
                refine lv_iadd hx hb d_R_word_100 ?_
                refine lv_goto (tgt := 105) hx hb d_R_word_101 rfl ?_
                have hJ := J8
                try simp only [if_pos h7] at hJ
                exact hJ ls H locs (lv_sub hl [1, 2, 3, 0, 4] rfl) hM
            refine gm_ifz (b := (u.1 2 (6 * n + i4))) (tgt := 75) hx hb d_R_word_60 rfl (fun h5 => ?_) (fun h5 => ?_)
            · refine lv_iload_n hx hb d_R_word_75 rfl (lv_at hl 1 rfl) ?_
              have hJ := J6
              try simp only [if_neg (gm_nf h5)] at hJ
              exact hJ ls H locs (lv_sub hl [2, 3, 4, 1, 0] rfl) hM
            · refine lv_iload_n hx hb d_R_word_63 rfl (lv_at hl 1 rfl) ?_
              refine lv_iconst (v := 1) hx hb d_R_word_64 (by decide) ?_
              refine lv_bipush (v := 15) hx hb d_R_word_65 (by decide) ?_
              refine lv_iload hx hb d_R_word_67 (lv_at hl 0 rfl) ?_
              refine lv_iadd hx hb d_R_word_69 ?_
              refine lv_ishl hx hb d_R_word_70 ?_
              refine lv_iadd hx hb d_R_word_71 ?_
              refine lv_goto (tgt := 76) hx hb d_R_word_72 rfl ?_
              have hJ := J6
              try simp only [if_pos h5] at hJ
              exact hJ ls H locs (lv_sub hl [2, 3, 4, 1, 0] rfl) hM
        refine L4 6 0 ((x + (((nI n) + (1 : Int32)) <<< ((8 : Int32) &&& 31))) + ((v_R_valvesOf u n) <<< ((10 : Int32) &&& 31))) ls H locs (by omega) hl hM (fun ls H locs hl hM => ?_)
        refine lv_aload_n hx hb d_R_word_112 rfl (lv_at hl 2 rfl) ?_
        refine gf_R_7 hF hM d_R_word_113 ?_
        refine lv_iload_n hx hb d_R_word_116 rfl (lv_at hl 4 rfl) ?_
        refine ga_failed (k := n) hF hM rfl (by first | omega | exact Nat.mod_lt _ (by decide)) d_R_word_117 ?_
        have J10 : ∀ (ls : Array Slot) (H : Heap) (locs : List Loc), lv_has ls 5 [(0, .ref (a 0)), (1, .int x), (2, .int (nI n)), (3, .int (lp_R_word u n 6 0 ((x + (((nI n) + (1 : Int32)) <<< ((8 : Int32) &&& 31))) + ((v_R_valvesOf u n) <<< ((10 : Int32) &&& 31))))), (4, .int (nI 6))] → gm_M D A s (gr_W dk a) u H locs → W p l e rm_R_word s m args below meth c H locs 0 0 Q (F0 m 138 ls [.int (if (u.1 0 n) = true then (0 : Int32) else (if (v_R_anomalies u (nI n)) = 0 then (3 : Int32) else (1 : Int32)))]) := by
          intro ls H locs hl hM
          refine lv_istore (lv' := [(4, .int (if (u.1 0 n) = true then (0 : Int32) else (if (v_R_anomalies u (nI n)) = 0 then (3 : Int32) else (1 : Int32)))), (0, .ref (a 0)), (1, .int x), (2, .int (nI n)), (3, .int (lp_R_word u n 6 0 ((x + (((nI n) + (1 : Int32)) <<< ((8 : Int32) &&& 31))) + ((v_R_valvesOf u n) <<< ((10 : Int32) &&& 31)))))]) hx hb d_R_word_138 hl (by decide) rfl (fun ls hl => ?_)
          refine lv_iload_n hx hb d_R_word_140 rfl (lv_at hl 4 rfl) ?_
          refine lv_iload hx hb d_R_word_141 (lv_at hl 0 rfl) ?_
          refine lv_bipush (v := 29) hx hb d_R_word_143 (by decide) ?_
          refine lv_ishl hx hb d_R_word_145 ?_
          refine lv_iadd hx hb d_R_word_146 ?_
          refine lv_istore_n (lv' := [(3, .int ((lp_R_word u n 6 0 ((x + (((nI n) + (1 : Int32)) <<< ((8 : Int32) &&& 31))) + ((v_R_valvesOf u n) <<< ((10 : Int32) &&& 31)))) + ((if (u.1 0 n) = true then (0 : Int32) else (if (v_R_anomalies u (nI n)) = 0 then (3 : Int32) else (1 : Int32))) <<< ((29 : Int32) &&& 31)))), (4, .int (if (u.1 0 n) = true then (0 : Int32) else (if (v_R_anomalies u (nI n)) = 0 then (3 : Int32) else (1 : Int32)))), (0, .ref (a 0)), (1, .int x), (2, .int (nI n))]) hx hb d_R_word_147 rfl hl (by decide) rfl (fun ls hl => ?_)
          refine lv_iload_n hx hb d_R_word_148 rfl (lv_at hl 0 rfl) ?_
          refine gm_Si (As := [.int ((lp_R_word u n 6 0 ((x + (((nI n) + (1 : Int32)) <<< ((8 : Int32) &&& 31))) + ((v_R_valvesOf u n) <<< ((10 : Int32) &&& 31)))) + ((if (u.1 0 n) = true then (0 : Int32) else (if (v_R_anomalies u (nI n)) = 0 then (3 : Int32) else (1 : Int32))) <<< ((29 : Int32) &&& 31)))]) (rest := []) hF hM (c_R_ones (u := u) (x := ((lp_R_word u n 6 0 ((x + (((nI n) + (1 : Int32)) <<< ((8 : Int32) &&& 31))) + ((v_R_valvesOf u n) <<< ((10 : Int32) &&& 31)))) + ((if (u.1 0 n) = true then (0 : Int32) else (if (v_R_anomalies u (nI n)) = 0 then (3 : Int32) else (1 : Int32))) <<< ((29 : Int32) &&& 31)))) ) (gk_R_123 hts ⟨by decide, by decide⟩) rfl hl.1 rfl (Nat.le_of_ble_eq_true rfl) ⟨Nat.zero_le _, Nat.zero_le _⟩ d_R_word_149 (fun H locs hM => ?_)
          refine lv_iconst (v := 2) hx hb d_R_word_152 (by decide) ?_
          refine lv_irem hx hb d_R_word_153 (by decide) ?_
          refine lv_iconst (v := 1) hx hb d_R_word_154 (by decide) ?_
          have J12 : ∀ (ls : Array Slot) (H : Heap) (locs : List Loc), lv_has ls 5 [(0, .ref (a 0)), (1, .int x), (2, .int (nI n)), (3, .int ((lp_R_word u n 6 0 ((x + (((nI n) + (1 : Int32)) <<< ((8 : Int32) &&& 31))) + ((v_R_valvesOf u n) <<< ((10 : Int32) &&& 31)))) + ((if (u.1 0 n) = true then (0 : Int32) else (if (v_R_anomalies u (nI n)) = 0 then (3 : Int32) else (1 : Int32))) <<< ((29 : Int32) &&& 31)))), (4, .int (if (u.1 0 n) = true then (0 : Int32) else (if (v_R_anomalies u (nI n)) = 0 then (3 : Int32) else (1 : Int32))))] → gm_M D A s (gr_W dk a) u H locs → W p l e rm_R_word s m args below meth c H locs 0 0 Q (F0 m 166 ls [.int (if ((v_R_ones ((lp_R_word u n 6 0 ((x + (((nI n) + (1 : Int32)) <<< ((8 : Int32) &&& 31))) + ((v_R_valvesOf u n) <<< ((10 : Int32) &&& 31)))) + ((if (u.1 0 n) = true then (0 : Int32) else (if (v_R_anomalies u (nI n)) = 0 then (3 : Int32) else (1 : Int32))) <<< ((29 : Int32) &&& 31)))) - (v_R_ones ((lp_R_word u n 6 0 ((x + (((nI n) + (1 : Int32)) <<< ((8 : Int32) &&& 31))) + ((v_R_valvesOf u n) <<< ((10 : Int32) &&& 31)))) + ((if (u.1 0 n) = true then (0 : Int32) else (if (v_R_anomalies u (nI n)) = 0 then (3 : Int32) else (1 : Int32))) <<< ((29 : Int32) &&& 31)))) / (2 : Int32) * (2 : Int32)) = (1 : Int32) then ((lp_R_word u n 6 0 ((x + (((nI n) + (1 : Int32)) <<< ((8 : Int32) &&& 31))) + ((v_R_valvesOf u n) <<< ((10 : Int32) &&& 31)))) + ((if (u.1 0 n) = true then (0 : Int32) else (if (v_R_anomalies u (nI n)) = 0 then (3 : Int32) else (1 : Int32))) <<< ((29 : Int32) &&& 31))) else (((lp_R_word u n 6 0 ((x + (((nI n) + (1 : Int32)) <<< ((8 : Int32) &&& 31))) + ((v_R_valvesOf u n) <<< ((10 : Int32) &&& 31)))) + ((if (u.1 0 n) = true then (0 : Int32) else (if (v_R_anomalies u (nI n)) = 0 then (3 : Int32) else (1 : Int32))) <<< ((29 : Int32) &&& 31))) ||| (-2147483648 : Int32)))]) := by
            intro ls H locs hl hM
            have hq := hQ H locs 166 ls
            simp only [v_R_word, if_pos h1, nI_clamp (show n < 2 ^ 31 by omega), if_neg h2, if_pos h3] at hq
            exact hq hM d_R_word_166
          refine lv_icmp_ne (tgt := 162) hx hb d_R_word_155 rfl (fun h11 => ?_) (fun h11 => ?_)
          · refine lv_iload_n hx hb d_R_word_162 rfl (lv_at hl 0 rfl) ?_
            refine lv_ldc (v := -2147483648) hx hb hown (hts _ (gm_in 475 (by decide +kernel) rfl)) d_R_word_163 ?_
            refine lv_ior hx hb d_R_word_165 ?_
            have hJ := J12
            try simp only [if_neg h11] at hJ
            exact hJ ls H locs (lv_sub hl [2, 3, 4, 0, 1] rfl) hM
          · refine lv_iload_n hx hb d_R_word_158 rfl (lv_at hl 0 rfl) ?_
            refine lv_goto (tgt := 166) hx hb d_R_word_159 rfl ?_
            have hJ := J12
            try simp only [if_pos h11] at hJ
            exact hJ ls H locs (lv_sub hl [2, 3, 4, 0, 1] rfl) hM
        refine gm_ifz (b := (u.1 0 n)) (tgt := 125) hx hb d_R_word_118 rfl (fun h9 => ?_) (fun h9 => ?_)
        · refine lv_aload_n hx hb d_R_word_125 rfl (lv_at hl 2 rfl) ?_
          refine lv_iload_n hx hb d_R_word_126 rfl (lv_at hl 4 rfl) ?_
          refine gm_Vi (As := [.int (nI n)]) (rest := []) hF hM (c_R_anomalies (u := u) (x := (nI n)) ) (gk_R_115 hts ⟨by decide, by decide⟩) (gv_R hF hM rfl) rfl hl.1 rfl (Nat.le_of_ble_eq_true rfl) ⟨Nat.zero_le _, Nat.zero_le _⟩ d_R_word_127 (fun H locs hM => ?_)
          refine lv_if_eq (tgt := 137) hx hb d_R_word_130 rfl (fun h13 => ?_) (fun h13 => ?_)
          · refine lv_iconst (v := 3) hx hb d_R_word_137 (by decide) ?_
            have hJ := J10
            try simp only [if_neg (gm_nf h9), if_pos h13] at hJ
            exact hJ ls H locs (lv_sub hl [2, 3, 4, 1, 0] rfl) hM
          · refine lv_iconst (v := 1) hx hb d_R_word_133 (by decide) ?_
            refine lv_goto (tgt := 138) hx hb d_R_word_134 rfl ?_
            have hJ := J10
            try simp only [if_neg (gm_nf h9), if_neg h13] at hJ
            exact hJ ls H locs (lv_sub hl [2, 3, 4, 1, 0] rfl) hM
        · refine lv_iconst (v := 0) hx hb d_R_word_121 (by decide) ?_
          refine lv_goto (tgt := 138) hx hb d_R_word_122 rfl ?_
          have hJ := J10
          try simp only [if_pos h9] at hJ
          exact hJ ls H locs (lv_sub hl [2, 3, 4, 1, 0] rfl) hM
      · refine lv_iconst (v := 0) hx hb d_R_word_18 (by decide) ?_
        have hq := hQ H locs 19 ls
        simp only [v_R_word, if_pos h1, nI_clamp (show n < 2 ^ 31 by omega), if_neg h2, if_neg h3] at hq
        exact hq hM d_R_word_19
theorem d_R_label_0 : decode b_R_label 0 = .ok (.iload_n 1, 1) := by decide +kernel
theorem d_R_label_1 : decode b_R_label 1 = .ok (.invokestatic 123, 3) := by decide +kernel
theorem d_R_label_4 : decode b_R_label 4 = .ok (.iconst 2, 1) := by decide +kernel
theorem d_R_label_5 : decode b_R_label 5 = .ok (.irem, 1) := by decide +kernel
theorem d_R_label_6 : decode b_R_label 6 = .ok (.ifCond .ne 5, 3) := by decide +kernel
theorem d_R_label_9 : decode b_R_label 9 = .ok (.iconst (-1), 1) := by decide +kernel
theorem d_R_label_10 : decode b_R_label 10 = .ok (.ireturn, 1) := by decide +kernel
theorem d_R_label_11 : decode b_R_label 11 = .ok (.iconst 0, 1) := by decide +kernel
theorem d_R_label_12 : decode b_R_label 12 = .ok (.istore_n 2, 1) := by decide +kernel
theorem d_R_label_13 : decode b_R_label 13 = .ok (.iconst 0, 1) := by decide +kernel
theorem d_R_label_14 : decode b_R_label 14 = .ok (.istore_n 3, 1) := by decide +kernel
theorem d_R_label_15 : decode b_R_label 15 = .ok (.iload_n 3, 1) := by decide +kernel
theorem d_R_label_16 : decode b_R_label 16 = .ok (.bipush 8, 2) := by decide +kernel
theorem d_R_label_18 : decode b_R_label 18 = .ok (.if_icmp .ge 22, 3) := by decide +kernel
theorem d_R_label_21 : decode b_R_label 21 = .ok (.iload_n 2, 1) := by decide +kernel
theorem d_R_label_22 : decode b_R_label 22 = .ok (.iload_n 1, 1) := by decide +kernel
theorem d_R_label_23 : decode b_R_label 23 = .ok (.iload_n 3, 1) := by decide +kernel
theorem d_R_label_24 : decode b_R_label 24 = .ok (.ishr, 1) := by decide +kernel
theorem d_R_label_25 : decode b_R_label 25 = .ok (.iconst 1, 1) := by decide +kernel
theorem d_R_label_26 : decode b_R_label 26 = .ok (.iand, 1) := by decide +kernel
theorem d_R_label_27 : decode b_R_label 27 = .ok (.bipush 7, 2) := by decide +kernel
theorem d_R_label_29 : decode b_R_label 29 = .ok (.iload_n 3, 1) := by decide +kernel
theorem d_R_label_30 : decode b_R_label 30 = .ok (.isub, 1) := by decide +kernel
theorem d_R_label_31 : decode b_R_label 31 = .ok (.ishl, 1) := by decide +kernel
theorem d_R_label_32 : decode b_R_label 32 = .ok (.iadd, 1) := by decide +kernel
theorem d_R_label_33 : decode b_R_label 33 = .ok (.istore_n 2, 1) := by decide +kernel
theorem d_R_label_34 : decode b_R_label 34 = .ok (.iinc 3 1, 3) := by decide +kernel
theorem d_R_label_37 : decode b_R_label 37 = .ok (.goto (-22), 3) := by decide +kernel
theorem d_R_label_40 : decode b_R_label 40 = .ok (.iload_n 2, 1) := by decide +kernel
theorem d_R_label_41 : decode b_R_label 41 = .ok (.ireturn, 1) := by decide +kernel
def lp_R_label (u : gm_St) (wo : Int32) : Nat → Nat → Int32 → Int32
  | 0, _, z => z
  | k + 1, i, z => lp_R_label u wo k (i + 1) (z + (((wo >>> ((nI i) &&& 31)) &&& (1 : Int32)) <<< (((7 : Int32) - (nI i)) &&& 31)))
def v_R_label (u : gm_St) (wo : Int32) : Int32 := (if ((v_R_ones wo) - (v_R_ones wo) / (2 : Int32) * (2 : Int32)) = 0 then (-1 : Int32) else (lp_R_label u wo 8 0 (0 : Int32)))
set_option maxRecDepth 100000 in
set_option maxHeartbeats 4000000 in
theorem c_R_label {l : Launch} {D : va_G} {dk : Nat → ClassId} {a : Nat → Nat} {A : Nat → Prop} {lt : Nat} {u : gm_St} {wo : Int32} : gm_I l D (gm_ty dk) (gr_W dk a) A lt y_R_label b_R_label 4 (some .int) rm_R_label [.ref (a 0), .int wo] u (v_R_label u wo) u := by
  refine gm_enterI (by decide) (Nat.le_of_ble_eq_true rfl) ?_
  intro p e s m args below meth c ls Q H locs hF hM hl hQ
  have hx := hF.1
  have hb := hF.2.1
  have hml := hF.2.2.1
  have hown := hF.2.2.2.1
  have hts := hF.2.2.2.2.1
  have hl : lv_has ls 4 [(0, .ref (a 0)), (1, .int wo)] := hl
  refine lv_iload_n hx hb d_R_label_0 rfl (lv_at hl 1 rfl) ?_
  refine gm_Si (As := [.int wo]) (rest := []) hF hM (c_R_ones (u := u) (x := wo) ) (gk_R_123 hts ⟨by decide, by decide⟩) rfl hl.1 rfl (Nat.le_of_ble_eq_true rfl) ⟨Nat.zero_le _, Nat.zero_le _⟩ d_R_label_1 (fun H locs hM => ?_)
  refine lv_iconst (v := 2) hx hb d_R_label_4 (by decide) ?_
  refine lv_irem hx hb d_R_label_5 (by decide) ?_
  refine lv_if_ne (tgt := 11) hx hb d_R_label_6 rfl (fun h1 => ?_) (fun h1 => ?_)
  · refine lv_iconst (v := 0) hx hb d_R_label_11 (by decide) ?_
    refine lv_istore_n (lv' := [(2, .int (0 : Int32)), (0, .ref (a 0)), (1, .int wo)]) hx hb d_R_label_12 rfl hl (by decide) rfl (fun ls hl => ?_)
    refine lv_iconst (v := 0) hx hb d_R_label_13 (by decide) ?_
    refine lv_istore_n (lv' := [(3, .int (0 : Int32)), (2, .int (0 : Int32)), (0, .ref (a 0)), (1, .int wo)]) hx hb d_R_label_14 rfl hl (by decide) rfl (fun ls hl => ?_)
    have L2 : ∀ (k2 i2 : Nat) (z2 : Int32) (ls : Array Slot) (H : Heap) (locs : List Loc), i2 + k2 = 8 → lv_has ls 4 [(3, .int (nI i2)), (2, .int z2), (0, .ref (a 0)), (1, .int wo)] → gm_M D A s (gr_W dk a) u H locs → (∀ (ls : Array Slot) (H : Heap) (locs : List Loc), lv_has ls 4 [(3, .int (nI 8)), (2, .int (lp_R_label u wo k2 i2 z2)), (0, .ref (a 0)), (1, .int wo)] → gm_M D A s (gr_W dk a) u H locs → W p l e rm_R_label s m args below meth c H locs 0 0 Q (F0 m 40 ls [])) → W p l e rm_R_label s m args below meth c H locs 0 0 Q (F0 m 15 ls []) := by
      intro k2
      induction k2 with
      | zero =>
        intro i2 z2 ls H locs hk2 hl hM kk
        obtain rfl : i2 = 8 := by omega
        refine lv_iload_n hx hb d_R_label_15 rfl (lv_at hl 0 rfl) ?_
        refine lv_bipush (v := 8) hx hb d_R_label_16 (by decide) ?_
        refine lv_icmp_ge (tgt := 40) hx hb d_R_label_18 rfl (fun _ => ?_) (fun h => absurd (by decide) h)
        exact kk ls H locs hl hM
      | succ k2 ih =>
        intro i2 z2 ls H locs hk2 hl hM kk
        refine lv_iload_n hx hb d_R_label_15 rfl (lv_at hl 0 rfl) ?_
        refine lv_bipush (v := 8) hx hb d_R_label_16 (by decide) ?_
        refine lv_icmp_ge (tgt := 40) hx hb d_R_label_18 rfl (fun h => absurd h (nI_ge (a := i2) (b := 8) (by omega) (by first | decide | omega))) (fun _ => ?_)
        refine lv_iload_n hx hb d_R_label_21 rfl (lv_at hl 1 rfl) ?_
        refine lv_iload_n hx hb d_R_label_22 rfl (lv_at hl 3 rfl) ?_
        refine lv_iload_n hx hb d_R_label_23 rfl (lv_at hl 0 rfl) ?_
        refine lv_ishr hx hb d_R_label_24 ?_
        refine lv_iconst (v := 1) hx hb d_R_label_25 (by decide) ?_
        refine lv_iand hx hb d_R_label_26 ?_
        refine lv_bipush (v := 7) hx hb d_R_label_27 (by decide) ?_
        refine lv_iload_n hx hb d_R_label_29 rfl (lv_at hl 0 rfl) ?_
        refine lv_isub hx hb d_R_label_30 ?_
        refine lv_ishl hx hb d_R_label_31 ?_
        refine lv_iadd hx hb d_R_label_32 ?_
        refine lv_istore_n (lv' := [(2, .int (z2 + (((wo >>> ((nI i2) &&& 31)) &&& (1 : Int32)) <<< (((7 : Int32) - (nI i2)) &&& 31)))), (3, .int (nI i2)), (0, .ref (a 0)), (1, .int wo)]) hx hb d_R_label_33 rfl hl (by decide) rfl (fun ls hl => ?_)
        refine lv_iinc (k := 1) (v := (nI (i2 + 1))) (lv' := [(3, .int (nI (i2 + 1))), (2, .int (z2 + (((wo >>> ((nI i2) &&& 31)) &&& (1 : Int32)) <<< (((7 : Int32) - (nI i2)) &&& 31)))), (0, .ref (a 0)), (1, .int wo)]) hx hb d_R_label_34 hl rfl (nI_1 _) (by decide) rfl (fun ls hl => ?_)
        refine lv_goto (tgt := 15) hx hb d_R_label_37 rfl ?_
        have hK := kk
        simp only [lp_R_label] at hK
        exact ih (i2 + 1) (z2 + (((wo >>> ((nI i2) &&& 31)) &&& (1 : Int32)) <<< (((7 : Int32) - (nI i2)) &&& 31))) ls H locs (by omega) hl hM hK
    refine L2 8 0 (0 : Int32) ls H locs (by omega) hl hM (fun ls H locs hl hM => ?_)
    refine lv_iload_n hx hb d_R_label_40 rfl (lv_at hl 1 rfl) ?_
    have hq := hQ H locs 41 ls
    simp only [v_R_label, if_neg h1] at hq
    exact hq hM d_R_label_41
  · refine lv_iconst (v := -1) hx hb d_R_label_9 (by decide) ?_
    have hq := hQ H locs 10 ls
    simp only [v_R_label, if_pos h1] at hq
    exact hq hM d_R_label_10
end
section
-- what the constructors need beside steady words
def gm_Y (U : State) : Prop := va_Nw (.methodLinkNest "GearModules$OneModule" 25 y_S_init "GearModules") U ∧ va_AO "GearModules$Sensor" U ∧ va_AO "GearModules$OneModule" U
theorem gm_Y.calling {U : State} {g : JFrame} {mk : MethodId} {a : Array Value} (h : gm_Y U) : gm_Y (U.calling g mk a) := ⟨va_Nw.same rfl rfl h.1, va_AO.moved (u := U) (U := U.calling g mk a) (Vm.Alike.refl U.vm) h.2.1, va_AO.moved (u := U) (U := U.calling g mk a) (Vm.Alike.refl U.vm) h.2.2⟩
theorem gm_Y.go {s U : State} (h : gm_Y s) (hW : s.WarmedH U.vm) : gm_Y U := ⟨va_Nw.warmM hW h.1, va_AO.moved hW.alike h.2.1, va_AO.moved hW.alike h.2.2⟩
theorem d_S_init_0 : decode b_S_init 0 = .ok (.aload_n 0, 1) := by decide +kernel
theorem d_S_init_1 : decode b_S_init 1 = .ok (.invokespecial 3, 3) := by decide +kernel
theorem d_S_init_4 : decode b_S_init 4 = .ok (.aload_n 0, 1) := by decide +kernel
theorem d_S_init_5 : decode b_S_init 5 = .ok (.bipush 7, 2) := by decide +kernel
theorem d_S_init_7 : decode b_S_init 7 = .ok (.putfield 9, 3) := by decide +kernel
theorem d_S_init_10 : decode b_S_init 10 = .ok (.return_, 1) := by decide +kernel
def p_S_init (D : va_G) (A : Nat → Prop) (h0 : Nat) (t : State) : Prop := va_P D gm_cl [(h0, .inr (2, [.int 0, .int 0, .int 7]))] t.heap ∧ va_D A [(h0, .inr (2, [.int 0, .int 0, .int 7]))]
set_option maxRecDepth 100000 in
set_option maxHeartbeats 8000000 in
theorem c_S_init {l : Launch} {D : va_G} {A : Nat → Prop} {h0 : Nat} : Met l y_S_init (Cond.code y_S_init b_S_init 1 none :: gm_A) { frames := 1, cells := 0, slots := 0, locals := 20 } (va_Pc [.ref h0] (fun U => va_P D gm_cl [(h0, .inr (2, [.int 0, .int 0, .int 0]))] U.heap ∧ va_K D gm_cl [] U ∧ va_D A [(h0, .inr (2, [.int 0, .int 0, .int 0]))])) (va_Qv (fun _ : Unit => True) (fun _ t => p_S_init D A h0 t) A) 0 0 A := by
  refine Met.ofW (cc := b_S_init) (maxL := 1) (ret := none) (by decide) rfl ?_
  intro p e s m args below meth c s₁ B hml hv
  obtain ⟨rfl, hP, hK, hD⟩ := hv
  have hx := B.exec
  have hb := B.bytes
  have hr := B.returns
  have hts0 := atoms_spec B.pre
  have hts := fun w h => hts0 w (List.mem_cons_of_mem _ h)
  have hown : s.vm.findClass R_S = some m.cls := findClass_of_methodNamed B.named
  have hlocks := B.notSynchronized
  have hin : meth.name = "<init>" := (name_of_methodNamed B.named B.method).1
  have hS : va_S A s.heap s.heap [] := va_S.rf
  have hl := lv_entry ([.ref h0]) (n := 1) (Nat.le_of_ble_eq_true rfl)
  rw [lg_entry_eq]
  generalize (lg_sl ([.ref h0]) ++ List.replicate (1 - (lg_sl ([.ref h0])).length) Slot.unset).toArray = ls at hl ⊢
  have hl : lv_has ls 1 [(0, .ref h0)] := hl
  refine lv_aload_n hx hb d_S_init_0 rfl (lv_at hl 0 rfl) ?_
  refine W.objInit hx hb hown (hts _ (gm_in 55 (by decide +kernel) rfl)) (hts _ (gm_in 40 (by decide +kernel) rfl)) (hts _ (gm_in 41 (by decide +kernel) rfl)) rfl (by rw [hml]; exact hl.1) rfl d_S_init_1 (Nat.le_of_ble_eq_true rfl) (Nat.le_of_ble_eq_true rfl) ?_
  refine W.eq (g2 := F0 m 4 ls []) rfl ?_
  refine lv_aload_n hx hb d_S_init_4 rfl (lv_at hl 0 rfl) ?_
  refine lv_bipush (v := 7) hx hb d_S_init_5 (by decide) ?_
  refine va_put (D := D) (ci := 2) (v := .int 7) (ty := .int) (C := R_S) (T := F_S) (N := 3) (ref := "GearModules$Sensor") hx hb hts in_S t_S t_S_ok n_S hown hK hP hD hS 0 rfl rfl 2 (by decide) (hts _ (gm_in 60 (by decide +kernel) rfl)) (fun _ h9 => h9) rfl (by decide +kernel) rfl rfl (Nat.le_of_ble_eq_true rfl) d_S_init_7 (fun H locs hP hD hS => ?_)
  have hP : va_P D gm_cl [(h0, .inr (2, [.int 0, .int 0, .int 7]))] H := hP
  have hD : va_D A [(h0, .inr (2, [.int 0, .int 0, .int 7]))] := hD
  exact W.vret hx hb hr (fun t ht hW => ⟨⟨(), rfl, trivial, by rw [ht]; exact hP, hD⟩, hS.F ht⟩) hS.2.2 d_S_init_10
theorem d_M_init_0 : decode b_M_init 0 = .ok (.aload_n 0, 1) := by decide +kernel
theorem d_M_init_1 : decode b_M_init 1 = .ok (.invokespecial 3, 3) := by decide +kernel
theorem d_M_init_4 : decode b_M_init 4 = .ok (.aload_n 0, 1) := by decide +kernel
theorem d_M_init_5 : decode b_M_init 5 = .ok (.bipush 6, 2) := by decide +kernel
theorem d_M_init_7 : decode b_M_init 7 = .ok (.anewarray 9, 3) := by decide +kernel
theorem d_M_init_10 : decode b_M_init 10 = .ok (.putfield 11, 3) := by decide +kernel
theorem d_M_init_13 : decode b_M_init 13 = .ok (.aload_n 0, 1) := by decide +kernel
theorem d_M_init_14 : decode b_M_init 14 = .ok (.bipush 16, 2) := by decide +kernel
theorem d_M_init_16 : decode b_M_init 16 = .ok (.newarray .int, 2) := by decide +kernel
theorem d_M_init_18 : decode b_M_init 18 = .ok (.putfield 17, 3) := by decide +kernel
theorem d_M_init_21 : decode b_M_init 21 = .ok (.aload_n 0, 1) := by decide +kernel
theorem d_M_init_22 : decode b_M_init 22 = .ok (.iconst 1, 1) := by decide +kernel
theorem d_M_init_23 : decode b_M_init 23 = .ok (.putfield 21, 3) := by decide +kernel
theorem d_M_init_26 : decode b_M_init 26 = .ok (.iconst 0, 1) := by decide +kernel
theorem d_M_init_27 : decode b_M_init 27 = .ok (.istore_n 1, 1) := by decide +kernel
theorem d_M_init_28 : decode b_M_init 28 = .ok (.iload_n 1, 1) := by decide +kernel
theorem d_M_init_29 : decode b_M_init 29 = .ok (.bipush 6, 2) := by decide +kernel
theorem d_M_init_31 : decode b_M_init 31 = .ok (.if_icmp .ge 22, 3) := by decide +kernel
theorem d_M_init_34 : decode b_M_init 34 = .ok (.aload_n 0, 1) := by decide +kernel
theorem d_M_init_35 : decode b_M_init 35 = .ok (.getfield 11, 3) := by decide +kernel
theorem d_M_init_38 : decode b_M_init 38 = .ok (.iload_n 1, 1) := by decide +kernel
theorem d_M_init_39 : decode b_M_init 39 = .ok (.new 9, 3) := by decide +kernel
theorem d_M_init_42 : decode b_M_init 42 = .ok (.dup, 1) := by decide +kernel
theorem d_M_init_43 : decode b_M_init 43 = .ok (.invokespecial 25, 3) := by decide +kernel
theorem d_M_init_46 : decode b_M_init 46 = .ok (.aastore, 1) := by decide +kernel
theorem d_M_init_47 : decode b_M_init 47 = .ok (.iinc 1 1, 3) := by decide +kernel
theorem d_M_init_50 : decode b_M_init 50 = .ok (.goto (-22), 3) := by decide +kernel
theorem d_M_init_53 : decode b_M_init 53 = .ok (.return_, 1) := by decide +kernel
def p_M_init (D : va_G) (A : Nat → Prop) (h0 : Nat) (t : State) : Prop := ∃ (q1 : Nat) (c1 : ClassId) (q2 : Nat) (c2 : ClassId) (q3 : Nat) (q4 : Nat) (q5 : Nat) (q6 : Nat) (q7 : Nat) (q8 : Nat), va_P D gm_cl [(h0, .inr (1, [.ref q1, .ref q2, .int 1, .int 0, .int 0, .int 0, .int 0, .int 0])), (q1, .inl (c1, 6, .inr (.inr (.inr (.inr (va_up (va_up (va_up (va_up (va_up (va_up (fun _ => none) 0 (some q3)) 1 (some q4)) 2 (some q5)) 3 (some q6)) 4 (some q7)) 5 (some q8))))))), (q2, .inl (c2, 16, .inl (fun _ => 0))), (q3, .inr (2, [.int 0, .int 0, .int 7])), (q4, .inr (2, [.int 0, .int 0, .int 7])), (q5, .inr (2, [.int 0, .int 0, .int 7])), (q6, .inr (2, [.int 0, .int 0, .int 7])), (q7, .inr (2, [.int 0, .int 0, .int 7])), (q8, .inr (2, [.int 0, .int 0, .int 7]))] t.heap ∧ va_D A [(h0, .inr (1, [.ref q1, .ref q2, .int 1, .int 0, .int 0, .int 0, .int 0, .int 0])), (q1, .inl (c1, 6, .inr (.inr (.inr (.inr (va_up (va_up (va_up (va_up (va_up (va_up (fun _ => none) 0 (some q3)) 1 (some q4)) 2 (some q5)) 3 (some q6)) 4 (some q7)) 5 (some q8))))))), (q2, .inl (c2, 16, .inl (fun _ => 0))), (q3, .inr (2, [.int 0, .int 0, .int 7])), (q4, .inr (2, [.int 0, .int 0, .int 7])), (q5, .inr (2, [.int 0, .int 0, .int 7])), (q6, .inr (2, [.int 0, .int 0, .int 7])), (q7, .inr (2, [.int 0, .int 0, .int 7])), (q8, .inr (2, [.int 0, .int 0, .int 7]))] ∧ va_K D gm_cl [(c1, .object "GearModules$Sensor"), (c2, .int)] t
set_option maxRecDepth 100000 in
set_option maxHeartbeats 8000000 in
theorem c_M_init {l : Launch} {D : va_G} {A : Nat → Prop} {h0 sz : Nat} (hA0 : ∀ q, sz ≤ q → A q) : Met l y_M_init (Cond.code y_M_init b_M_init 2 none :: gm_A) { frames := 2, cells := 8, slots := 40, locals := 40 } (va_Pc [.ref h0] (fun U => sz ≤ U.heap.size ∧ va_P D gm_cl [(h0, .inr (1, [.null, .null, .int 0, .int 0, .int 0, .int 0, .int 0, .int 0]))] U.heap ∧ va_K D gm_cl [] U ∧ va_D A [(h0, .inr (1, [.null, .null, .int 0, .int 0, .int 0, .int 0, .int 0, .int 0]))] ∧ gm_Y U)) (va_Qv (fun _ : Unit => True) (fun _ t => p_M_init D A h0 t) A) 8 40 A := by
  refine Met.ofW (cc := b_M_init) (maxL := 2) (ret := none) (by decide) rfl ?_
  intro p e s m args below meth c s₁ B hml hv
  obtain ⟨rfl, hsz, hP, hK, hD, hY⟩ := hv
  have hx := B.exec
  have hb := B.bytes
  have hr := B.returns
  have hts0 := atoms_spec B.pre
  have hts := fun w h => hts0 w (List.mem_cons_of_mem _ h)
  have hown : s.vm.findClass R_M = some m.cls := findClass_of_methodNamed B.named
  have hlocks := B.notSynchronized
  have hin : meth.name = "<init>" := (name_of_methodNamed B.named B.method).1
  have hS : va_S A s.heap s.heap [] := va_S.rf
  have hA : ∀ q : Nat, s.heap.size ≤ q → A q := fun q h => hA0 q (Nat.le_trans hsz h)
  have hl := lv_entry ([.ref h0]) (n := 2) (Nat.le_of_ble_eq_true rfl)
  rw [lg_entry_eq]
  generalize (lg_sl ([.ref h0]) ++ List.replicate (2 - (lg_sl ([.ref h0])).length) Slot.unset).toArray = ls at hl ⊢
  have hl : lv_has ls 2 [(0, .ref h0)] := hl
  refine lv_aload_n hx hb d_M_init_0 rfl (lv_at hl 0 rfl) ?_
  refine W.objInit hx hb hown (hts _ (gm_in 48 (by decide +kernel) rfl)) (hts _ (gm_in 40 (by decide +kernel) rfl)) (hts _ (gm_in 41 (by decide +kernel) rfl)) rfl (by rw [hml]; exact hl.1) rfl d_M_init_1 (Nat.le_of_ble_eq_true rfl) (Nat.le_of_ble_eq_true rfl) ?_
  refine W.eq (g2 := F0 m 4 ls []) rfl ?_
  refine lv_aload_n hx hb d_M_init_4 rfl (lv_at hl 0 rfl) ?_
  refine lv_bipush (v := 6) hx hb d_M_init_5 (by decide) ?_
  refine va_newq (N' := 6) hx hb hown (hts _ (gm_in 49 (by decide +kernel) rfl)) hY.2.1 hK hP hD hS hA (by decide) rfl (by decide) (by decide) (by decide) d_M_init_7 (fun q1 c1 H hK hP hD hS => ?_)
  have hP : va_P D gm_cl [(h0, .inr (1, [.null, .null, .int 0, .int 0, .int 0, .int 0, .int 0, .int 0])), (q1, .inl (c1, 6, .inr (.inr (.inr (.inr (fun _ => none))))))] H := hP
  have hD : va_D A [(h0, .inr (1, [.null, .null, .int 0, .int 0, .int 0, .int 0, .int 0, .int 0])), (q1, .inl (c1, 6, .inr (.inr (.inr (.inr (fun _ => none))))))] := hD
  refine va_putF (D := D) (ci := 1) (v := .ref q1) (ty := .array (.object "GearModules$Sensor")) (C := R_M) (T := F_M) (N := 8) (ref := "GearModules$OneModule") hx hb hts in_M t_M t_M_ok n_M hown hK hP hD hS 0 rfl rfl 0 (by decide) (hts _ (gm_in 70 (by decide +kernel) rfl)) (fun _ h9 => h9) rfl hin rfl (by decide +kernel) rfl rfl (Nat.le_of_ble_eq_true rfl) d_M_init_10 (fun H locs hP hD hS => ?_)
  have hP : va_P D gm_cl [(h0, .inr (1, [.ref q1, .null, .int 0, .int 0, .int 0, .int 0, .int 0, .int 0])), (q1, .inl (c1, 6, .inr (.inr (.inr (.inr (fun _ => none))))))] H := hP
  have hD : va_D A [(h0, .inr (1, [.ref q1, .null, .int 0, .int 0, .int 0, .int 0, .int 0, .int 0])), (q1, .inl (c1, 6, .inr (.inr (.inr (.inr (fun _ => none))))))] := hD
  refine lv_aload_n hx hb d_M_init_13 rfl (lv_at hl 0 rfl) ?_
  refine lv_bipush (v := 16) hx hb d_M_init_14 (by decide) ?_
  refine va_newa (ty := .int) (a0 := (16, .inl (fun _ => 0))) (N' := 16) hx hb (hts _ (gm_in 69 (by decide +kernel) rfl)) rfl hK hP hD hS hA (fun _ => rfl) (by decide) rfl (by decide) (by decide) (by decide) d_M_init_16 (fun q2 c2 H hK hP hD hS => ?_)
  have hP : va_P D gm_cl [(h0, .inr (1, [.ref q1, .null, .int 0, .int 0, .int 0, .int 0, .int 0, .int 0])), (q1, .inl (c1, 6, .inr (.inr (.inr (.inr (fun _ => none)))))), (q2, .inl (c2, 16, .inl (fun _ => 0)))] H := hP
  have hD : va_D A [(h0, .inr (1, [.ref q1, .null, .int 0, .int 0, .int 0, .int 0, .int 0, .int 0])), (q1, .inl (c1, 6, .inr (.inr (.inr (.inr (fun _ => none)))))), (q2, .inl (c2, 16, .inl (fun _ => 0)))] := hD
  refine va_putF (D := D) (ci := 1) (v := .ref q2) (ty := .array .int) (C := R_M) (T := F_M) (N := 8) (ref := "GearModules$OneModule") hx hb hts in_M t_M t_M_ok n_M hown hK hP hD hS 0 rfl rfl 1 (by decide) (hts _ (gm_in 72 (by decide +kernel) rfl)) (fun _ h9 => h9) rfl hin rfl (by decide +kernel) rfl rfl (Nat.le_of_ble_eq_true rfl) d_M_init_18 (fun H locs hP hD hS => ?_)
  have hP : va_P D gm_cl [(h0, .inr (1, [.ref q1, .ref q2, .int 0, .int 0, .int 0, .int 0, .int 0, .int 0])), (q1, .inl (c1, 6, .inr (.inr (.inr (.inr (fun _ => none)))))), (q2, .inl (c2, 16, .inl (fun _ => 0)))] H := hP
  have hD : va_D A [(h0, .inr (1, [.ref q1, .ref q2, .int 0, .int 0, .int 0, .int 0, .int 0, .int 0])), (q1, .inl (c1, 6, .inr (.inr (.inr (.inr (fun _ => none)))))), (q2, .inl (c2, 16, .inl (fun _ => 0)))] := hD
  refine lv_aload_n hx hb d_M_init_21 rfl (lv_at hl 0 rfl) ?_
  refine lv_iconst (v := 1) hx hb d_M_init_22 (by decide) ?_
  refine va_put (D := D) (ci := 1) (v := .int 1) (ty := .boolean) (C := R_M) (T := F_M) (N := 8) (ref := "GearModules$OneModule") hx hb hts in_M t_M t_M_ok n_M hown hK hP hD hS 0 rfl rfl 2 (by decide) (hts _ (gm_in 74 (by decide +kernel) rfl)) (fun _ h9 => h9) rfl (by decide +kernel) rfl rfl (Nat.le_of_ble_eq_true rfl) d_M_init_23 (fun H locs hP hD hS => ?_)
  have hP : va_P D gm_cl [(h0, .inr (1, [.ref q1, .ref q2, .int 1, .int 0, .int 0, .int 0, .int 0, .int 0])), (q1, .inl (c1, 6, .inr (.inr (.inr (.inr (fun _ => none)))))), (q2, .inl (c2, 16, .inl (fun _ => 0)))] H := hP
  have hD : va_D A [(h0, .inr (1, [.ref q1, .ref q2, .int 1, .int 0, .int 0, .int 0, .int 0, .int 0])), (q1, .inl (c1, 6, .inr (.inr (.inr (.inr (fun _ => none)))))), (q2, .inl (c2, 16, .inl (fun _ => 0)))] := hD
  refine lv_iconst (v := 0) hx hb d_M_init_26 (by decide) ?_
  refine lv_istore_n (lv' := [(1, .int 0), (0, .ref h0)]) hx hb d_M_init_27 rfl hl (by decide) rfl (fun ls hl => ?_)
  refine lv_iload_n hx hb d_M_init_28 rfl (lv_at hl 0 rfl) ?_
  refine lv_bipush (v := 6) hx hb d_M_init_29 (by decide) ?_
  refine lv_icmp_ge (tgt := 53) hx hb d_M_init_31 rfl (fun h => absurd h (by decide)) (fun _ => ?_)
  refine lv_aload_n hx hb d_M_init_34 rfl (lv_at hl 1 rfl) ?_
  refine va_get (D := D) (ci := 1) (v := .ref q1) (C := R_M) (T := F_M) (N := 8) (ref := "GearModules$OneModule") hx hb hts in_M hown hK hP 0 rfl rfl 0 (by decide) (hts _ (gm_in 70 (by decide +kernel) rfl)) (fun _ h9 => h9) rfl d_M_init_35 ?_
  refine lv_iload_n hx hb d_M_init_38 rfl (lv_at hl 0 rfl) ?_
  refine va_new (ci := 2) (fs := [.int 0, .int 0, .int 0]) (C := R_S) (T := F_S) (N := 3) hx hb hts in_S t_S t_S_ok hown (hts _ (gm_in 49 (by decide +kernel) rfl)) (hts _ (gm_in 51 (by decide +kernel) rfl)) (hts _ (gm_in 30 (by decide +kernel) rfl)) hK hP hD hS hA rfl (fun j hj => by rcases (show j = 0 ∨ j = 1 ∨ j = 2 by omega) with rfl | rfl | rfl <;> rfl) (by decide) (by decide) d_M_init_39 (fun q3 H hP hD hS => ?_)
  have hP : va_P D gm_cl [(h0, .inr (1, [.ref q1, .ref q2, .int 1, .int 0, .int 0, .int 0, .int 0, .int 0])), (q1, .inl (c1, 6, .inr (.inr (.inr (.inr (fun _ => none)))))), (q2, .inl (c2, 16, .inl (fun _ => 0))), (q3, .inr (2, [.int 0, .int 0, .int 0]))] H := hP
  have hD : va_D A [(h0, .inr (1, [.ref q1, .ref q2, .int 1, .int 0, .int 0, .int 0, .int 0, .int 0])), (q1, .inl (c1, 6, .inr (.inr (.inr (.inr (fun _ => none)))))), (q2, .inl (c2, 16, .inl (fun _ => 0))), (q3, .inr (2, [.int 0, .int 0, .int 0]))] := hD
  refine lv_dup hx hb d_M_init_42 rfl ?_
  have hPc := hP.sub (ws' := [(q3, .inr (2, [.int 0, .int 0, .int 0]))]) [3] rfl
  have hDc := hD.sub (ws' := [(q3, .inr (2, [.int 0, .int 0, .int 0]))]) [3] (by decide) rfl
  have hFc := va_free (wc := [(q3, .inr (2, [.int 0, .int 0, .int 0]))]) hD hS hA [3] rfl
  refine va_callv (va_runIN (As := []) (rest := [.ref q3, .int 0, .ref q1]) (host := "GearModules") ⟨hx, hb, hml, hown, hts⟩ (c_S_init (D := D) (A := va_A [(q3, .inr (2, [.int 0, .int 0, .int 0]))] H.size) (h0 := q3)) ⟨va_cnB 0 hts (gm_good (gm_wsC (gm_in 54 (by decide +kernel) rfl))) rfl rfl rfl hY.1 (hts _ (gm_in 30 (by decide +kernel) rfl)) (by decide +kernel) ⟨Nat.le_of_ble_eq_true rfl, Nat.le_of_ble_eq_true rfl⟩, rfl, (hts _ (gm_in 53 (by decide +kernel) rfl))⟩ ⟨fun a U g mk q => ⟨q.1, q.2.1, va_K.moved (u := U) (U := U.calling g mk a) (Vm.Alike.refl U.vm) q.2.2.1, q.2.2.2⟩, fun U hU hW => ⟨rfl, by rw [hU]; exact hPc, va_K.moved hW.alike (hK.sub (tys' := []) [] rfl), hDc.self⟩⟩ rfl rfl hl.1 rfl (lv_room (Nat.le_of_ble_eq_true rfl)) d_M_init_43 ⟨by decide, by decide⟩) hS (fun q _ h => hFc q h) hFc (fun u t H1 locs ht hvm h5 hB hz1 hk1 hS => ?_)
  obtain ⟨hP1, hD1⟩ := hB
  rw [ht] at hP1
  obtain ⟨hP, hD⟩ := va_join (wr := [(h0, .inr (1, [.ref q1, .ref q2, .int 1, .int 0, .int 0, .int 0, .int 0, .int 0])), (q1, .inl (c1, 6, .inr (.inr (.inr (.inr (fun _ => none)))))), (q2, .inl (c2, 16, .inl (fun _ => 0)))]) (w1 := [(q3, .inr (2, [.int 0, .int 0, .int 7]))]) hP hD [3] [0, 1, 2] rfl rfl (by decide) (by decide) hk1 hFc hP1 hD1
  generalize H1 = H at hP hS ⊢
  have hP : va_P D gm_cl [(h0, .inr (1, [.ref q1, .ref q2, .int 1, .int 0, .int 0, .int 0, .int 0, .int 0])), (q1, .inl (c1, 6, .inr (.inr (.inr (.inr (fun _ => none)))))), (q2, .inl (c2, 16, .inl (fun _ => 0))), (q3, .inr (2, [.int 0, .int 0, .int 7]))] H := hP
  have hD : va_D A [(h0, .inr (1, [.ref q1, .ref q2, .int 1, .int 0, .int 0, .int 0, .int 0, .int 0])), (q1, .inl (c1, 6, .inr (.inr (.inr (.inr (fun _ => none)))))), (q2, .inl (c2, 16, .inl (fun _ => 0))), (q3, .inr (2, [.int 0, .int 0, .int 7]))] := hD
  refine va_astq hx hb hK hP hD hS 1 0 3 2 rfl rfl rfl rfl (vp_in_nI (n := 0) (N := 6) (by decide) (by decide)) d_M_init_46 (fun H locs hP hD hS => ?_)
  have hP : va_P D gm_cl [(h0, .inr (1, [.ref q1, .ref q2, .int 1, .int 0, .int 0, .int 0, .int 0, .int 0])), (q1, .inl (c1, 6, .inr (.inr (.inr (.inr (va_up (fun _ => none) 0 (some q3))))))), (q2, .inl (c2, 16, .inl (fun _ => 0))), (q3, .inr (2, [.int 0, .int 0, .int 7]))] H := hP
  have hD : va_D A [(h0, .inr (1, [.ref q1, .ref q2, .int 1, .int 0, .int 0, .int 0, .int 0, .int 0])), (q1, .inl (c1, 6, .inr (.inr (.inr (.inr (va_up (fun _ => none) 0 (some q3))))))), (q2, .inl (c2, 16, .inl (fun _ => 0))), (q3, .inr (2, [.int 0, .int 0, .int 7]))] := hD
  refine lv_iinc (k := 0) (v := 1) (lv' := [(1, .int 1), (0, .ref h0)]) hx hb d_M_init_47 hl rfl (by decide) (by decide) rfl (fun ls hl => ?_)
  refine lv_goto (tgt := 28) hx hb d_M_init_50 rfl ?_
  refine lv_iload_n hx hb d_M_init_28 rfl (lv_at hl 0 rfl) ?_
  refine lv_bipush (v := 6) hx hb d_M_init_29 (by decide) ?_
  refine lv_icmp_ge (tgt := 53) hx hb d_M_init_31 rfl (fun h => absurd h (by decide)) (fun _ => ?_)
  refine lv_aload_n hx hb d_M_init_34 rfl (lv_at hl 1 rfl) ?_
  refine va_get (D := D) (ci := 1) (v := .ref q1) (C := R_M) (T := F_M) (N := 8) (ref := "GearModules$OneModule") hx hb hts in_M hown hK hP 0 rfl rfl 0 (by decide) (hts _ (gm_in 70 (by decide +kernel) rfl)) (fun _ h9 => h9) rfl d_M_init_35 ?_
  refine lv_iload_n hx hb d_M_init_38 rfl (lv_at hl 0 rfl) ?_
  refine va_new (ci := 2) (fs := [.int 0, .int 0, .int 0]) (C := R_S) (T := F_S) (N := 3) hx hb hts in_S t_S t_S_ok hown (hts _ (gm_in 49 (by decide +kernel) rfl)) (hts _ (gm_in 51 (by decide +kernel) rfl)) (hts _ (gm_in 30 (by decide +kernel) rfl)) hK hP hD hS hA rfl (fun j hj => by rcases (show j = 0 ∨ j = 1 ∨ j = 2 by omega) with rfl | rfl | rfl <;> rfl) (by decide) (by decide) d_M_init_39 (fun q4 H hP hD hS => ?_)
  have hP : va_P D gm_cl [(h0, .inr (1, [.ref q1, .ref q2, .int 1, .int 0, .int 0, .int 0, .int 0, .int 0])), (q1, .inl (c1, 6, .inr (.inr (.inr (.inr (va_up (fun _ => none) 0 (some q3))))))), (q2, .inl (c2, 16, .inl (fun _ => 0))), (q3, .inr (2, [.int 0, .int 0, .int 7])), (q4, .inr (2, [.int 0, .int 0, .int 0]))] H := hP
  have hD : va_D A [(h0, .inr (1, [.ref q1, .ref q2, .int 1, .int 0, .int 0, .int 0, .int 0, .int 0])), (q1, .inl (c1, 6, .inr (.inr (.inr (.inr (va_up (fun _ => none) 0 (some q3))))))), (q2, .inl (c2, 16, .inl (fun _ => 0))), (q3, .inr (2, [.int 0, .int 0, .int 7])), (q4, .inr (2, [.int 0, .int 0, .int 0]))] := hD
  refine lv_dup hx hb d_M_init_42 rfl ?_
  have hPc := hP.sub (ws' := [(q4, .inr (2, [.int 0, .int 0, .int 0]))]) [4] rfl
  have hDc := hD.sub (ws' := [(q4, .inr (2, [.int 0, .int 0, .int 0]))]) [4] (by decide) rfl
  have hFc := va_free (wc := [(q4, .inr (2, [.int 0, .int 0, .int 0]))]) hD hS hA [4] rfl
  refine va_callv (va_runIN (As := []) (rest := [.ref q4, .int 1, .ref q1]) (host := "GearModules") ⟨hx, hb, hml, hown, hts⟩ (c_S_init (D := D) (A := va_A [(q4, .inr (2, [.int 0, .int 0, .int 0]))] H.size) (h0 := q4)) ⟨va_cnB 0 hts (gm_good (gm_wsC (gm_in 54 (by decide +kernel) rfl))) rfl rfl rfl hY.1 (hts _ (gm_in 30 (by decide +kernel) rfl)) (by decide +kernel) ⟨Nat.le_of_ble_eq_true rfl, Nat.le_of_ble_eq_true rfl⟩, rfl, (hts _ (gm_in 53 (by decide +kernel) rfl))⟩ ⟨fun a U g mk q => ⟨q.1, q.2.1, va_K.moved (u := U) (U := U.calling g mk a) (Vm.Alike.refl U.vm) q.2.2.1, q.2.2.2⟩, fun U hU hW => ⟨rfl, by rw [hU]; exact hPc, va_K.moved hW.alike (hK.sub (tys' := []) [] rfl), hDc.self⟩⟩ rfl rfl hl.1 rfl (lv_room (Nat.le_of_ble_eq_true rfl)) d_M_init_43 ⟨by decide, by decide⟩) hS (fun q _ h => hFc q h) hFc (fun u t H1 locs ht hvm h5 hB hz1 hk1 hS => ?_)
  obtain ⟨hP1, hD1⟩ := hB
  rw [ht] at hP1
  obtain ⟨hP, hD⟩ := va_join (wr := [(h0, .inr (1, [.ref q1, .ref q2, .int 1, .int 0, .int 0, .int 0, .int 0, .int 0])), (q1, .inl (c1, 6, .inr (.inr (.inr (.inr (va_up (fun _ => none) 0 (some q3))))))), (q2, .inl (c2, 16, .inl (fun _ => 0))), (q3, .inr (2, [.int 0, .int 0, .int 7]))]) (w1 := [(q4, .inr (2, [.int 0, .int 0, .int 7]))]) hP hD [4] [0, 1, 2, 3] rfl rfl (by decide) (by decide) hk1 hFc hP1 hD1
  generalize H1 = H at hP hS ⊢
  have hP : va_P D gm_cl [(h0, .inr (1, [.ref q1, .ref q2, .int 1, .int 0, .int 0, .int 0, .int 0, .int 0])), (q1, .inl (c1, 6, .inr (.inr (.inr (.inr (va_up (fun _ => none) 0 (some q3))))))), (q2, .inl (c2, 16, .inl (fun _ => 0))), (q3, .inr (2, [.int 0, .int 0, .int 7])), (q4, .inr (2, [.int 0, .int 0, .int 7]))] H := hP
  have hD : va_D A [(h0, .inr (1, [.ref q1, .ref q2, .int 1, .int 0, .int 0, .int 0, .int 0, .int 0])), (q1, .inl (c1, 6, .inr (.inr (.inr (.inr (va_up (fun _ => none) 0 (some q3))))))), (q2, .inl (c2, 16, .inl (fun _ => 0))), (q3, .inr (2, [.int 0, .int 0, .int 7])), (q4, .inr (2, [.int 0, .int 0, .int 7]))] := hD
  refine va_astq hx hb hK hP hD hS 1 0 4 2 rfl rfl rfl rfl (vp_in_nI (n := 1) (N := 6) (by decide) (by decide)) d_M_init_46 (fun H locs hP hD hS => ?_)
  have hP : va_P D gm_cl [(h0, .inr (1, [.ref q1, .ref q2, .int 1, .int 0, .int 0, .int 0, .int 0, .int 0])), (q1, .inl (c1, 6, .inr (.inr (.inr (.inr (va_up (va_up (fun _ => none) 0 (some q3)) 1 (some q4))))))), (q2, .inl (c2, 16, .inl (fun _ => 0))), (q3, .inr (2, [.int 0, .int 0, .int 7])), (q4, .inr (2, [.int 0, .int 0, .int 7]))] H := hP
  have hD : va_D A [(h0, .inr (1, [.ref q1, .ref q2, .int 1, .int 0, .int 0, .int 0, .int 0, .int 0])), (q1, .inl (c1, 6, .inr (.inr (.inr (.inr (va_up (va_up (fun _ => none) 0 (some q3)) 1 (some q4))))))), (q2, .inl (c2, 16, .inl (fun _ => 0))), (q3, .inr (2, [.int 0, .int 0, .int 7])), (q4, .inr (2, [.int 0, .int 0, .int 7]))] := hD
  refine lv_iinc (k := 0) (v := 2) (lv' := [(1, .int 2), (0, .ref h0)]) hx hb d_M_init_47 hl rfl (by decide) (by decide) rfl (fun ls hl => ?_)
  refine lv_goto (tgt := 28) hx hb d_M_init_50 rfl ?_
  refine lv_iload_n hx hb d_M_init_28 rfl (lv_at hl 0 rfl) ?_
  refine lv_bipush (v := 6) hx hb d_M_init_29 (by decide) ?_
  refine lv_icmp_ge (tgt := 53) hx hb d_M_init_31 rfl (fun h => absurd h (by decide)) (fun _ => ?_)
  refine lv_aload_n hx hb d_M_init_34 rfl (lv_at hl 1 rfl) ?_
  refine va_get (D := D) (ci := 1) (v := .ref q1) (C := R_M) (T := F_M) (N := 8) (ref := "GearModules$OneModule") hx hb hts in_M hown hK hP 0 rfl rfl 0 (by decide) (hts _ (gm_in 70 (by decide +kernel) rfl)) (fun _ h9 => h9) rfl d_M_init_35 ?_
  refine lv_iload_n hx hb d_M_init_38 rfl (lv_at hl 0 rfl) ?_
  refine va_new (ci := 2) (fs := [.int 0, .int 0, .int 0]) (C := R_S) (T := F_S) (N := 3) hx hb hts in_S t_S t_S_ok hown (hts _ (gm_in 49 (by decide +kernel) rfl)) (hts _ (gm_in 51 (by decide +kernel) rfl)) (hts _ (gm_in 30 (by decide +kernel) rfl)) hK hP hD hS hA rfl (fun j hj => by rcases (show j = 0 ∨ j = 1 ∨ j = 2 by omega) with rfl | rfl | rfl <;> rfl) (by decide) (by decide) d_M_init_39 (fun q5 H hP hD hS => ?_)
  have hP : va_P D gm_cl [(h0, .inr (1, [.ref q1, .ref q2, .int 1, .int 0, .int 0, .int 0, .int 0, .int 0])), (q1, .inl (c1, 6, .inr (.inr (.inr (.inr (va_up (va_up (fun _ => none) 0 (some q3)) 1 (some q4))))))), (q2, .inl (c2, 16, .inl (fun _ => 0))), (q3, .inr (2, [.int 0, .int 0, .int 7])), (q4, .inr (2, [.int 0, .int 0, .int 7])), (q5, .inr (2, [.int 0, .int 0, .int 0]))] H := hP
  have hD : va_D A [(h0, .inr (1, [.ref q1, .ref q2, .int 1, .int 0, .int 0, .int 0, .int 0, .int 0])), (q1, .inl (c1, 6, .inr (.inr (.inr (.inr (va_up (va_up (fun _ => none) 0 (some q3)) 1 (some q4))))))), (q2, .inl (c2, 16, .inl (fun _ => 0))), (q3, .inr (2, [.int 0, .int 0, .int 7])), (q4, .inr (2, [.int 0, .int 0, .int 7])), (q5, .inr (2, [.int 0, .int 0, .int 0]))] := hD
  refine lv_dup hx hb d_M_init_42 rfl ?_
  have hPc := hP.sub (ws' := [(q5, .inr (2, [.int 0, .int 0, .int 0]))]) [5] rfl
  have hDc := hD.sub (ws' := [(q5, .inr (2, [.int 0, .int 0, .int 0]))]) [5] (by decide) rfl
  have hFc := va_free (wc := [(q5, .inr (2, [.int 0, .int 0, .int 0]))]) hD hS hA [5] rfl
  refine va_callv (va_runIN (As := []) (rest := [.ref q5, .int 2, .ref q1]) (host := "GearModules") ⟨hx, hb, hml, hown, hts⟩ (c_S_init (D := D) (A := va_A [(q5, .inr (2, [.int 0, .int 0, .int 0]))] H.size) (h0 := q5)) ⟨va_cnB 0 hts (gm_good (gm_wsC (gm_in 54 (by decide +kernel) rfl))) rfl rfl rfl hY.1 (hts _ (gm_in 30 (by decide +kernel) rfl)) (by decide +kernel) ⟨Nat.le_of_ble_eq_true rfl, Nat.le_of_ble_eq_true rfl⟩, rfl, (hts _ (gm_in 53 (by decide +kernel) rfl))⟩ ⟨fun a U g mk q => ⟨q.1, q.2.1, va_K.moved (u := U) (U := U.calling g mk a) (Vm.Alike.refl U.vm) q.2.2.1, q.2.2.2⟩, fun U hU hW => ⟨rfl, by rw [hU]; exact hPc, va_K.moved hW.alike (hK.sub (tys' := []) [] rfl), hDc.self⟩⟩ rfl rfl hl.1 rfl (lv_room (Nat.le_of_ble_eq_true rfl)) d_M_init_43 ⟨by decide, by decide⟩) hS (fun q _ h => hFc q h) hFc (fun u t H1 locs ht hvm h5 hB hz1 hk1 hS => ?_)
  obtain ⟨hP1, hD1⟩ := hB
  rw [ht] at hP1
  obtain ⟨hP, hD⟩ := va_join (wr := [(h0, .inr (1, [.ref q1, .ref q2, .int 1, .int 0, .int 0, .int 0, .int 0, .int 0])), (q1, .inl (c1, 6, .inr (.inr (.inr (.inr (va_up (va_up (fun _ => none) 0 (some q3)) 1 (some q4))))))), (q2, .inl (c2, 16, .inl (fun _ => 0))), (q3, .inr (2, [.int 0, .int 0, .int 7])), (q4, .inr (2, [.int 0, .int 0, .int 7]))]) (w1 := [(q5, .inr (2, [.int 0, .int 0, .int 7]))]) hP hD [5] [0, 1, 2, 3, 4] rfl rfl (by decide) (by decide) hk1 hFc hP1 hD1
  generalize H1 = H at hP hS ⊢
  have hP : va_P D gm_cl [(h0, .inr (1, [.ref q1, .ref q2, .int 1, .int 0, .int 0, .int 0, .int 0, .int 0])), (q1, .inl (c1, 6, .inr (.inr (.inr (.inr (va_up (va_up (fun _ => none) 0 (some q3)) 1 (some q4))))))), (q2, .inl (c2, 16, .inl (fun _ => 0))), (q3, .inr (2, [.int 0, .int 0, .int 7])), (q4, .inr (2, [.int 0, .int 0, .int 7])), (q5, .inr (2, [.int 0, .int 0, .int 7]))] H := hP
  have hD : va_D A [(h0, .inr (1, [.ref q1, .ref q2, .int 1, .int 0, .int 0, .int 0, .int 0, .int 0])), (q1, .inl (c1, 6, .inr (.inr (.inr (.inr (va_up (va_up (fun _ => none) 0 (some q3)) 1 (some q4))))))), (q2, .inl (c2, 16, .inl (fun _ => 0))), (q3, .inr (2, [.int 0, .int 0, .int 7])), (q4, .inr (2, [.int 0, .int 0, .int 7])), (q5, .inr (2, [.int 0, .int 0, .int 7]))] := hD
  refine va_astq hx hb hK hP hD hS 1 0 5 2 rfl rfl rfl rfl (vp_in_nI (n := 2) (N := 6) (by decide) (by decide)) d_M_init_46 (fun H locs hP hD hS => ?_)
  have hP : va_P D gm_cl [(h0, .inr (1, [.ref q1, .ref q2, .int 1, .int 0, .int 0, .int 0, .int 0, .int 0])), (q1, .inl (c1, 6, .inr (.inr (.inr (.inr (va_up (va_up (va_up (fun _ => none) 0 (some q3)) 1 (some q4)) 2 (some q5))))))), (q2, .inl (c2, 16, .inl (fun _ => 0))), (q3, .inr (2, [.int 0, .int 0, .int 7])), (q4, .inr (2, [.int 0, .int 0, .int 7])), (q5, .inr (2, [.int 0, .int 0, .int 7]))] H := hP
  have hD : va_D A [(h0, .inr (1, [.ref q1, .ref q2, .int 1, .int 0, .int 0, .int 0, .int 0, .int 0])), (q1, .inl (c1, 6, .inr (.inr (.inr (.inr (va_up (va_up (va_up (fun _ => none) 0 (some q3)) 1 (some q4)) 2 (some q5))))))), (q2, .inl (c2, 16, .inl (fun _ => 0))), (q3, .inr (2, [.int 0, .int 0, .int 7])), (q4, .inr (2, [.int 0, .int 0, .int 7])), (q5, .inr (2, [.int 0, .int 0, .int 7]))] := hD
  refine lv_iinc (k := 0) (v := 3) (lv' := [(1, .int 3), (0, .ref h0)]) hx hb d_M_init_47 hl rfl (by decide) (by decide) rfl (fun ls hl => ?_)
  refine lv_goto (tgt := 28) hx hb d_M_init_50 rfl ?_
  refine lv_iload_n hx hb d_M_init_28 rfl (lv_at hl 0 rfl) ?_
  refine lv_bipush (v := 6) hx hb d_M_init_29 (by decide) ?_
  refine lv_icmp_ge (tgt := 53) hx hb d_M_init_31 rfl (fun h => absurd h (by decide)) (fun _ => ?_)
  refine lv_aload_n hx hb d_M_init_34 rfl (lv_at hl 1 rfl) ?_
  refine va_get (D := D) (ci := 1) (v := .ref q1) (C := R_M) (T := F_M) (N := 8) (ref := "GearModules$OneModule") hx hb hts in_M hown hK hP 0 rfl rfl 0 (by decide) (hts _ (gm_in 70 (by decide +kernel) rfl)) (fun _ h9 => h9) rfl d_M_init_35 ?_
  refine lv_iload_n hx hb d_M_init_38 rfl (lv_at hl 0 rfl) ?_
  refine va_new (ci := 2) (fs := [.int 0, .int 0, .int 0]) (C := R_S) (T := F_S) (N := 3) hx hb hts in_S t_S t_S_ok hown (hts _ (gm_in 49 (by decide +kernel) rfl)) (hts _ (gm_in 51 (by decide +kernel) rfl)) (hts _ (gm_in 30 (by decide +kernel) rfl)) hK hP hD hS hA rfl (fun j hj => by rcases (show j = 0 ∨ j = 1 ∨ j = 2 by omega) with rfl | rfl | rfl <;> rfl) (by decide) (by decide) d_M_init_39 (fun q6 H hP hD hS => ?_)
  have hP : va_P D gm_cl [(h0, .inr (1, [.ref q1, .ref q2, .int 1, .int 0, .int 0, .int 0, .int 0, .int 0])), (q1, .inl (c1, 6, .inr (.inr (.inr (.inr (va_up (va_up (va_up (fun _ => none) 0 (some q3)) 1 (some q4)) 2 (some q5))))))), (q2, .inl (c2, 16, .inl (fun _ => 0))), (q3, .inr (2, [.int 0, .int 0, .int 7])), (q4, .inr (2, [.int 0, .int 0, .int 7])), (q5, .inr (2, [.int 0, .int 0, .int 7])), (q6, .inr (2, [.int 0, .int 0, .int 0]))] H := hP
  have hD : va_D A [(h0, .inr (1, [.ref q1, .ref q2, .int 1, .int 0, .int 0, .int 0, .int 0, .int 0])), (q1, .inl (c1, 6, .inr (.inr (.inr (.inr (va_up (va_up (va_up (fun _ => none) 0 (some q3)) 1 (some q4)) 2 (some q5))))))), (q2, .inl (c2, 16, .inl (fun _ => 0))), (q3, .inr (2, [.int 0, .int 0, .int 7])), (q4, .inr (2, [.int 0, .int 0, .int 7])), (q5, .inr (2, [.int 0, .int 0, .int 7])), (q6, .inr (2, [.int 0, .int 0, .int 0]))] := hD
  refine lv_dup hx hb d_M_init_42 rfl ?_
  have hPc := hP.sub (ws' := [(q6, .inr (2, [.int 0, .int 0, .int 0]))]) [6] rfl
  have hDc := hD.sub (ws' := [(q6, .inr (2, [.int 0, .int 0, .int 0]))]) [6] (by decide) rfl
  have hFc := va_free (wc := [(q6, .inr (2, [.int 0, .int 0, .int 0]))]) hD hS hA [6] rfl
  refine va_callv (va_runIN (As := []) (rest := [.ref q6, .int 3, .ref q1]) (host := "GearModules") ⟨hx, hb, hml, hown, hts⟩ (c_S_init (D := D) (A := va_A [(q6, .inr (2, [.int 0, .int 0, .int 0]))] H.size) (h0 := q6)) ⟨va_cnB 0 hts (gm_good (gm_wsC (gm_in 54 (by decide +kernel) rfl))) rfl rfl rfl hY.1 (hts _ (gm_in 30 (by decide +kernel) rfl)) (by decide +kernel) ⟨Nat.le_of_ble_eq_true rfl, Nat.le_of_ble_eq_true rfl⟩, rfl, (hts _ (gm_in 53 (by decide +kernel) rfl))⟩ ⟨fun a U g mk q => ⟨q.1, q.2.1, va_K.moved (u := U) (U := U.calling g mk a) (Vm.Alike.refl U.vm) q.2.2.1, q.2.2.2⟩, fun U hU hW => ⟨rfl, by rw [hU]; exact hPc, va_K.moved hW.alike (hK.sub (tys' := []) [] rfl), hDc.self⟩⟩ rfl rfl hl.1 rfl (lv_room (Nat.le_of_ble_eq_true rfl)) d_M_init_43 ⟨by decide, by decide⟩) hS (fun q _ h => hFc q h) hFc (fun u t H1 locs ht hvm h5 hB hz1 hk1 hS => ?_)
  obtain ⟨hP1, hD1⟩ := hB
  rw [ht] at hP1
  obtain ⟨hP, hD⟩ := va_join (wr := [(h0, .inr (1, [.ref q1, .ref q2, .int 1, .int 0, .int 0, .int 0, .int 0, .int 0])), (q1, .inl (c1, 6, .inr (.inr (.inr (.inr (va_up (va_up (va_up (fun _ => none) 0 (some q3)) 1 (some q4)) 2 (some q5))))))), (q2, .inl (c2, 16, .inl (fun _ => 0))), (q3, .inr (2, [.int 0, .int 0, .int 7])), (q4, .inr (2, [.int 0, .int 0, .int 7])), (q5, .inr (2, [.int 0, .int 0, .int 7]))]) (w1 := [(q6, .inr (2, [.int 0, .int 0, .int 7]))]) hP hD [6] [0, 1, 2, 3, 4, 5] rfl rfl (by decide) (by decide) hk1 hFc hP1 hD1
  generalize H1 = H at hP hS ⊢
  have hP : va_P D gm_cl [(h0, .inr (1, [.ref q1, .ref q2, .int 1, .int 0, .int 0, .int 0, .int 0, .int 0])), (q1, .inl (c1, 6, .inr (.inr (.inr (.inr (va_up (va_up (va_up (fun _ => none) 0 (some q3)) 1 (some q4)) 2 (some q5))))))), (q2, .inl (c2, 16, .inl (fun _ => 0))), (q3, .inr (2, [.int 0, .int 0, .int 7])), (q4, .inr (2, [.int 0, .int 0, .int 7])), (q5, .inr (2, [.int 0, .int 0, .int 7])), (q6, .inr (2, [.int 0, .int 0, .int 7]))] H := hP
  have hD : va_D A [(h0, .inr (1, [.ref q1, .ref q2, .int 1, .int 0, .int 0, .int 0, .int 0, .int 0])), (q1, .inl (c1, 6, .inr (.inr (.inr (.inr (va_up (va_up (va_up (fun _ => none) 0 (some q3)) 1 (some q4)) 2 (some q5))))))), (q2, .inl (c2, 16, .inl (fun _ => 0))), (q3, .inr (2, [.int 0, .int 0, .int 7])), (q4, .inr (2, [.int 0, .int 0, .int 7])), (q5, .inr (2, [.int 0, .int 0, .int 7])), (q6, .inr (2, [.int 0, .int 0, .int 7]))] := hD
  refine va_astq hx hb hK hP hD hS 1 0 6 2 rfl rfl rfl rfl (vp_in_nI (n := 3) (N := 6) (by decide) (by decide)) d_M_init_46 (fun H locs hP hD hS => ?_)
  have hP : va_P D gm_cl [(h0, .inr (1, [.ref q1, .ref q2, .int 1, .int 0, .int 0, .int 0, .int 0, .int 0])), (q1, .inl (c1, 6, .inr (.inr (.inr (.inr (va_up (va_up (va_up (va_up (fun _ => none) 0 (some q3)) 1 (some q4)) 2 (some q5)) 3 (some q6))))))), (q2, .inl (c2, 16, .inl (fun _ => 0))), (q3, .inr (2, [.int 0, .int 0, .int 7])), (q4, .inr (2, [.int 0, .int 0, .int 7])), (q5, .inr (2, [.int 0, .int 0, .int 7])), (q6, .inr (2, [.int 0, .int 0, .int 7]))] H := hP
  have hD : va_D A [(h0, .inr (1, [.ref q1, .ref q2, .int 1, .int 0, .int 0, .int 0, .int 0, .int 0])), (q1, .inl (c1, 6, .inr (.inr (.inr (.inr (va_up (va_up (va_up (va_up (fun _ => none) 0 (some q3)) 1 (some q4)) 2 (some q5)) 3 (some q6))))))), (q2, .inl (c2, 16, .inl (fun _ => 0))), (q3, .inr (2, [.int 0, .int 0, .int 7])), (q4, .inr (2, [.int 0, .int 0, .int 7])), (q5, .inr (2, [.int 0, .int 0, .int 7])), (q6, .inr (2, [.int 0, .int 0, .int 7]))] := hD
  refine lv_iinc (k := 0) (v := 4) (lv' := [(1, .int 4), (0, .ref h0)]) hx hb d_M_init_47 hl rfl (by decide) (by decide) rfl (fun ls hl => ?_)
  refine lv_goto (tgt := 28) hx hb d_M_init_50 rfl ?_
  refine lv_iload_n hx hb d_M_init_28 rfl (lv_at hl 0 rfl) ?_
  refine lv_bipush (v := 6) hx hb d_M_init_29 (by decide) ?_
  refine lv_icmp_ge (tgt := 53) hx hb d_M_init_31 rfl (fun h => absurd h (by decide)) (fun _ => ?_)
  refine lv_aload_n hx hb d_M_init_34 rfl (lv_at hl 1 rfl) ?_
  refine va_get (D := D) (ci := 1) (v := .ref q1) (C := R_M) (T := F_M) (N := 8) (ref := "GearModules$OneModule") hx hb hts in_M hown hK hP 0 rfl rfl 0 (by decide) (hts _ (gm_in 70 (by decide +kernel) rfl)) (fun _ h9 => h9) rfl d_M_init_35 ?_
  refine lv_iload_n hx hb d_M_init_38 rfl (lv_at hl 0 rfl) ?_
  refine va_new (ci := 2) (fs := [.int 0, .int 0, .int 0]) (C := R_S) (T := F_S) (N := 3) hx hb hts in_S t_S t_S_ok hown (hts _ (gm_in 49 (by decide +kernel) rfl)) (hts _ (gm_in 51 (by decide +kernel) rfl)) (hts _ (gm_in 30 (by decide +kernel) rfl)) hK hP hD hS hA rfl (fun j hj => by rcases (show j = 0 ∨ j = 1 ∨ j = 2 by omega) with rfl | rfl | rfl <;> rfl) (by decide) (by decide) d_M_init_39 (fun q7 H hP hD hS => ?_)
  have hP : va_P D gm_cl [(h0, .inr (1, [.ref q1, .ref q2, .int 1, .int 0, .int 0, .int 0, .int 0, .int 0])), (q1, .inl (c1, 6, .inr (.inr (.inr (.inr (va_up (va_up (va_up (va_up (fun _ => none) 0 (some q3)) 1 (some q4)) 2 (some q5)) 3 (some q6))))))), (q2, .inl (c2, 16, .inl (fun _ => 0))), (q3, .inr (2, [.int 0, .int 0, .int 7])), (q4, .inr (2, [.int 0, .int 0, .int 7])), (q5, .inr (2, [.int 0, .int 0, .int 7])), (q6, .inr (2, [.int 0, .int 0, .int 7])), (q7, .inr (2, [.int 0, .int 0, .int 0]))] H := hP
  have hD : va_D A [(h0, .inr (1, [.ref q1, .ref q2, .int 1, .int 0, .int 0, .int 0, .int 0, .int 0])), (q1, .inl (c1, 6, .inr (.inr (.inr (.inr (va_up (va_up (va_up (va_up (fun _ => none) 0 (some q3)) 1 (some q4)) 2 (some q5)) 3 (some q6))))))), (q2, .inl (c2, 16, .inl (fun _ => 0))), (q3, .inr (2, [.int 0, .int 0, .int 7])), (q4, .inr (2, [.int 0, .int 0, .int 7])), (q5, .inr (2, [.int 0, .int 0, .int 7])), (q6, .inr (2, [.int 0, .int 0, .int 7])), (q7, .inr (2, [.int 0, .int 0, .int 0]))] := hD
  refine lv_dup hx hb d_M_init_42 rfl ?_
  have hPc := hP.sub (ws' := [(q7, .inr (2, [.int 0, .int 0, .int 0]))]) [7] rfl
  have hDc := hD.sub (ws' := [(q7, .inr (2, [.int 0, .int 0, .int 0]))]) [7] (by decide) rfl
  have hFc := va_free (wc := [(q7, .inr (2, [.int 0, .int 0, .int 0]))]) hD hS hA [7] rfl
  refine va_callv (va_runIN (As := []) (rest := [.ref q7, .int 4, .ref q1]) (host := "GearModules") ⟨hx, hb, hml, hown, hts⟩ (c_S_init (D := D) (A := va_A [(q7, .inr (2, [.int 0, .int 0, .int 0]))] H.size) (h0 := q7)) ⟨va_cnB 0 hts (gm_good (gm_wsC (gm_in 54 (by decide +kernel) rfl))) rfl rfl rfl hY.1 (hts _ (gm_in 30 (by decide +kernel) rfl)) (by decide +kernel) ⟨Nat.le_of_ble_eq_true rfl, Nat.le_of_ble_eq_true rfl⟩, rfl, (hts _ (gm_in 53 (by decide +kernel) rfl))⟩ ⟨fun a U g mk q => ⟨q.1, q.2.1, va_K.moved (u := U) (U := U.calling g mk a) (Vm.Alike.refl U.vm) q.2.2.1, q.2.2.2⟩, fun U hU hW => ⟨rfl, by rw [hU]; exact hPc, va_K.moved hW.alike (hK.sub (tys' := []) [] rfl), hDc.self⟩⟩ rfl rfl hl.1 rfl (lv_room (Nat.le_of_ble_eq_true rfl)) d_M_init_43 ⟨by decide, by decide⟩) hS (fun q _ h => hFc q h) hFc (fun u t H1 locs ht hvm h5 hB hz1 hk1 hS => ?_)
  obtain ⟨hP1, hD1⟩ := hB
  rw [ht] at hP1
  obtain ⟨hP, hD⟩ := va_join (wr := [(h0, .inr (1, [.ref q1, .ref q2, .int 1, .int 0, .int 0, .int 0, .int 0, .int 0])), (q1, .inl (c1, 6, .inr (.inr (.inr (.inr (va_up (va_up (va_up (va_up (fun _ => none) 0 (some q3)) 1 (some q4)) 2 (some q5)) 3 (some q6))))))), (q2, .inl (c2, 16, .inl (fun _ => 0))), (q3, .inr (2, [.int 0, .int 0, .int 7])), (q4, .inr (2, [.int 0, .int 0, .int 7])), (q5, .inr (2, [.int 0, .int 0, .int 7])), (q6, .inr (2, [.int 0, .int 0, .int 7]))]) (w1 := [(q7, .inr (2, [.int 0, .int 0, .int 7]))]) hP hD [7] [0, 1, 2, 3, 4, 5, 6] rfl rfl (by decide) (by decide) hk1 hFc hP1 hD1
  generalize H1 = H at hP hS ⊢
  have hP : va_P D gm_cl [(h0, .inr (1, [.ref q1, .ref q2, .int 1, .int 0, .int 0, .int 0, .int 0, .int 0])), (q1, .inl (c1, 6, .inr (.inr (.inr (.inr (va_up (va_up (va_up (va_up (fun _ => none) 0 (some q3)) 1 (some q4)) 2 (some q5)) 3 (some q6))))))), (q2, .inl (c2, 16, .inl (fun _ => 0))), (q3, .inr (2, [.int 0, .int 0, .int 7])), (q4, .inr (2, [.int 0, .int 0, .int 7])), (q5, .inr (2, [.int 0, .int 0, .int 7])), (q6, .inr (2, [.int 0, .int 0, .int 7])), (q7, .inr (2, [.int 0, .int 0, .int 7]))] H := hP
  have hD : va_D A [(h0, .inr (1, [.ref q1, .ref q2, .int 1, .int 0, .int 0, .int 0, .int 0, .int 0])), (q1, .inl (c1, 6, .inr (.inr (.inr (.inr (va_up (va_up (va_up (va_up (fun _ => none) 0 (some q3)) 1 (some q4)) 2 (some q5)) 3 (some q6))))))), (q2, .inl (c2, 16, .inl (fun _ => 0))), (q3, .inr (2, [.int 0, .int 0, .int 7])), (q4, .inr (2, [.int 0, .int 0, .int 7])), (q5, .inr (2, [.int 0, .int 0, .int 7])), (q6, .inr (2, [.int 0, .int 0, .int 7])), (q7, .inr (2, [.int 0, .int 0, .int 7]))] := hD
  refine va_astq hx hb hK hP hD hS 1 0 7 2 rfl rfl rfl rfl (vp_in_nI (n := 4) (N := 6) (by decide) (by decide)) d_M_init_46 (fun H locs hP hD hS => ?_)
  have hP : va_P D gm_cl [(h0, .inr (1, [.ref q1, .ref q2, .int 1, .int 0, .int 0, .int 0, .int 0, .int 0])), (q1, .inl (c1, 6, .inr (.inr (.inr (.inr (va_up (va_up (va_up (va_up (va_up (fun _ => none) 0 (some q3)) 1 (some q4)) 2 (some q5)) 3 (some q6)) 4 (some q7))))))), (q2, .inl (c2, 16, .inl (fun _ => 0))), (q3, .inr (2, [.int 0, .int 0, .int 7])), (q4, .inr (2, [.int 0, .int 0, .int 7])), (q5, .inr (2, [.int 0, .int 0, .int 7])), (q6, .inr (2, [.int 0, .int 0, .int 7])), (q7, .inr (2, [.int 0, .int 0, .int 7]))] H := hP
  have hD : va_D A [(h0, .inr (1, [.ref q1, .ref q2, .int 1, .int 0, .int 0, .int 0, .int 0, .int 0])), (q1, .inl (c1, 6, .inr (.inr (.inr (.inr (va_up (va_up (va_up (va_up (va_up (fun _ => none) 0 (some q3)) 1 (some q4)) 2 (some q5)) 3 (some q6)) 4 (some q7))))))), (q2, .inl (c2, 16, .inl (fun _ => 0))), (q3, .inr (2, [.int 0, .int 0, .int 7])), (q4, .inr (2, [.int 0, .int 0, .int 7])), (q5, .inr (2, [.int 0, .int 0, .int 7])), (q6, .inr (2, [.int 0, .int 0, .int 7])), (q7, .inr (2, [.int 0, .int 0, .int 7]))] := hD
  refine lv_iinc (k := 0) (v := 5) (lv' := [(1, .int 5), (0, .ref h0)]) hx hb d_M_init_47 hl rfl (by decide) (by decide) rfl (fun ls hl => ?_)
  refine lv_goto (tgt := 28) hx hb d_M_init_50 rfl ?_
  refine lv_iload_n hx hb d_M_init_28 rfl (lv_at hl 0 rfl) ?_
  refine lv_bipush (v := 6) hx hb d_M_init_29 (by decide) ?_
  refine lv_icmp_ge (tgt := 53) hx hb d_M_init_31 rfl (fun h => absurd h (by decide)) (fun _ => ?_)
  refine lv_aload_n hx hb d_M_init_34 rfl (lv_at hl 1 rfl) ?_
  refine va_get (D := D) (ci := 1) (v := .ref q1) (C := R_M) (T := F_M) (N := 8) (ref := "GearModules$OneModule") hx hb hts in_M hown hK hP 0 rfl rfl 0 (by decide) (hts _ (gm_in 70 (by decide +kernel) rfl)) (fun _ h9 => h9) rfl d_M_init_35 ?_
  refine lv_iload_n hx hb d_M_init_38 rfl (lv_at hl 0 rfl) ?_
  refine va_new (ci := 2) (fs := [.int 0, .int 0, .int 0]) (C := R_S) (T := F_S) (N := 3) hx hb hts in_S t_S t_S_ok hown (hts _ (gm_in 49 (by decide +kernel) rfl)) (hts _ (gm_in 51 (by decide +kernel) rfl)) (hts _ (gm_in 30 (by decide +kernel) rfl)) hK hP hD hS hA rfl (fun j hj => by rcases (show j = 0 ∨ j = 1 ∨ j = 2 by omega) with rfl | rfl | rfl <;> rfl) (by decide) (by decide) d_M_init_39 (fun q8 H hP hD hS => ?_)
  have hP : va_P D gm_cl [(h0, .inr (1, [.ref q1, .ref q2, .int 1, .int 0, .int 0, .int 0, .int 0, .int 0])), (q1, .inl (c1, 6, .inr (.inr (.inr (.inr (va_up (va_up (va_up (va_up (va_up (fun _ => none) 0 (some q3)) 1 (some q4)) 2 (some q5)) 3 (some q6)) 4 (some q7))))))), (q2, .inl (c2, 16, .inl (fun _ => 0))), (q3, .inr (2, [.int 0, .int 0, .int 7])), (q4, .inr (2, [.int 0, .int 0, .int 7])), (q5, .inr (2, [.int 0, .int 0, .int 7])), (q6, .inr (2, [.int 0, .int 0, .int 7])), (q7, .inr (2, [.int 0, .int 0, .int 7])), (q8, .inr (2, [.int 0, .int 0, .int 0]))] H := hP
  have hD : va_D A [(h0, .inr (1, [.ref q1, .ref q2, .int 1, .int 0, .int 0, .int 0, .int 0, .int 0])), (q1, .inl (c1, 6, .inr (.inr (.inr (.inr (va_up (va_up (va_up (va_up (va_up (fun _ => none) 0 (some q3)) 1 (some q4)) 2 (some q5)) 3 (some q6)) 4 (some q7))))))), (q2, .inl (c2, 16, .inl (fun _ => 0))), (q3, .inr (2, [.int 0, .int 0, .int 7])), (q4, .inr (2, [.int 0, .int 0, .int 7])), (q5, .inr (2, [.int 0, .int 0, .int 7])), (q6, .inr (2, [.int 0, .int 0, .int 7])), (q7, .inr (2, [.int 0, .int 0, .int 7])), (q8, .inr (2, [.int 0, .int 0, .int 0]))] := hD
  refine lv_dup hx hb d_M_init_42 rfl ?_
  have hPc := hP.sub (ws' := [(q8, .inr (2, [.int 0, .int 0, .int 0]))]) [8] rfl
  have hDc := hD.sub (ws' := [(q8, .inr (2, [.int 0, .int 0, .int 0]))]) [8] (by decide) rfl
  have hFc := va_free (wc := [(q8, .inr (2, [.int 0, .int 0, .int 0]))]) hD hS hA [8] rfl
  refine va_callv (va_runIN (As := []) (rest := [.ref q8, .int 5, .ref q1]) (host := "GearModules") ⟨hx, hb, hml, hown, hts⟩ (c_S_init (D := D) (A := va_A [(q8, .inr (2, [.int 0, .int 0, .int 0]))] H.size) (h0 := q8)) ⟨va_cnB 0 hts (gm_good (gm_wsC (gm_in 54 (by decide +kernel) rfl))) rfl rfl rfl hY.1 (hts _ (gm_in 30 (by decide +kernel) rfl)) (by decide +kernel) ⟨Nat.le_of_ble_eq_true rfl, Nat.le_of_ble_eq_true rfl⟩, rfl, (hts _ (gm_in 53 (by decide +kernel) rfl))⟩ ⟨fun a U g mk q => ⟨q.1, q.2.1, va_K.moved (u := U) (U := U.calling g mk a) (Vm.Alike.refl U.vm) q.2.2.1, q.2.2.2⟩, fun U hU hW => ⟨rfl, by rw [hU]; exact hPc, va_K.moved hW.alike (hK.sub (tys' := []) [] rfl), hDc.self⟩⟩ rfl rfl hl.1 rfl (lv_room (Nat.le_of_ble_eq_true rfl)) d_M_init_43 ⟨by decide, by decide⟩) hS (fun q _ h => hFc q h) hFc (fun u t H1 locs ht hvm h5 hB hz1 hk1 hS => ?_)
  obtain ⟨hP1, hD1⟩ := hB
  rw [ht] at hP1
  obtain ⟨hP, hD⟩ := va_join (wr := [(h0, .inr (1, [.ref q1, .ref q2, .int 1, .int 0, .int 0, .int 0, .int 0, .int 0])), (q1, .inl (c1, 6, .inr (.inr (.inr (.inr (va_up (va_up (va_up (va_up (va_up (fun _ => none) 0 (some q3)) 1 (some q4)) 2 (some q5)) 3 (some q6)) 4 (some q7))))))), (q2, .inl (c2, 16, .inl (fun _ => 0))), (q3, .inr (2, [.int 0, .int 0, .int 7])), (q4, .inr (2, [.int 0, .int 0, .int 7])), (q5, .inr (2, [.int 0, .int 0, .int 7])), (q6, .inr (2, [.int 0, .int 0, .int 7])), (q7, .inr (2, [.int 0, .int 0, .int 7]))]) (w1 := [(q8, .inr (2, [.int 0, .int 0, .int 7]))]) hP hD [8] [0, 1, 2, 3, 4, 5, 6, 7] rfl rfl (by decide) (by decide) hk1 hFc hP1 hD1
  generalize H1 = H at hP hS ⊢
  have hP : va_P D gm_cl [(h0, .inr (1, [.ref q1, .ref q2, .int 1, .int 0, .int 0, .int 0, .int 0, .int 0])), (q1, .inl (c1, 6, .inr (.inr (.inr (.inr (va_up (va_up (va_up (va_up (va_up (fun _ => none) 0 (some q3)) 1 (some q4)) 2 (some q5)) 3 (some q6)) 4 (some q7))))))), (q2, .inl (c2, 16, .inl (fun _ => 0))), (q3, .inr (2, [.int 0, .int 0, .int 7])), (q4, .inr (2, [.int 0, .int 0, .int 7])), (q5, .inr (2, [.int 0, .int 0, .int 7])), (q6, .inr (2, [.int 0, .int 0, .int 7])), (q7, .inr (2, [.int 0, .int 0, .int 7])), (q8, .inr (2, [.int 0, .int 0, .int 7]))] H := hP
  have hD : va_D A [(h0, .inr (1, [.ref q1, .ref q2, .int 1, .int 0, .int 0, .int 0, .int 0, .int 0])), (q1, .inl (c1, 6, .inr (.inr (.inr (.inr (va_up (va_up (va_up (va_up (va_up (fun _ => none) 0 (some q3)) 1 (some q4)) 2 (some q5)) 3 (some q6)) 4 (some q7))))))), (q2, .inl (c2, 16, .inl (fun _ => 0))), (q3, .inr (2, [.int 0, .int 0, .int 7])), (q4, .inr (2, [.int 0, .int 0, .int 7])), (q5, .inr (2, [.int 0, .int 0, .int 7])), (q6, .inr (2, [.int 0, .int 0, .int 7])), (q7, .inr (2, [.int 0, .int 0, .int 7])), (q8, .inr (2, [.int 0, .int 0, .int 7]))] := hD
  refine va_astq hx hb hK hP hD hS 1 0 8 2 rfl rfl rfl rfl (vp_in_nI (n := 5) (N := 6) (by decide) (by decide)) d_M_init_46 (fun H locs hP hD hS => ?_)
  have hP : va_P D gm_cl [(h0, .inr (1, [.ref q1, .ref q2, .int 1, .int 0, .int 0, .int 0, .int 0, .int 0])), (q1, .inl (c1, 6, .inr (.inr (.inr (.inr (va_up (va_up (va_up (va_up (va_up (va_up (fun _ => none) 0 (some q3)) 1 (some q4)) 2 (some q5)) 3 (some q6)) 4 (some q7)) 5 (some q8))))))), (q2, .inl (c2, 16, .inl (fun _ => 0))), (q3, .inr (2, [.int 0, .int 0, .int 7])), (q4, .inr (2, [.int 0, .int 0, .int 7])), (q5, .inr (2, [.int 0, .int 0, .int 7])), (q6, .inr (2, [.int 0, .int 0, .int 7])), (q7, .inr (2, [.int 0, .int 0, .int 7])), (q8, .inr (2, [.int 0, .int 0, .int 7]))] H := hP
  have hD : va_D A [(h0, .inr (1, [.ref q1, .ref q2, .int 1, .int 0, .int 0, .int 0, .int 0, .int 0])), (q1, .inl (c1, 6, .inr (.inr (.inr (.inr (va_up (va_up (va_up (va_up (va_up (va_up (fun _ => none) 0 (some q3)) 1 (some q4)) 2 (some q5)) 3 (some q6)) 4 (some q7)) 5 (some q8))))))), (q2, .inl (c2, 16, .inl (fun _ => 0))), (q3, .inr (2, [.int 0, .int 0, .int 7])), (q4, .inr (2, [.int 0, .int 0, .int 7])), (q5, .inr (2, [.int 0, .int 0, .int 7])), (q6, .inr (2, [.int 0, .int 0, .int 7])), (q7, .inr (2, [.int 0, .int 0, .int 7])), (q8, .inr (2, [.int 0, .int 0, .int 7]))] := hD
  refine lv_iinc (k := 0) (v := 6) (lv' := [(1, .int 6), (0, .ref h0)]) hx hb d_M_init_47 hl rfl (by decide) (by decide) rfl (fun ls hl => ?_)
  refine lv_goto (tgt := 28) hx hb d_M_init_50 rfl ?_
  refine lv_iload_n hx hb d_M_init_28 rfl (lv_at hl 0 rfl) ?_
  refine lv_bipush (v := 6) hx hb d_M_init_29 (by decide) ?_
  refine lv_icmp_ge (tgt := 53) hx hb d_M_init_31 rfl (fun _ => ?_) (fun h => absurd (by decide) h)
  have hK9 : va_K D gm_cl [(c1, .object "GearModules$Sensor"), (c2, .int)] s := hK
  refine W.widen (k := 8) (n := 40) (by decide) (by decide) ?_
  exact W.vret hx hb hr (fun t ht hW => ⟨⟨(), rfl, trivial, q1, c1, q2, c2, q3, q4, q5, q6, q7, q8, by rw [ht]; exact hP, hD, va_K.moved hW.alike hK9⟩, hS.F ht⟩) hS.2.2 d_M_init_53
end
section
theorem d_G_init_0 : decode b_G_init 0 = .ok (.aload_n 0, 1) := by decide +kernel
theorem d_G_init_1 : decode b_G_init 1 = .ok (.invokespecial 1, 3) := by decide +kernel
theorem d_G_init_4 : decode b_G_init 4 = .ok (.aload_n 0, 1) := by decide +kernel
theorem d_G_init_5 : decode b_G_init 5 = .ok (.iconst 2, 1) := by decide +kernel
theorem d_G_init_6 : decode b_G_init 6 = .ok (.anewarray 9, 3) := by decide +kernel
theorem d_G_init_9 : decode b_G_init 9 = .ok (.putfield 11, 3) := by decide +kernel
theorem d_G_init_12 : decode b_G_init 12 = .ok (.aload_n 0, 1) := by decide +kernel
theorem d_G_init_13 : decode b_G_init 13 = .ok (.bipush 16, 2) := by decide +kernel
theorem d_G_init_15 : decode b_G_init 15 = .ok (.newarray .long, 2) := by decide +kernel
theorem d_G_init_17 : decode b_G_init 17 = .ok (.putfield 15, 3) := by decide +kernel
theorem d_G_init_20 : decode b_G_init 20 = .ok (.iconst 0, 1) := by decide +kernel
theorem d_G_init_21 : decode b_G_init 21 = .ok (.istore_n 1, 1) := by decide +kernel
theorem d_G_init_22 : decode b_G_init 22 = .ok (.iload_n 1, 1) := by decide +kernel
theorem d_G_init_23 : decode b_G_init 23 = .ok (.iconst 2, 1) := by decide +kernel
theorem d_G_init_24 : decode b_G_init 24 = .ok (.if_icmp .ge 22, 3) := by decide +kernel
theorem d_G_init_27 : decode b_G_init 27 = .ok (.aload_n 0, 1) := by decide +kernel
theorem d_G_init_28 : decode b_G_init 28 = .ok (.getfield 11, 3) := by decide +kernel
theorem d_G_init_31 : decode b_G_init 31 = .ok (.iload_n 1, 1) := by decide +kernel
theorem d_G_init_32 : decode b_G_init 32 = .ok (.new 9, 3) := by decide +kernel
theorem d_G_init_35 : decode b_G_init 35 = .ok (.dup, 1) := by decide +kernel
theorem d_G_init_36 : decode b_G_init 36 = .ok (.invokespecial 19, 3) := by decide +kernel
theorem d_G_init_39 : decode b_G_init 39 = .ok (.aastore, 1) := by decide +kernel
theorem d_G_init_40 : decode b_G_init 40 = .ok (.iinc 1 1, 3) := by decide +kernel
theorem d_G_init_43 : decode b_G_init 43 = .ok (.goto (-21), 3) := by decide +kernel
theorem d_G_init_46 : decode b_G_init 46 = .ok (.return_, 1) := by decide +kernel
def p_G_init (D : va_G) (A : Nat → Prop) (h0 : Nat) (t : State) : Prop := ∃ (q1 : Nat) (c1 : ClassId) (q2 : Nat) (c2 : ClassId) (q3 : Nat) (q1_q3 : Nat) (c1_q3 : ClassId) (q2_q3 : Nat) (c2_q3 : ClassId) (q3_q3 : Nat) (q4_q3 : Nat) (q5_q3 : Nat) (q6_q3 : Nat) (q7_q3 : Nat) (q8_q3 : Nat) (q4 : Nat) (q1_q4 : Nat) (c1_q4 : ClassId) (q2_q4 : Nat) (c2_q4 : ClassId) (q3_q4 : Nat) (q4_q4 : Nat) (q5_q4 : Nat) (q6_q4 : Nat) (q7_q4 : Nat) (q8_q4 : Nat), va_P D gm_cl [(h0, .inr (0, [.ref q1, .ref q2, .int 0, .int 0, .int 0, .int 0])), (q1, .inl (c1, 2, .inr (.inr (.inr (.inr (va_up (va_up (fun _ => none) 0 (some q3)) 1 (some q4))))))), (q2, .inl (c2, 16, .inr (.inl (fun _ => 0)))), (q3, .inr (1, [.ref q1_q3, .ref q2_q3, .int 1, .int 0, .int 0, .int 0, .int 0, .int 0])), (q1_q3, .inl (c1_q3, 6, .inr (.inr (.inr (.inr (va_up (va_up (va_up (va_up (va_up (va_up (fun _ => none) 0 (some q3_q3)) 1 (some q4_q3)) 2 (some q5_q3)) 3 (some q6_q3)) 4 (some q7_q3)) 5 (some q8_q3))))))), (q2_q3, .inl (c2_q3, 16, .inl (fun _ => 0))), (q3_q3, .inr (2, [.int 0, .int 0, .int 7])), (q4_q3, .inr (2, [.int 0, .int 0, .int 7])), (q5_q3, .inr (2, [.int 0, .int 0, .int 7])), (q6_q3, .inr (2, [.int 0, .int 0, .int 7])), (q7_q3, .inr (2, [.int 0, .int 0, .int 7])), (q8_q3, .inr (2, [.int 0, .int 0, .int 7])), (q4, .inr (1, [.ref q1_q4, .ref q2_q4, .int 1, .int 0, .int 0, .int 0, .int 0, .int 0])), (q1_q4, .inl (c1_q4, 6, .inr (.inr (.inr (.inr (va_up (va_up (va_up (va_up (va_up (va_up (fun _ => none) 0 (some q3_q4)) 1 (some q4_q4)) 2 (some q5_q4)) 3 (some q6_q4)) 4 (some q7_q4)) 5 (some q8_q4))))))), (q2_q4, .inl (c2_q4, 16, .inl (fun _ => 0))), (q3_q4, .inr (2, [.int 0, .int 0, .int 7])), (q4_q4, .inr (2, [.int 0, .int 0, .int 7])), (q5_q4, .inr (2, [.int 0, .int 0, .int 7])), (q6_q4, .inr (2, [.int 0, .int 0, .int 7])), (q7_q4, .inr (2, [.int 0, .int 0, .int 7])), (q8_q4, .inr (2, [.int 0, .int 0, .int 7]))] t.heap ∧ va_D A [(h0, .inr (0, [.ref q1, .ref q2, .int 0, .int 0, .int 0, .int 0])), (q1, .inl (c1, 2, .inr (.inr (.inr (.inr (va_up (va_up (fun _ => none) 0 (some q3)) 1 (some q4))))))), (q2, .inl (c2, 16, .inr (.inl (fun _ => 0)))), (q3, .inr (1, [.ref q1_q3, .ref q2_q3, .int 1, .int 0, .int 0, .int 0, .int 0, .int 0])), (q1_q3, .inl (c1_q3, 6, .inr (.inr (.inr (.inr (va_up (va_up (va_up (va_up (va_up (va_up (fun _ => none) 0 (some q3_q3)) 1 (some q4_q3)) 2 (some q5_q3)) 3 (some q6_q3)) 4 (some q7_q3)) 5 (some q8_q3))))))), (q2_q3, .inl (c2_q3, 16, .inl (fun _ => 0))), (q3_q3, .inr (2, [.int 0, .int 0, .int 7])), (q4_q3, .inr (2, [.int 0, .int 0, .int 7])), (q5_q3, .inr (2, [.int 0, .int 0, .int 7])), (q6_q3, .inr (2, [.int 0, .int 0, .int 7])), (q7_q3, .inr (2, [.int 0, .int 0, .int 7])), (q8_q3, .inr (2, [.int 0, .int 0, .int 7])), (q4, .inr (1, [.ref q1_q4, .ref q2_q4, .int 1, .int 0, .int 0, .int 0, .int 0, .int 0])), (q1_q4, .inl (c1_q4, 6, .inr (.inr (.inr (.inr (va_up (va_up (va_up (va_up (va_up (va_up (fun _ => none) 0 (some q3_q4)) 1 (some q4_q4)) 2 (some q5_q4)) 3 (some q6_q4)) 4 (some q7_q4)) 5 (some q8_q4))))))), (q2_q4, .inl (c2_q4, 16, .inl (fun _ => 0))), (q3_q4, .inr (2, [.int 0, .int 0, .int 7])), (q4_q4, .inr (2, [.int 0, .int 0, .int 7])), (q5_q4, .inr (2, [.int 0, .int 0, .int 7])), (q6_q4, .inr (2, [.int 0, .int 0, .int 7])), (q7_q4, .inr (2, [.int 0, .int 0, .int 7])), (q8_q4, .inr (2, [.int 0, .int 0, .int 7]))] ∧ va_K D gm_cl [(c1, .object "GearModules$OneModule"), (c2, .long), (c1_q3, .object "GearModules$Sensor"), (c2_q3, .int), (c1_q4, .object "GearModules$Sensor"), (c2_q4, .int)] t
set_option maxRecDepth 100000 in
set_option maxHeartbeats 8000000 in
theorem c_G_init {l : Launch} {D : va_G} {A : Nat → Prop} {h0 sz : Nat} (hA0 : ∀ q, sz ≤ q → A q) : Met l y_G_init (Cond.code y_G_init b_G_init 2 none :: gm_A) { frames := 3, cells := 20, slots := 114, locals := 61 } (va_Pc [.ref h0] (fun U => sz ≤ U.heap.size ∧ va_P D gm_cl [(h0, .inr (0, [.null, .null, .int 0, .int 0, .int 0, .int 0]))] U.heap ∧ va_K D gm_cl [] U ∧ va_D A [(h0, .inr (0, [.null, .null, .int 0, .int 0, .int 0, .int 0]))] ∧ gm_Y U)) (va_Qv (fun _ : Unit => True) (fun _ t => p_G_init D A h0 t) A) 20 114 A := by
  refine Met.ofW (cc := b_G_init) (maxL := 2) (ret := none) (by decide) rfl ?_
  intro p e s m args below meth c s₁ B hml hv
  obtain ⟨rfl, hsz, hP, hK, hD, hY⟩ := hv
  have hx := B.exec
  have hb := B.bytes
  have hr := B.returns
  have hts0 := atoms_spec B.pre
  have hts := fun w h => hts0 w (List.mem_cons_of_mem _ h)
  have hown : s.vm.findClass R_G = some m.cls := findClass_of_methodNamed B.named
  have hlocks := B.notSynchronized
  have hin : meth.name = "<init>" := (name_of_methodNamed B.named B.method).1
  have hS : va_S A s.heap s.heap [] := va_S.rf
  have hA : ∀ q : Nat, s.heap.size ≤ q → A q := fun q h => hA0 q (Nat.le_trans hsz h)
  have hl := lv_entry ([.ref h0]) (n := 2) (Nat.le_of_ble_eq_true rfl)
  rw [lg_entry_eq]
  generalize (lg_sl ([.ref h0]) ++ List.replicate (2 - (lg_sl ([.ref h0])).length) Slot.unset).toArray = ls at hl ⊢
  have hl : lv_has ls 2 [(0, .ref h0)] := hl
  refine lv_aload_n hx hb d_G_init_0 rfl (lv_at hl 0 rfl) ?_
  refine W.objInit hx hb hown (hts _ (gm_in 39 (by decide +kernel) rfl)) (hts _ (gm_in 40 (by decide +kernel) rfl)) (hts _ (gm_in 41 (by decide +kernel) rfl)) rfl (by rw [hml]; exact hl.1) rfl d_G_init_1 (Nat.le_of_ble_eq_true rfl) (Nat.le_of_ble_eq_true rfl) ?_
  refine W.eq (g2 := F0 m 4 ls []) rfl ?_
  refine lv_aload_n hx hb d_G_init_4 rfl (lv_at hl 0 rfl) ?_
  refine lv_iconst (v := 2) hx hb d_G_init_5 (by decide) ?_
  refine va_newq (N' := 2) hx hb hown (hts _ (gm_in 42 (by decide +kernel) rfl)) hY.2.2 hK hP hD hS hA (by decide) rfl (by decide) (by decide) (by decide) d_G_init_6 (fun q1 c1 H hK hP hD hS => ?_)
  have hP : va_P D gm_cl [(h0, .inr (0, [.null, .null, .int 0, .int 0, .int 0, .int 0])), (q1, .inl (c1, 2, .inr (.inr (.inr (.inr (fun _ => none))))))] H := hP
  have hD : va_D A [(h0, .inr (0, [.null, .null, .int 0, .int 0, .int 0, .int 0])), (q1, .inl (c1, 2, .inr (.inr (.inr (.inr (fun _ => none))))))] := hD
  refine va_putF (D := D) (ci := 0) (v := .ref q1) (ty := .array (.object "GearModules$OneModule")) (C := R_G) (T := F_G) (N := 6) (ref := "GearModules") hx hb hts in_G t_G t_G_ok n_G hown hK hP hD hS 0 rfl rfl 0 (by decide) (hts _ (gm_in 100 (by decide +kernel) rfl)) (fun _ h9 => h9) rfl hin rfl (by decide +kernel) rfl rfl (Nat.le_of_ble_eq_true rfl) d_G_init_9 (fun H locs hP hD hS => ?_)
  have hP : va_P D gm_cl [(h0, .inr (0, [.ref q1, .null, .int 0, .int 0, .int 0, .int 0])), (q1, .inl (c1, 2, .inr (.inr (.inr (.inr (fun _ => none))))))] H := hP
  have hD : va_D A [(h0, .inr (0, [.ref q1, .null, .int 0, .int 0, .int 0, .int 0])), (q1, .inl (c1, 2, .inr (.inr (.inr (.inr (fun _ => none))))))] := hD
  refine lv_aload_n hx hb d_G_init_12 rfl (lv_at hl 0 rfl) ?_
  refine lv_bipush (v := 16) hx hb d_G_init_13 (by decide) ?_
  refine va_newa (ty := .long) (a0 := (16, .inr (.inl (fun _ => 0)))) (N' := 16) hx hb (hts _ (gm_in 68 (by decide +kernel) rfl)) rfl hK hP hD hS hA (fun _ => rfl) (by decide) rfl (by decide) (by decide) (by decide) d_G_init_15 (fun q2 c2 H hK hP hD hS => ?_)
  have hP : va_P D gm_cl [(h0, .inr (0, [.ref q1, .null, .int 0, .int 0, .int 0, .int 0])), (q1, .inl (c1, 2, .inr (.inr (.inr (.inr (fun _ => none)))))), (q2, .inl (c2, 16, .inr (.inl (fun _ => 0))))] H := hP
  have hD : va_D A [(h0, .inr (0, [.ref q1, .null, .int 0, .int 0, .int 0, .int 0])), (q1, .inl (c1, 2, .inr (.inr (.inr (.inr (fun _ => none)))))), (q2, .inl (c2, 16, .inr (.inl (fun _ => 0))))] := hD
  refine va_putF (D := D) (ci := 0) (v := .ref q2) (ty := .array .long) (C := R_G) (T := F_G) (N := 6) (ref := "GearModules") hx hb hts in_G t_G t_G_ok n_G hown hK hP hD hS 0 rfl rfl 1 (by decide) (hts _ (gm_in 101 (by decide +kernel) rfl)) (fun _ h9 => h9) rfl hin rfl (by decide +kernel) rfl rfl (Nat.le_of_ble_eq_true rfl) d_G_init_17 (fun H locs hP hD hS => ?_)
  have hP : va_P D gm_cl [(h0, .inr (0, [.ref q1, .ref q2, .int 0, .int 0, .int 0, .int 0])), (q1, .inl (c1, 2, .inr (.inr (.inr (.inr (fun _ => none)))))), (q2, .inl (c2, 16, .inr (.inl (fun _ => 0))))] H := hP
  have hD : va_D A [(h0, .inr (0, [.ref q1, .ref q2, .int 0, .int 0, .int 0, .int 0])), (q1, .inl (c1, 2, .inr (.inr (.inr (.inr (fun _ => none)))))), (q2, .inl (c2, 16, .inr (.inl (fun _ => 0))))] := hD
  refine lv_iconst (v := 0) hx hb d_G_init_20 (by decide) ?_
  refine lv_istore_n (lv' := [(1, .int 0), (0, .ref h0)]) hx hb d_G_init_21 rfl hl (by decide) rfl (fun ls hl => ?_)
  refine lv_iload_n hx hb d_G_init_22 rfl (lv_at hl 0 rfl) ?_
  refine lv_iconst (v := 2) hx hb d_G_init_23 (by decide) ?_
  refine lv_icmp_ge (tgt := 46) hx hb d_G_init_24 rfl (fun h => absurd h (by decide)) (fun _ => ?_)
  refine lv_aload_n hx hb d_G_init_27 rfl (lv_at hl 1 rfl) ?_
  refine va_get (D := D) (ci := 0) (v := .ref q1) (C := R_G) (T := F_G) (N := 6) (ref := "GearModules") hx hb hts in_G hown hK hP 0 rfl rfl 0 (by decide) (hts _ (gm_in 100 (by decide +kernel) rfl)) (fun _ h9 => h9) rfl d_G_init_28 ?_
  refine lv_iload_n hx hb d_G_init_31 rfl (lv_at hl 0 rfl) ?_
  refine va_new (ci := 1) (fs := [.null, .null, .int 0, .int 0, .int 0, .int 0, .int 0, .int 0]) (C := R_M) (T := F_M) (N := 8) hx hb hts in_M t_M t_M_ok hown (hts _ (gm_in 42 (by decide +kernel) rfl)) (hts _ (gm_in 44 (by decide +kernel) rfl)) (hts _ (gm_in 29 (by decide +kernel) rfl)) hK hP hD hS hA rfl (fun j hj => by rcases (show j = 0 ∨ j = 1 ∨ j = 2 ∨ j = 3 ∨ j = 4 ∨ j = 5 ∨ j = 6 ∨ j = 7 by omega) with rfl | rfl | rfl | rfl | rfl | rfl | rfl | rfl <;> rfl) (by decide) (by decide) d_G_init_32 (fun q3 H hP hD hS => ?_)
  have hP : va_P D gm_cl [(h0, .inr (0, [.ref q1, .ref q2, .int 0, .int 0, .int 0, .int 0])), (q1, .inl (c1, 2, .inr (.inr (.inr (.inr (fun _ => none)))))), (q2, .inl (c2, 16, .inr (.inl (fun _ => 0)))), (q3, .inr (1, [.null, .null, .int 0, .int 0, .int 0, .int 0, .int 0, .int 0]))] H := hP
  have hD : va_D A [(h0, .inr (0, [.ref q1, .ref q2, .int 0, .int 0, .int 0, .int 0])), (q1, .inl (c1, 2, .inr (.inr (.inr (.inr (fun _ => none)))))), (q2, .inl (c2, 16, .inr (.inl (fun _ => 0)))), (q3, .inr (1, [.null, .null, .int 0, .int 0, .int 0, .int 0, .int 0, .int 0]))] := hD
  refine lv_dup hx hb d_G_init_35 rfl ?_
  have hPc := hP.sub (ws' := [(q3, .inr (1, [.null, .null, .int 0, .int 0, .int 0, .int 0, .int 0, .int 0]))]) [3] rfl
  have hDc := hD.sub (ws' := [(q3, .inr (1, [.null, .null, .int 0, .int 0, .int 0, .int 0, .int 0, .int 0]))]) [3] (by decide) rfl
  have hFc := va_free (wc := [(q3, .inr (1, [.null, .null, .int 0, .int 0, .int 0, .int 0, .int 0, .int 0]))]) hD hS hA [3] rfl
  refine va_callv (va_runI (As := []) (rest := [.ref q3, .int 0, .ref q1]) ⟨hx, hb, hml, hown, hts⟩ (c_M_init (D := D) (A := va_A [(q3, .inr (1, [.null, .null, .int 0, .int 0, .int 0, .int 0, .int 0, .int 0]))] H.size) (h0 := q3) (sz := H.size) (fun q h => Or.inr h)) (cwI 0 hts (gm_good (gm_wsC (gm_in 47 (by decide +kernel) rfl))) rfl rfl rfl (hts _ (gm_in 29 (by decide +kernel) rfl)) (hts _ (gm_in 45 (by decide +kernel) rfl)) (hts _ (gm_in 46 (by decide +kernel) rfl)) rfl (by decide +kernel) ⟨Nat.le_of_ble_eq_true rfl, Nat.le_of_ble_eq_true rfl⟩) ⟨fun a U g mk q => ⟨q.1, q.2.1, q.2.2.1, va_K.moved (u := U) (U := U.calling g mk a) (Vm.Alike.refl U.vm) q.2.2.2.1, q.2.2.2.2.1, q.2.2.2.2.2.calling⟩, fun U hU hW => ⟨rfl, by rw [hU]; exact Nat.le_refl _, by rw [hU]; exact hPc, va_K.moved hW.alike (hK.sub (tys' := []) [] rfl), hDc.self, hY.go hW⟩⟩ rfl rfl hl.1 rfl (lv_room (Nat.le_of_ble_eq_true rfl)) d_G_init_36 ⟨by decide, by decide⟩) hS (fun q _ h => hFc q h) hFc (fun u t H1 locs ht hvm h5 hB hz1 hk1 hS => ?_)
  obtain ⟨q1_q3, c1_q3, q2_q3, c2_q3, q3_q3, q4_q3, q5_q3, q6_q3, q7_q3, q8_q3, hP1, hD1, hK1⟩ := hB
  have hK1 := va_K.moved hvm.symm hK1
  have hK := hK.app hK1
  rw [ht] at hP1
  obtain ⟨hP, hD⟩ := va_join (wr := [(h0, .inr (0, [.ref q1, .ref q2, .int 0, .int 0, .int 0, .int 0])), (q1, .inl (c1, 2, .inr (.inr (.inr (.inr (fun _ => none)))))), (q2, .inl (c2, 16, .inr (.inl (fun _ => 0))))]) (w1 := [(q3, .inr (1, [.ref q1_q3, .ref q2_q3, .int 1, .int 0, .int 0, .int 0, .int 0, .int 0])), (q1_q3, .inl (c1_q3, 6, .inr (.inr (.inr (.inr (va_up (va_up (va_up (va_up (va_up (va_up (fun _ => none) 0 (some q3_q3)) 1 (some q4_q3)) 2 (some q5_q3)) 3 (some q6_q3)) 4 (some q7_q3)) 5 (some q8_q3))))))), (q2_q3, .inl (c2_q3, 16, .inl (fun _ => 0))), (q3_q3, .inr (2, [.int 0, .int 0, .int 7])), (q4_q3, .inr (2, [.int 0, .int 0, .int 7])), (q5_q3, .inr (2, [.int 0, .int 0, .int 7])), (q6_q3, .inr (2, [.int 0, .int 0, .int 7])), (q7_q3, .inr (2, [.int 0, .int 0, .int 7])), (q8_q3, .inr (2, [.int 0, .int 0, .int 7]))]) hP hD [3] [0, 1, 2] rfl rfl (by decide) (by decide) hk1 hFc hP1 hD1
  generalize H1 = H at hP hS ⊢
  have hP : va_P D gm_cl [(h0, .inr (0, [.ref q1, .ref q2, .int 0, .int 0, .int 0, .int 0])), (q1, .inl (c1, 2, .inr (.inr (.inr (.inr (fun _ => none)))))), (q2, .inl (c2, 16, .inr (.inl (fun _ => 0)))), (q3, .inr (1, [.ref q1_q3, .ref q2_q3, .int 1, .int 0, .int 0, .int 0, .int 0, .int 0])), (q1_q3, .inl (c1_q3, 6, .inr (.inr (.inr (.inr (va_up (va_up (va_up (va_up (va_up (va_up (fun _ => none) 0 (some q3_q3)) 1 (some q4_q3)) 2 (some q5_q3)) 3 (some q6_q3)) 4 (some q7_q3)) 5 (some q8_q3))))))), (q2_q3, .inl (c2_q3, 16, .inl (fun _ => 0))), (q3_q3, .inr (2, [.int 0, .int 0, .int 7])), (q4_q3, .inr (2, [.int 0, .int 0, .int 7])), (q5_q3, .inr (2, [.int 0, .int 0, .int 7])), (q6_q3, .inr (2, [.int 0, .int 0, .int 7])), (q7_q3, .inr (2, [.int 0, .int 0, .int 7])), (q8_q3, .inr (2, [.int 0, .int 0, .int 7]))] H := hP
  have hD : va_D A [(h0, .inr (0, [.ref q1, .ref q2, .int 0, .int 0, .int 0, .int 0])), (q1, .inl (c1, 2, .inr (.inr (.inr (.inr (fun _ => none)))))), (q2, .inl (c2, 16, .inr (.inl (fun _ => 0)))), (q3, .inr (1, [.ref q1_q3, .ref q2_q3, .int 1, .int 0, .int 0, .int 0, .int 0, .int 0])), (q1_q3, .inl (c1_q3, 6, .inr (.inr (.inr (.inr (va_up (va_up (va_up (va_up (va_up (va_up (fun _ => none) 0 (some q3_q3)) 1 (some q4_q3)) 2 (some q5_q3)) 3 (some q6_q3)) 4 (some q7_q3)) 5 (some q8_q3))))))), (q2_q3, .inl (c2_q3, 16, .inl (fun _ => 0))), (q3_q3, .inr (2, [.int 0, .int 0, .int 7])), (q4_q3, .inr (2, [.int 0, .int 0, .int 7])), (q5_q3, .inr (2, [.int 0, .int 0, .int 7])), (q6_q3, .inr (2, [.int 0, .int 0, .int 7])), (q7_q3, .inr (2, [.int 0, .int 0, .int 7])), (q8_q3, .inr (2, [.int 0, .int 0, .int 7]))] := hD
  refine va_astq hx hb hK hP hD hS 1 0 3 1 rfl rfl rfl rfl (vp_in_nI (n := 0) (N := 2) (by decide) (by decide)) d_G_init_39 (fun H locs hP hD hS => ?_)
  have hP : va_P D gm_cl [(h0, .inr (0, [.ref q1, .ref q2, .int 0, .int 0, .int 0, .int 0])), (q1, .inl (c1, 2, .inr (.inr (.inr (.inr (va_up (fun _ => none) 0 (some q3))))))), (q2, .inl (c2, 16, .inr (.inl (fun _ => 0)))), (q3, .inr (1, [.ref q1_q3, .ref q2_q3, .int 1, .int 0, .int 0, .int 0, .int 0, .int 0])), (q1_q3, .inl (c1_q3, 6, .inr (.inr (.inr (.inr (va_up (va_up (va_up (va_up (va_up (va_up (fun _ => none) 0 (some q3_q3)) 1 (some q4_q3)) 2 (some q5_q3)) 3 (some q6_q3)) 4 (some q7_q3)) 5 (some q8_q3))))))), (q2_q3, .inl (c2_q3, 16, .inl (fun _ => 0))), (q3_q3, .inr (2, [.int 0, .int 0, .int 7])), (q4_q3, .inr (2, [.int 0, .int 0, .int 7])), (q5_q3, .inr (2, [.int 0, .int 0, .int 7])), (q6_q3, .inr (2, [.int 0, .int 0, .int 7])), (q7_q3, .inr (2, [.int 0, .int 0, .int 7])), (q8_q3, .inr (2, [.int 0, .int 0, .int 7]))] H := hP
  have hD : va_D A [(h0, .inr (0, [.ref q1, .ref q2, .int 0, .int 0, .int 0, .int 0])), (q1, .inl (c1, 2, .inr (.inr (.inr (.inr (va_up (fun _ => none) 0 (some q3))))))), (q2, .inl (c2, 16, .inr (.inl (fun _ => 0)))), (q3, .inr (1, [.ref q1_q3, .ref q2_q3, .int 1, .int 0, .int 0, .int 0, .int 0, .int 0])), (q1_q3, .inl (c1_q3, 6, .inr (.inr (.inr (.inr (va_up (va_up (va_up (va_up (va_up (va_up (fun _ => none) 0 (some q3_q3)) 1 (some q4_q3)) 2 (some q5_q3)) 3 (some q6_q3)) 4 (some q7_q3)) 5 (some q8_q3))))))), (q2_q3, .inl (c2_q3, 16, .inl (fun _ => 0))), (q3_q3, .inr (2, [.int 0, .int 0, .int 7])), (q4_q3, .inr (2, [.int 0, .int 0, .int 7])), (q5_q3, .inr (2, [.int 0, .int 0, .int 7])), (q6_q3, .inr (2, [.int 0, .int 0, .int 7])), (q7_q3, .inr (2, [.int 0, .int 0, .int 7])), (q8_q3, .inr (2, [.int 0, .int 0, .int 7]))] := hD
  refine lv_iinc (k := 0) (v := 1) (lv' := [(1, .int 1), (0, .ref h0)]) hx hb d_G_init_40 hl rfl (by decide) (by decide) rfl (fun ls hl => ?_)
  refine lv_goto (tgt := 22) hx hb d_G_init_43 rfl ?_
  refine lv_iload_n hx hb d_G_init_22 rfl (lv_at hl 0 rfl) ?_
  refine lv_iconst (v := 2) hx hb d_G_init_23 (by decide) ?_
  refine lv_icmp_ge (tgt := 46) hx hb d_G_init_24 rfl (fun h => absurd h (by decide)) (fun _ => ?_)
  refine lv_aload_n hx hb d_G_init_27 rfl (lv_at hl 1 rfl) ?_
  refine va_get (D := D) (ci := 0) (v := .ref q1) (C := R_G) (T := F_G) (N := 6) (ref := "GearModules") hx hb hts in_G hown hK hP 0 rfl rfl 0 (by decide) (hts _ (gm_in 100 (by decide +kernel) rfl)) (fun _ h9 => h9) rfl d_G_init_28 ?_
  refine lv_iload_n hx hb d_G_init_31 rfl (lv_at hl 0 rfl) ?_
  refine va_new (ci := 1) (fs := [.null, .null, .int 0, .int 0, .int 0, .int 0, .int 0, .int 0]) (C := R_M) (T := F_M) (N := 8) hx hb hts in_M t_M t_M_ok hown (hts _ (gm_in 42 (by decide +kernel) rfl)) (hts _ (gm_in 44 (by decide +kernel) rfl)) (hts _ (gm_in 29 (by decide +kernel) rfl)) hK hP hD hS hA rfl (fun j hj => by rcases (show j = 0 ∨ j = 1 ∨ j = 2 ∨ j = 3 ∨ j = 4 ∨ j = 5 ∨ j = 6 ∨ j = 7 by omega) with rfl | rfl | rfl | rfl | rfl | rfl | rfl | rfl <;> rfl) (by decide) (by decide) d_G_init_32 (fun q4 H hP hD hS => ?_)
  have hP : va_P D gm_cl [(h0, .inr (0, [.ref q1, .ref q2, .int 0, .int 0, .int 0, .int 0])), (q1, .inl (c1, 2, .inr (.inr (.inr (.inr (va_up (fun _ => none) 0 (some q3))))))), (q2, .inl (c2, 16, .inr (.inl (fun _ => 0)))), (q3, .inr (1, [.ref q1_q3, .ref q2_q3, .int 1, .int 0, .int 0, .int 0, .int 0, .int 0])), (q1_q3, .inl (c1_q3, 6, .inr (.inr (.inr (.inr (va_up (va_up (va_up (va_up (va_up (va_up (fun _ => none) 0 (some q3_q3)) 1 (some q4_q3)) 2 (some q5_q3)) 3 (some q6_q3)) 4 (some q7_q3)) 5 (some q8_q3))))))), (q2_q3, .inl (c2_q3, 16, .inl (fun _ => 0))), (q3_q3, .inr (2, [.int 0, .int 0, .int 7])), (q4_q3, .inr (2, [.int 0, .int 0, .int 7])), (q5_q3, .inr (2, [.int 0, .int 0, .int 7])), (q6_q3, .inr (2, [.int 0, .int 0, .int 7])), (q7_q3, .inr (2, [.int 0, .int 0, .int 7])), (q8_q3, .inr (2, [.int 0, .int 0, .int 7])), (q4, .inr (1, [.null, .null, .int 0, .int 0, .int 0, .int 0, .int 0, .int 0]))] H := hP
  have hD : va_D A [(h0, .inr (0, [.ref q1, .ref q2, .int 0, .int 0, .int 0, .int 0])), (q1, .inl (c1, 2, .inr (.inr (.inr (.inr (va_up (fun _ => none) 0 (some q3))))))), (q2, .inl (c2, 16, .inr (.inl (fun _ => 0)))), (q3, .inr (1, [.ref q1_q3, .ref q2_q3, .int 1, .int 0, .int 0, .int 0, .int 0, .int 0])), (q1_q3, .inl (c1_q3, 6, .inr (.inr (.inr (.inr (va_up (va_up (va_up (va_up (va_up (va_up (fun _ => none) 0 (some q3_q3)) 1 (some q4_q3)) 2 (some q5_q3)) 3 (some q6_q3)) 4 (some q7_q3)) 5 (some q8_q3))))))), (q2_q3, .inl (c2_q3, 16, .inl (fun _ => 0))), (q3_q3, .inr (2, [.int 0, .int 0, .int 7])), (q4_q3, .inr (2, [.int 0, .int 0, .int 7])), (q5_q3, .inr (2, [.int 0, .int 0, .int 7])), (q6_q3, .inr (2, [.int 0, .int 0, .int 7])), (q7_q3, .inr (2, [.int 0, .int 0, .int 7])), (q8_q3, .inr (2, [.int 0, .int 0, .int 7])), (q4, .inr (1, [.null, .null, .int 0, .int 0, .int 0, .int 0, .int 0, .int 0]))] := hD
  refine lv_dup hx hb d_G_init_35 rfl ?_
  have hPc := hP.sub (ws' := [(q4, .inr (1, [.null, .null, .int 0, .int 0, .int 0, .int 0, .int 0, .int 0]))]) [12] rfl
  have hDc := hD.sub (ws' := [(q4, .inr (1, [.null, .null, .int 0, .int 0, .int 0, .int 0, .int 0, .int 0]))]) [12] (by decide) rfl
  have hFc := va_free (wc := [(q4, .inr (1, [.null, .null, .int 0, .int 0, .int 0, .int 0, .int 0, .int 0]))]) hD hS hA [12] rfl
  refine va_callv (va_runI (As := []) (rest := [.ref q4, .int 1, .ref q1]) ⟨hx, hb, hml, hown, hts⟩ (c_M_init (D := D) (A := va_A [(q4, .inr (1, [.null, .null, .int 0, .int 0, .int 0, .int 0, .int 0, .int 0]))] H.size) (h0 := q4) (sz := H.size) (fun q h => Or.inr h)) (cwI 0 hts (gm_good (gm_wsC (gm_in 47 (by decide +kernel) rfl))) rfl rfl rfl (hts _ (gm_in 29 (by decide +kernel) rfl)) (hts _ (gm_in 45 (by decide +kernel) rfl)) (hts _ (gm_in 46 (by decide +kernel) rfl)) rfl (by decide +kernel) ⟨Nat.le_of_ble_eq_true rfl, Nat.le_of_ble_eq_true rfl⟩) ⟨fun a U g mk q => ⟨q.1, q.2.1, q.2.2.1, va_K.moved (u := U) (U := U.calling g mk a) (Vm.Alike.refl U.vm) q.2.2.2.1, q.2.2.2.2.1, q.2.2.2.2.2.calling⟩, fun U hU hW => ⟨rfl, by rw [hU]; exact Nat.le_refl _, by rw [hU]; exact hPc, va_K.moved hW.alike (hK.sub (tys' := []) [] rfl), hDc.self, hY.go hW⟩⟩ rfl rfl hl.1 rfl (lv_room (Nat.le_of_ble_eq_true rfl)) d_G_init_36 ⟨by decide, by decide⟩) hS (fun q _ h => hFc q h) hFc (fun u t H1 locs ht hvm h5 hB hz1 hk1 hS => ?_)
  obtain ⟨q1_q4, c1_q4, q2_q4, c2_q4, q3_q4, q4_q4, q5_q4, q6_q4, q7_q4, q8_q4, hP1, hD1, hK1⟩ := hB
  have hK1 := va_K.moved hvm.symm hK1
  have hK := hK.app hK1
  rw [ht] at hP1
  obtain ⟨hP, hD⟩ := va_join (wr := [(h0, .inr (0, [.ref q1, .ref q2, .int 0, .int 0, .int 0, .int 0])), (q1, .inl (c1, 2, .inr (.inr (.inr (.inr (va_up (fun _ => none) 0 (some q3))))))), (q2, .inl (c2, 16, .inr (.inl (fun _ => 0)))), (q3, .inr (1, [.ref q1_q3, .ref q2_q3, .int 1, .int 0, .int 0, .int 0, .int 0, .int 0])), (q1_q3, .inl (c1_q3, 6, .inr (.inr (.inr (.inr (va_up (va_up (va_up (va_up (va_up (va_up (fun _ => none) 0 (some q3_q3)) 1 (some q4_q3)) 2 (some q5_q3)) 3 (some q6_q3)) 4 (some q7_q3)) 5 (some q8_q3))))))), (q2_q3, .inl (c2_q3, 16, .inl (fun _ => 0))), (q3_q3, .inr (2, [.int 0, .int 0, .int 7])), (q4_q3, .inr (2, [.int 0, .int 0, .int 7])), (q5_q3, .inr (2, [.int 0, .int 0, .int 7])), (q6_q3, .inr (2, [.int 0, .int 0, .int 7])), (q7_q3, .inr (2, [.int 0, .int 0, .int 7])), (q8_q3, .inr (2, [.int 0, .int 0, .int 7]))]) (w1 := [(q4, .inr (1, [.ref q1_q4, .ref q2_q4, .int 1, .int 0, .int 0, .int 0, .int 0, .int 0])), (q1_q4, .inl (c1_q4, 6, .inr (.inr (.inr (.inr (va_up (va_up (va_up (va_up (va_up (va_up (fun _ => none) 0 (some q3_q4)) 1 (some q4_q4)) 2 (some q5_q4)) 3 (some q6_q4)) 4 (some q7_q4)) 5 (some q8_q4))))))), (q2_q4, .inl (c2_q4, 16, .inl (fun _ => 0))), (q3_q4, .inr (2, [.int 0, .int 0, .int 7])), (q4_q4, .inr (2, [.int 0, .int 0, .int 7])), (q5_q4, .inr (2, [.int 0, .int 0, .int 7])), (q6_q4, .inr (2, [.int 0, .int 0, .int 7])), (q7_q4, .inr (2, [.int 0, .int 0, .int 7])), (q8_q4, .inr (2, [.int 0, .int 0, .int 7]))]) hP hD [12] [0, 1, 2, 3, 4, 5, 6, 7, 8, 9, 10, 11] rfl rfl (by decide) (by decide) hk1 hFc hP1 hD1
  generalize H1 = H at hP hS ⊢
  have hP : va_P D gm_cl [(h0, .inr (0, [.ref q1, .ref q2, .int 0, .int 0, .int 0, .int 0])), (q1, .inl (c1, 2, .inr (.inr (.inr (.inr (va_up (fun _ => none) 0 (some q3))))))), (q2, .inl (c2, 16, .inr (.inl (fun _ => 0)))), (q3, .inr (1, [.ref q1_q3, .ref q2_q3, .int 1, .int 0, .int 0, .int 0, .int 0, .int 0])), (q1_q3, .inl (c1_q3, 6, .inr (.inr (.inr (.inr (va_up (va_up (va_up (va_up (va_up (va_up (fun _ => none) 0 (some q3_q3)) 1 (some q4_q3)) 2 (some q5_q3)) 3 (some q6_q3)) 4 (some q7_q3)) 5 (some q8_q3))))))), (q2_q3, .inl (c2_q3, 16, .inl (fun _ => 0))), (q3_q3, .inr (2, [.int 0, .int 0, .int 7])), (q4_q3, .inr (2, [.int 0, .int 0, .int 7])), (q5_q3, .inr (2, [.int 0, .int 0, .int 7])), (q6_q3, .inr (2, [.int 0, .int 0, .int 7])), (q7_q3, .inr (2, [.int 0, .int 0, .int 7])), (q8_q3, .inr (2, [.int 0, .int 0, .int 7])), (q4, .inr (1, [.ref q1_q4, .ref q2_q4, .int 1, .int 0, .int 0, .int 0, .int 0, .int 0])), (q1_q4, .inl (c1_q4, 6, .inr (.inr (.inr (.inr (va_up (va_up (va_up (va_up (va_up (va_up (fun _ => none) 0 (some q3_q4)) 1 (some q4_q4)) 2 (some q5_q4)) 3 (some q6_q4)) 4 (some q7_q4)) 5 (some q8_q4))))))), (q2_q4, .inl (c2_q4, 16, .inl (fun _ => 0))), (q3_q4, .inr (2, [.int 0, .int 0, .int 7])), (q4_q4, .inr (2, [.int 0, .int 0, .int 7])), (q5_q4, .inr (2, [.int 0, .int 0, .int 7])), (q6_q4, .inr (2, [.int 0, .int 0, .int 7])), (q7_q4, .inr (2, [.int 0, .int 0, .int 7])), (q8_q4, .inr (2, [.int 0, .int 0, .int 7]))] H := hP
  have hD : va_D A [(h0, .inr (0, [.ref q1, .ref q2, .int 0, .int 0, .int 0, .int 0])), (q1, .inl (c1, 2, .inr (.inr (.inr (.inr (va_up (fun _ => none) 0 (some q3))))))), (q2, .inl (c2, 16, .inr (.inl (fun _ => 0)))), (q3, .inr (1, [.ref q1_q3, .ref q2_q3, .int 1, .int 0, .int 0, .int 0, .int 0, .int 0])), (q1_q3, .inl (c1_q3, 6, .inr (.inr (.inr (.inr (va_up (va_up (va_up (va_up (va_up (va_up (fun _ => none) 0 (some q3_q3)) 1 (some q4_q3)) 2 (some q5_q3)) 3 (some q6_q3)) 4 (some q7_q3)) 5 (some q8_q3))))))), (q2_q3, .inl (c2_q3, 16, .inl (fun _ => 0))), (q3_q3, .inr (2, [.int 0, .int 0, .int 7])), (q4_q3, .inr (2, [.int 0, .int 0, .int 7])), (q5_q3, .inr (2, [.int 0, .int 0, .int 7])), (q6_q3, .inr (2, [.int 0, .int 0, .int 7])), (q7_q3, .inr (2, [.int 0, .int 0, .int 7])), (q8_q3, .inr (2, [.int 0, .int 0, .int 7])), (q4, .inr (1, [.ref q1_q4, .ref q2_q4, .int 1, .int 0, .int 0, .int 0, .int 0, .int 0])), (q1_q4, .inl (c1_q4, 6, .inr (.inr (.inr (.inr (va_up (va_up (va_up (va_up (va_up (va_up (fun _ => none) 0 (some q3_q4)) 1 (some q4_q4)) 2 (some q5_q4)) 3 (some q6_q4)) 4 (some q7_q4)) 5 (some q8_q4))))))), (q2_q4, .inl (c2_q4, 16, .inl (fun _ => 0))), (q3_q4, .inr (2, [.int 0, .int 0, .int 7])), (q4_q4, .inr (2, [.int 0, .int 0, .int 7])), (q5_q4, .inr (2, [.int 0, .int 0, .int 7])), (q6_q4, .inr (2, [.int 0, .int 0, .int 7])), (q7_q4, .inr (2, [.int 0, .int 0, .int 7])), (q8_q4, .inr (2, [.int 0, .int 0, .int 7]))] := hD
  refine va_astq hx hb hK hP hD hS 1 0 12 1 rfl rfl rfl rfl (vp_in_nI (n := 1) (N := 2) (by decide) (by decide)) d_G_init_39 (fun H locs hP hD hS => ?_)
  have hP : va_P D gm_cl [(h0, .inr (0, [.ref q1, .ref q2, .int 0, .int 0, .int 0, .int 0])), (q1, .inl (c1, 2, .inr (.inr (.inr (.inr (va_up (va_up (fun _ => none) 0 (some q3)) 1 (some q4))))))), (q2, .inl (c2, 16, .inr (.inl (fun _ => 0)))), (q3, .inr (1, [.ref q1_q3, .ref q2_q3, .int 1, .int 0, .int 0, .int 0, .int 0, .int 0])), (q1_q3, .inl (c1_q3, 6, .inr (.inr (.inr (.inr (va_up (va_up (va_up (va_up (va_up (va_up (fun _ => none) 0 (some q3_q3)) 1 (some q4_q3)) 2 (some q5_q3)) 3 (some q6_q3)) 4 (some q7_q3)) 5 (some q8_q3))))))), (q2_q3, .inl (c2_q3, 16, .inl (fun _ => 0))), (q3_q3, .inr (2, [.int 0, .int 0, .int 7])), (q4_q3, .inr (2, [.int 0, .int 0, .int 7])), (q5_q3, .inr (2, [.int 0, .int 0, .int 7])), (q6_q3, .inr (2, [.int 0, .int 0, .int 7])), (q7_q3, .inr (2, [.int 0, .int 0, .int 7])), (q8_q3, .inr (2, [.int 0, .int 0, .int 7])), (q4, .inr (1, [.ref q1_q4, .ref q2_q4, .int 1, .int 0, .int 0, .int 0, .int 0, .int 0])), (q1_q4, .inl (c1_q4, 6, .inr (.inr (.inr (.inr (va_up (va_up (va_up (va_up (va_up (va_up (fun _ => none) 0 (some q3_q4)) 1 (some q4_q4)) 2 (some q5_q4)) 3 (some q6_q4)) 4 (some q7_q4)) 5 (some q8_q4))))))), (q2_q4, .inl (c2_q4, 16, .inl (fun _ => 0))), (q3_q4, .inr (2, [.int 0, .int 0, .int 7])), (q4_q4, .inr (2, [.int 0, .int 0, .int 7])), (q5_q4, .inr (2, [.int 0, .int 0, .int 7])), (q6_q4, .inr (2, [.int 0, .int 0, .int 7])), (q7_q4, .inr (2, [.int 0, .int 0, .int 7])), (q8_q4, .inr (2, [.int 0, .int 0, .int 7]))] H := hP
  have hD : va_D A [(h0, .inr (0, [.ref q1, .ref q2, .int 0, .int 0, .int 0, .int 0])), (q1, .inl (c1, 2, .inr (.inr (.inr (.inr (va_up (va_up (fun _ => none) 0 (some q3)) 1 (some q4))))))), (q2, .inl (c2, 16, .inr (.inl (fun _ => 0)))), (q3, .inr (1, [.ref q1_q3, .ref q2_q3, .int 1, .int 0, .int 0, .int 0, .int 0, .int 0])), (q1_q3, .inl (c1_q3, 6, .inr (.inr (.inr (.inr (va_up (va_up (va_up (va_up (va_up (va_up (fun _ => none) 0 (some q3_q3)) 1 (some q4_q3)) 2 (some q5_q3)) 3 (some q6_q3)) 4 (some q7_q3)) 5 (some q8_q3))))))), (q2_q3, .inl (c2_q3, 16, .inl (fun _ => 0))), (q3_q3, .inr (2, [.int 0, .int 0, .int 7])), (q4_q3, .inr (2, [.int 0, .int 0, .int 7])), (q5_q3, .inr (2, [.int 0, .int 0, .int 7])), (q6_q3, .inr (2, [.int 0, .int 0, .int 7])), (q7_q3, .inr (2, [.int 0, .int 0, .int 7])), (q8_q3, .inr (2, [.int 0, .int 0, .int 7])), (q4, .inr (1, [.ref q1_q4, .ref q2_q4, .int 1, .int 0, .int 0, .int 0, .int 0, .int 0])), (q1_q4, .inl (c1_q4, 6, .inr (.inr (.inr (.inr (va_up (va_up (va_up (va_up (va_up (va_up (fun _ => none) 0 (some q3_q4)) 1 (some q4_q4)) 2 (some q5_q4)) 3 (some q6_q4)) 4 (some q7_q4)) 5 (some q8_q4))))))), (q2_q4, .inl (c2_q4, 16, .inl (fun _ => 0))), (q3_q4, .inr (2, [.int 0, .int 0, .int 7])), (q4_q4, .inr (2, [.int 0, .int 0, .int 7])), (q5_q4, .inr (2, [.int 0, .int 0, .int 7])), (q6_q4, .inr (2, [.int 0, .int 0, .int 7])), (q7_q4, .inr (2, [.int 0, .int 0, .int 7])), (q8_q4, .inr (2, [.int 0, .int 0, .int 7]))] := hD
  refine lv_iinc (k := 0) (v := 2) (lv' := [(1, .int 2), (0, .ref h0)]) hx hb d_G_init_40 hl rfl (by decide) (by decide) rfl (fun ls hl => ?_)
  refine lv_goto (tgt := 22) hx hb d_G_init_43 rfl ?_
  refine lv_iload_n hx hb d_G_init_22 rfl (lv_at hl 0 rfl) ?_
  refine lv_iconst (v := 2) hx hb d_G_init_23 (by decide) ?_
  refine lv_icmp_ge (tgt := 46) hx hb d_G_init_24 rfl (fun _ => ?_) (fun h => absurd (by decide) h)
  have hK9 : va_K D gm_cl [(c1, .object "GearModules$OneModule"), (c2, .long), (c1_q3, .object "GearModules$Sensor"), (c2_q3, .int), (c1_q4, .object "GearModules$Sensor"), (c2_q4, .int)] s := hK
  refine W.widen (k := 20) (n := 114) (by decide) (by decide) ?_
  exact W.vret hx hb hr (fun t ht hW => ⟨⟨(), rfl, trivial, q1, c1, q2, c2, q3, q1_q3, c1_q3, q2_q3, c2_q3, q3_q3, q4_q3, q5_q3, q6_q3, q7_q3, q8_q3, q4, q1_q4, c1_q4, q2_q4, c2_q4, q3_q4, q4_q4, q5_q4, q6_q4, q7_q4, q8_q4, by rw [ht]; exact hP, hD, va_K.moved hW.alike hK9⟩, hS.F ht⟩) hS.2.2 d_G_init_46
end
section
theorem d_R_init_0 : decode b_R_init 0 = .ok (.aload_n 0, 1) := by decide +kernel
theorem d_R_init_1 : decode b_R_init 1 = .ok (.invokespecial 1, 3) := by decide +kernel
theorem d_R_init_4 : decode b_R_init 4 = .ok (.aload_n 0, 1) := by decide +kernel
theorem d_R_init_5 : decode b_R_init 5 = .ok (.iconst 2, 1) := by decide +kernel
theorem d_R_init_6 : decode b_R_init 6 = .ok (.newarray .boolean, 2) := by decide +kernel
theorem d_R_init_8 : decode b_R_init 8 = .ok (.putfield 7, 3) := by decide +kernel
theorem d_R_init_11 : decode b_R_init 11 = .ok (.aload_n 0, 1) := by decide +kernel
theorem d_R_init_12 : decode b_R_init 12 = .ok (.bipush 36, 2) := by decide +kernel
theorem d_R_init_14 : decode b_R_init 14 = .ok (.newarray .boolean, 2) := by decide +kernel
theorem d_R_init_16 : decode b_R_init 16 = .ok (.putfield 13, 3) := by decide +kernel
theorem d_R_init_19 : decode b_R_init 19 = .ok (.aload_n 0, 1) := by decide +kernel
theorem d_R_init_20 : decode b_R_init 20 = .ok (.bipush 12, 2) := by decide +kernel
theorem d_R_init_22 : decode b_R_init 22 = .ok (.newarray .boolean, 2) := by decide +kernel
theorem d_R_init_24 : decode b_R_init 24 = .ok (.putfield 16, 3) := by decide +kernel
theorem d_R_init_27 : decode b_R_init 27 = .ok (.aload_n 0, 1) := by decide +kernel
theorem d_R_init_28 : decode b_R_init 28 = .ok (.bipush 12, 2) := by decide +kernel
theorem d_R_init_30 : decode b_R_init 30 = .ok (.newarray .boolean, 2) := by decide +kernel
theorem d_R_init_32 : decode b_R_init 32 = .ok (.putfield 19, 3) := by decide +kernel
theorem d_R_init_35 : decode b_R_init 35 = .ok (.aload_n 0, 1) := by decide +kernel
theorem d_R_init_36 : decode b_R_init 36 = .ok (.bipush 32, 2) := by decide +kernel
theorem d_R_init_38 : decode b_R_init 38 = .ok (.newarray .boolean, 2) := by decide +kernel
theorem d_R_init_40 : decode b_R_init 40 = .ok (.putfield 22, 3) := by decide +kernel
theorem d_R_init_43 : decode b_R_init 43 = .ok (.aload_n 0, 1) := by decide +kernel
theorem d_R_init_44 : decode b_R_init 44 = .ok (.bipush 32, 2) := by decide +kernel
theorem d_R_init_46 : decode b_R_init 46 = .ok (.newarray .int, 2) := by decide +kernel
theorem d_R_init_48 : decode b_R_init 48 = .ok (.putfield 25, 3) := by decide +kernel
theorem d_R_init_51 : decode b_R_init 51 = .ok (.aload_n 0, 1) := by decide +kernel
theorem d_R_init_52 : decode b_R_init 52 = .ok (.iconst 2, 1) := by decide +kernel
theorem d_R_init_53 : decode b_R_init 53 = .ok (.newarray .boolean, 2) := by decide +kernel
theorem d_R_init_55 : decode b_R_init 55 = .ok (.putfield 29, 3) := by decide +kernel
theorem d_R_init_58 : decode b_R_init 58 = .ok (.aload_n 0, 1) := by decide +kernel
theorem d_R_init_59 : decode b_R_init 59 = .ok (.iconst 2, 1) := by decide +kernel
theorem d_R_init_60 : decode b_R_init 60 = .ok (.newarray .int, 2) := by decide +kernel
theorem d_R_init_62 : decode b_R_init 62 = .ok (.putfield 32, 3) := by decide +kernel
theorem d_R_init_65 : decode b_R_init 65 = .ok (.aload_n 0, 1) := by decide +kernel
theorem d_R_init_66 : decode b_R_init 66 = .ok (.bipush 22, 2) := by decide +kernel
theorem d_R_init_68 : decode b_R_init 68 = .ok (.newarray .int, 2) := by decide +kernel
theorem d_R_init_70 : decode b_R_init 70 = .ok (.putfield 35, 3) := by decide +kernel
theorem d_R_init_73 : decode b_R_init 73 = .ok (.aload_n 0, 1) := by decide +kernel
theorem d_R_init_74 : decode b_R_init 74 = .ok (.bipush 16, 2) := by decide +kernel
theorem d_R_init_76 : decode b_R_init 76 = .ok (.newarray .long, 2) := by decide +kernel
theorem d_R_init_78 : decode b_R_init 78 = .ok (.putfield 38, 3) := by decide +kernel
theorem d_R_init_81 : decode b_R_init 81 = .ok (.return_, 1) := by decide +kernel
def p_R_init (D : va_G) (A : Nat → Prop) (h0 : Nat) (t : State) : Prop := ∃ (q1 : Nat) (c1 : ClassId) (q2 : Nat) (c2 : ClassId) (q3 : Nat) (c3 : ClassId) (q4 : Nat) (c4 : ClassId) (q5 : Nat) (c5 : ClassId) (q6 : Nat) (c6 : ClassId) (q7 : Nat) (c7 : ClassId) (q8 : Nat) (c8 : ClassId) (q9 : Nat) (c9 : ClassId) (q10 : Nat) (c10 : ClassId), va_P D gm_cl [(h0, .inr (3, [.int 0, .int 0, .int 0, .ref q1, .ref q2, .ref q3, .ref q4, .ref q5, .ref q6, .ref q7, .ref q8, .ref q9, .int 0, .ref q10])), (q1, .inl (c1, 2, .inl (fun _ => 0))), (q2, .inl (c2, 36, .inl (fun _ => 0))), (q3, .inl (c3, 12, .inl (fun _ => 0))), (q4, .inl (c4, 12, .inl (fun _ => 0))), (q5, .inl (c5, 32, .inl (fun _ => 0))), (q6, .inl (c6, 32, .inl (fun _ => 0))), (q7, .inl (c7, 2, .inl (fun _ => 0))), (q8, .inl (c8, 2, .inl (fun _ => 0))), (q9, .inl (c9, 22, .inl (fun _ => 0))), (q10, .inl (c10, 16, .inr (.inl (fun _ => 0))))] t.heap ∧ va_D A [(h0, .inr (3, [.int 0, .int 0, .int 0, .ref q1, .ref q2, .ref q3, .ref q4, .ref q5, .ref q6, .ref q7, .ref q8, .ref q9, .int 0, .ref q10])), (q1, .inl (c1, 2, .inl (fun _ => 0))), (q2, .inl (c2, 36, .inl (fun _ => 0))), (q3, .inl (c3, 12, .inl (fun _ => 0))), (q4, .inl (c4, 12, .inl (fun _ => 0))), (q5, .inl (c5, 32, .inl (fun _ => 0))), (q6, .inl (c6, 32, .inl (fun _ => 0))), (q7, .inl (c7, 2, .inl (fun _ => 0))), (q8, .inl (c8, 2, .inl (fun _ => 0))), (q9, .inl (c9, 22, .inl (fun _ => 0))), (q10, .inl (c10, 16, .inr (.inl (fun _ => 0))))] ∧ va_K D gm_cl [(c1, .boolean), (c2, .boolean), (c3, .boolean), (c4, .boolean), (c5, .boolean), (c6, .int), (c7, .boolean), (c8, .int), (c9, .int), (c10, .long)] t
set_option maxRecDepth 100000 in
set_option maxHeartbeats 8000000 in
theorem c_R_init {l : Launch} {D : va_G} {A : Nat → Prop} {h0 sz : Nat} (hA0 : ∀ q, sz ≤ q → A q) : Met l y_R_init (Cond.code y_R_init b_R_init 1 none :: gm_A) { frames := 1, cells := 10, slots := 168, locals := 20 } (va_Pc [.ref h0] (fun U => sz ≤ U.heap.size ∧ va_P D gm_cl [(h0, .inr (3, [.int 0, .int 0, .int 0, .null, .null, .null, .null, .null, .null, .null, .null, .null, .int 0, .null]))] U.heap ∧ va_K D gm_cl [] U ∧ va_D A [(h0, .inr (3, [.int 0, .int 0, .int 0, .null, .null, .null, .null, .null, .null, .null, .null, .null, .int 0, .null]))])) (va_Qv (fun _ : Unit => True) (fun _ t => p_R_init D A h0 t) A) 10 168 A := by
  refine Met.ofW (cc := b_R_init) (maxL := 1) (ret := none) (by decide) rfl ?_
  intro p e s m args below meth c s₁ B hml hv
  obtain ⟨rfl, hsz, hP, hK, hD⟩ := hv
  have hx := B.exec
  have hb := B.bytes
  have hr := B.returns
  have hts0 := atoms_spec B.pre
  have hts := fun w h => hts0 w (List.mem_cons_of_mem _ h)
  have hown : s.vm.findClass R_R = some m.cls := findClass_of_methodNamed B.named
  have hlocks := B.notSynchronized
  have hin : meth.name = "<init>" := (name_of_methodNamed B.named B.method).1
  have hS : va_S A s.heap s.heap [] := va_S.rf
  have hA : ∀ q : Nat, s.heap.size ≤ q → A q := fun q h => hA0 q (Nat.le_trans hsz h)
  have hl := lv_entry ([.ref h0]) (n := 1) (Nat.le_of_ble_eq_true rfl)
  rw [lg_entry_eq]
  generalize (lg_sl ([.ref h0]) ++ List.replicate (1 - (lg_sl ([.ref h0])).length) Slot.unset).toArray = ls at hl ⊢
  have hl : lv_has ls 1 [(0, .ref h0)] := hl
  refine lv_aload_n hx hb d_R_init_0 rfl (lv_at hl 0 rfl) ?_
  refine W.objInit hx hb hown (hts _ (gm_in 309 (by decide +kernel) rfl)) (hts _ (gm_in 40 (by decide +kernel) rfl)) (hts _ (gm_in 41 (by decide +kernel) rfl)) rfl (by rw [hml]; exact hl.1) rfl d_R_init_1 (Nat.le_of_ble_eq_true rfl) (Nat.le_of_ble_eq_true rfl) ?_
  refine W.eq (g2 := F0 m 4 ls []) rfl ?_
  refine lv_aload_n hx hb d_R_init_4 rfl (lv_at hl 0 rfl) ?_
  refine lv_iconst (v := 2) hx hb d_R_init_5 (by decide) ?_
  refine va_newa (ty := .boolean) (a0 := (2, .inl (fun _ => 0))) (N' := 2) hx hb (hts _ (gm_in 353 (by decide +kernel) rfl)) rfl hK hP hD hS hA (fun _ => rfl) (by decide) rfl (by decide) (by decide) (by decide) d_R_init_6 (fun q1 c1 H hK hP hD hS => ?_)
  have hP : va_P D gm_cl [(h0, .inr (3, [.int 0, .int 0, .int 0, .null, .null, .null, .null, .null, .null, .null, .null, .null, .int 0, .null])), (q1, .inl (c1, 2, .inl (fun _ => 0)))] H := hP
  have hD : va_D A [(h0, .inr (3, [.int 0, .int 0, .int 0, .null, .null, .null, .null, .null, .null, .null, .null, .null, .int 0, .null])), (q1, .inl (c1, 2, .inl (fun _ => 0)))] := hD
  refine va_put (D := D) (ci := 3) (v := .ref q1) (ty := .array .boolean) (C := R_R) (T := F_R) (N := 14) (ref := "GearModulesModel") hx hb hts in_R t_R t_R_ok n_R hown hK hP hD hS 0 rfl rfl 3 (by decide) (hts _ (gm_in 313 (by decide +kernel) rfl)) (fun _ h9 => h9) rfl (by decide +kernel) rfl rfl (Nat.le_of_ble_eq_true rfl) d_R_init_8 (fun H locs hP hD hS => ?_)
  have hP : va_P D gm_cl [(h0, .inr (3, [.int 0, .int 0, .int 0, .ref q1, .null, .null, .null, .null, .null, .null, .null, .null, .int 0, .null])), (q1, .inl (c1, 2, .inl (fun _ => 0)))] H := hP
  have hD : va_D A [(h0, .inr (3, [.int 0, .int 0, .int 0, .ref q1, .null, .null, .null, .null, .null, .null, .null, .null, .int 0, .null])), (q1, .inl (c1, 2, .inl (fun _ => 0)))] := hD
  refine lv_aload_n hx hb d_R_init_11 rfl (lv_at hl 0 rfl) ?_
  refine lv_bipush (v := 36) hx hb d_R_init_12 (by decide) ?_
  refine va_newa (ty := .boolean) (a0 := (36, .inl (fun _ => 0))) (N' := 36) hx hb (hts _ (gm_in 353 (by decide +kernel) rfl)) rfl hK hP hD hS hA (fun _ => rfl) (by decide) rfl (by decide) (by decide) (by decide) d_R_init_14 (fun q2 c2 H hK hP hD hS => ?_)
  have hP : va_P D gm_cl [(h0, .inr (3, [.int 0, .int 0, .int 0, .ref q1, .null, .null, .null, .null, .null, .null, .null, .null, .int 0, .null])), (q1, .inl (c1, 2, .inl (fun _ => 0))), (q2, .inl (c2, 36, .inl (fun _ => 0)))] H := hP
  have hD : va_D A [(h0, .inr (3, [.int 0, .int 0, .int 0, .ref q1, .null, .null, .null, .null, .null, .null, .null, .null, .int 0, .null])), (q1, .inl (c1, 2, .inl (fun _ => 0))), (q2, .inl (c2, 36, .inl (fun _ => 0)))] := hD
  refine va_put (D := D) (ci := 3) (v := .ref q2) (ty := .array .boolean) (C := R_R) (T := F_R) (N := 14) (ref := "GearModulesModel") hx hb hts in_R t_R t_R_ok n_R hown hK hP hD hS 0 rfl rfl 4 (by decide) (hts _ (gm_in 314 (by decide +kernel) rfl)) (fun _ h9 => h9) rfl (by decide +kernel) rfl rfl (Nat.le_of_ble_eq_true rfl) d_R_init_16 (fun H locs hP hD hS => ?_)
  have hP : va_P D gm_cl [(h0, .inr (3, [.int 0, .int 0, .int 0, .ref q1, .ref q2, .null, .null, .null, .null, .null, .null, .null, .int 0, .null])), (q1, .inl (c1, 2, .inl (fun _ => 0))), (q2, .inl (c2, 36, .inl (fun _ => 0)))] H := hP
  have hD : va_D A [(h0, .inr (3, [.int 0, .int 0, .int 0, .ref q1, .ref q2, .null, .null, .null, .null, .null, .null, .null, .int 0, .null])), (q1, .inl (c1, 2, .inl (fun _ => 0))), (q2, .inl (c2, 36, .inl (fun _ => 0)))] := hD
  refine lv_aload_n hx hb d_R_init_19 rfl (lv_at hl 0 rfl) ?_
  refine lv_bipush (v := 12) hx hb d_R_init_20 (by decide) ?_
  refine va_newa (ty := .boolean) (a0 := (12, .inl (fun _ => 0))) (N' := 12) hx hb (hts _ (gm_in 353 (by decide +kernel) rfl)) rfl hK hP hD hS hA (fun _ => rfl) (by decide) rfl (by decide) (by decide) (by decide) d_R_init_22 (fun q3 c3 H hK hP hD hS => ?_)
  have hP : va_P D gm_cl [(h0, .inr (3, [.int 0, .int 0, .int 0, .ref q1, .ref q2, .null, .null, .null, .null, .null, .null, .null, .int 0, .null])), (q1, .inl (c1, 2, .inl (fun _ => 0))), (q2, .inl (c2, 36, .inl (fun _ => 0))), (q3, .inl (c3, 12, .inl (fun _ => 0)))] H := hP
  have hD : va_D A [(h0, .inr (3, [.int 0, .int 0, .int 0, .ref q1, .ref q2, .null, .null, .null, .null, .null, .null, .null, .int 0, .null])), (q1, .inl (c1, 2, .inl (fun _ => 0))), (q2, .inl (c2, 36, .inl (fun _ => 0))), (q3, .inl (c3, 12, .inl (fun _ => 0)))] := hD
  refine va_put (D := D) (ci := 3) (v := .ref q3) (ty := .array .boolean) (C := R_R) (T := F_R) (N := 14) (ref := "GearModulesModel") hx hb hts in_R t_R t_R_ok n_R hown hK hP hD hS 0 rfl rfl 5 (by decide) (hts _ (gm_in 315 (by decide +kernel) rfl)) (fun _ h9 => h9) rfl (by decide +kernel) rfl rfl (Nat.le_of_ble_eq_true rfl) d_R_init_24 (fun H locs hP hD hS => ?_)
  have hP : va_P D gm_cl [(h0, .inr (3, [.int 0, .int 0, .int 0, .ref q1, .ref q2, .ref q3, .null, .null, .null, .null, .null, .null, .int 0, .null])), (q1, .inl (c1, 2, .inl (fun _ => 0))), (q2, .inl (c2, 36, .inl (fun _ => 0))), (q3, .inl (c3, 12, .inl (fun _ => 0)))] H := hP
  have hD : va_D A [(h0, .inr (3, [.int 0, .int 0, .int 0, .ref q1, .ref q2, .ref q3, .null, .null, .null, .null, .null, .null, .int 0, .null])), (q1, .inl (c1, 2, .inl (fun _ => 0))), (q2, .inl (c2, 36, .inl (fun _ => 0))), (q3, .inl (c3, 12, .inl (fun _ => 0)))] := hD
  refine lv_aload_n hx hb d_R_init_27 rfl (lv_at hl 0 rfl) ?_
  refine lv_bipush (v := 12) hx hb d_R_init_28 (by decide) ?_
  refine va_newa (ty := .boolean) (a0 := (12, .inl (fun _ => 0))) (N' := 12) hx hb (hts _ (gm_in 353 (by decide +kernel) rfl)) rfl hK hP hD hS hA (fun _ => rfl) (by decide) rfl (by decide) (by decide) (by decide) d_R_init_30 (fun q4 c4 H hK hP hD hS => ?_)
  have hP : va_P D gm_cl [(h0, .inr (3, [.int 0, .int 0, .int 0, .ref q1, .ref q2, .ref q3, .null, .null, .null, .null, .null, .null, .int 0, .null])), (q1, .inl (c1, 2, .inl (fun _ => 0))), (q2, .inl (c2, 36, .inl (fun _ => 0))), (q3, .inl (c3, 12, .inl (fun _ => 0))), (q4, .inl (c4, 12, .inl (fun _ => 0)))] H := hP
  have hD : va_D A [(h0, .inr (3, [.int 0, .int 0, .int 0, .ref q1, .ref q2, .ref q3, .null, .null, .null, .null, .null, .null, .int 0, .null])), (q1, .inl (c1, 2, .inl (fun _ => 0))), (q2, .inl (c2, 36, .inl (fun _ => 0))), (q3, .inl (c3, 12, .inl (fun _ => 0))), (q4, .inl (c4, 12, .inl (fun _ => 0)))] := hD
  refine va_put (D := D) (ci := 3) (v := .ref q4) (ty := .array .boolean) (C := R_R) (T := F_R) (N := 14) (ref := "GearModulesModel") hx hb hts in_R t_R t_R_ok n_R hown hK hP hD hS 0 rfl rfl 6 (by decide) (hts _ (gm_in 316 (by decide +kernel) rfl)) (fun _ h9 => h9) rfl (by decide +kernel) rfl rfl (Nat.le_of_ble_eq_true rfl) d_R_init_32 (fun H locs hP hD hS => ?_)
  have hP : va_P D gm_cl [(h0, .inr (3, [.int 0, .int 0, .int 0, .ref q1, .ref q2, .ref q3, .ref q4, .null, .null, .null, .null, .null, .int 0, .null])), (q1, .inl (c1, 2, .inl (fun _ => 0))), (q2, .inl (c2, 36, .inl (fun _ => 0))), (q3, .inl (c3, 12, .inl (fun _ => 0))), (q4, .inl (c4, 12, .inl (fun _ => 0)))] H := hP
  have hD : va_D A [(h0, .inr (3, [.int 0, .int 0, .int 0, .ref q1, .ref q2, .ref q3, .ref q4, .null, .null, .null, .null, .null, .int 0, .null])), (q1, .inl (c1, 2, .inl (fun _ => 0))), (q2, .inl (c2, 36, .inl (fun _ => 0))), (q3, .inl (c3, 12, .inl (fun _ => 0))), (q4, .inl (c4, 12, .inl (fun _ => 0)))] := hD
  refine lv_aload_n hx hb d_R_init_35 rfl (lv_at hl 0 rfl) ?_
  refine lv_bipush (v := 32) hx hb d_R_init_36 (by decide) ?_
  refine va_newa (ty := .boolean) (a0 := (32, .inl (fun _ => 0))) (N' := 32) hx hb (hts _ (gm_in 353 (by decide +kernel) rfl)) rfl hK hP hD hS hA (fun _ => rfl) (by decide) rfl (by decide) (by decide) (by decide) d_R_init_38 (fun q5 c5 H hK hP hD hS => ?_)
  have hP : va_P D gm_cl [(h0, .inr (3, [.int 0, .int 0, .int 0, .ref q1, .ref q2, .ref q3, .ref q4, .null, .null, .null, .null, .null, .int 0, .null])), (q1, .inl (c1, 2, .inl (fun _ => 0))), (q2, .inl (c2, 36, .inl (fun _ => 0))), (q3, .inl (c3, 12, .inl (fun _ => 0))), (q4, .inl (c4, 12, .inl (fun _ => 0))), (q5, .inl (c5, 32, .inl (fun _ => 0)))] H := hP
  have hD : va_D A [(h0, .inr (3, [.int 0, .int 0, .int 0, .ref q1, .ref q2, .ref q3, .ref q4, .null, .null, .null, .null, .null, .int 0, .null])), (q1, .inl (c1, 2, .inl (fun _ => 0))), (q2, .inl (c2, 36, .inl (fun _ => 0))), (q3, .inl (c3, 12, .inl (fun _ => 0))), (q4, .inl (c4, 12, .inl (fun _ => 0))), (q5, .inl (c5, 32, .inl (fun _ => 0)))] := hD
  refine va_put (D := D) (ci := 3) (v := .ref q5) (ty := .array .boolean) (C := R_R) (T := F_R) (N := 14) (ref := "GearModulesModel") hx hb hts in_R t_R t_R_ok n_R hown hK hP hD hS 0 rfl rfl 7 (by decide) (hts _ (gm_in 317 (by decide +kernel) rfl)) (fun _ h9 => h9) rfl (by decide +kernel) rfl rfl (Nat.le_of_ble_eq_true rfl) d_R_init_40 (fun H locs hP hD hS => ?_)
  have hP : va_P D gm_cl [(h0, .inr (3, [.int 0, .int 0, .int 0, .ref q1, .ref q2, .ref q3, .ref q4, .ref q5, .null, .null, .null, .null, .int 0, .null])), (q1, .inl (c1, 2, .inl (fun _ => 0))), (q2, .inl (c2, 36, .inl (fun _ => 0))), (q3, .inl (c3, 12, .inl (fun _ => 0))), (q4, .inl (c4, 12, .inl (fun _ => 0))), (q5, .inl (c5, 32, .inl (fun _ => 0)))] H := hP
  have hD : va_D A [(h0, .inr (3, [.int 0, .int 0, .int 0, .ref q1, .ref q2, .ref q3, .ref q4, .ref q5, .null, .null, .null, .null, .int 0, .null])), (q1, .inl (c1, 2, .inl (fun _ => 0))), (q2, .inl (c2, 36, .inl (fun _ => 0))), (q3, .inl (c3, 12, .inl (fun _ => 0))), (q4, .inl (c4, 12, .inl (fun _ => 0))), (q5, .inl (c5, 32, .inl (fun _ => 0)))] := hD
  refine lv_aload_n hx hb d_R_init_43 rfl (lv_at hl 0 rfl) ?_
  refine lv_bipush (v := 32) hx hb d_R_init_44 (by decide) ?_
  refine va_newa (ty := .int) (a0 := (32, .inl (fun _ => 0))) (N' := 32) hx hb (hts _ (gm_in 69 (by decide +kernel) rfl)) rfl hK hP hD hS hA (fun _ => rfl) (by decide) rfl (by decide) (by decide) (by decide) d_R_init_46 (fun q6 c6 H hK hP hD hS => ?_)
  have hP : va_P D gm_cl [(h0, .inr (3, [.int 0, .int 0, .int 0, .ref q1, .ref q2, .ref q3, .ref q4, .ref q5, .null, .null, .null, .null, .int 0, .null])), (q1, .inl (c1, 2, .inl (fun _ => 0))), (q2, .inl (c2, 36, .inl (fun _ => 0))), (q3, .inl (c3, 12, .inl (fun _ => 0))), (q4, .inl (c4, 12, .inl (fun _ => 0))), (q5, .inl (c5, 32, .inl (fun _ => 0))), (q6, .inl (c6, 32, .inl (fun _ => 0)))] H := hP
  have hD : va_D A [(h0, .inr (3, [.int 0, .int 0, .int 0, .ref q1, .ref q2, .ref q3, .ref q4, .ref q5, .null, .null, .null, .null, .int 0, .null])), (q1, .inl (c1, 2, .inl (fun _ => 0))), (q2, .inl (c2, 36, .inl (fun _ => 0))), (q3, .inl (c3, 12, .inl (fun _ => 0))), (q4, .inl (c4, 12, .inl (fun _ => 0))), (q5, .inl (c5, 32, .inl (fun _ => 0))), (q6, .inl (c6, 32, .inl (fun _ => 0)))] := hD
  refine va_put (D := D) (ci := 3) (v := .ref q6) (ty := .array .int) (C := R_R) (T := F_R) (N := 14) (ref := "GearModulesModel") hx hb hts in_R t_R t_R_ok n_R hown hK hP hD hS 0 rfl rfl 8 (by decide) (hts _ (gm_in 318 (by decide +kernel) rfl)) (fun _ h9 => h9) rfl (by decide +kernel) rfl rfl (Nat.le_of_ble_eq_true rfl) d_R_init_48 (fun H locs hP hD hS => ?_)
  have hP : va_P D gm_cl [(h0, .inr (3, [.int 0, .int 0, .int 0, .ref q1, .ref q2, .ref q3, .ref q4, .ref q5, .ref q6, .null, .null, .null, .int 0, .null])), (q1, .inl (c1, 2, .inl (fun _ => 0))), (q2, .inl (c2, 36, .inl (fun _ => 0))), (q3, .inl (c3, 12, .inl (fun _ => 0))), (q4, .inl (c4, 12, .inl (fun _ => 0))), (q5, .inl (c5, 32, .inl (fun _ => 0))), (q6, .inl (c6, 32, .inl (fun _ => 0)))] H := hP
  have hD : va_D A [(h0, .inr (3, [.int 0, .int 0, .int 0, .ref q1, .ref q2, .ref q3, .ref q4, .ref q5, .ref q6, .null, .null, .null, .int 0, .null])), (q1, .inl (c1, 2, .inl (fun _ => 0))), (q2, .inl (c2, 36, .inl (fun _ => 0))), (q3, .inl (c3, 12, .inl (fun _ => 0))), (q4, .inl (c4, 12, .inl (fun _ => 0))), (q5, .inl (c5, 32, .inl (fun _ => 0))), (q6, .inl (c6, 32, .inl (fun _ => 0)))] := hD
  refine lv_aload_n hx hb d_R_init_51 rfl (lv_at hl 0 rfl) ?_
  refine lv_iconst (v := 2) hx hb d_R_init_52 (by decide) ?_
  refine va_newa (ty := .boolean) (a0 := (2, .inl (fun _ => 0))) (N' := 2) hx hb (hts _ (gm_in 353 (by decide +kernel) rfl)) rfl hK hP hD hS hA (fun _ => rfl) (by decide) rfl (by decide) (by decide) (by decide) d_R_init_53 (fun q7 c7 H hK hP hD hS => ?_)
  have hP : va_P D gm_cl [(h0, .inr (3, [.int 0, .int 0, .int 0, .ref q1, .ref q2, .ref q3, .ref q4, .ref q5, .ref q6, .null, .null, .null, .int 0, .null])), (q1, .inl (c1, 2, .inl (fun _ => 0))), (q2, .inl (c2, 36, .inl (fun _ => 0))), (q3, .inl (c3, 12, .inl (fun _ => 0))), (q4, .inl (c4, 12, .inl (fun _ => 0))), (q5, .inl (c5, 32, .inl (fun _ => 0))), (q6, .inl (c6, 32, .inl (fun _ => 0))), (q7, .inl (c7, 2, .inl (fun _ => 0)))] H := hP
  have hD : va_D A [(h0, .inr (3, [.int 0, .int 0, .int 0, .ref q1, .ref q2, .ref q3, .ref q4, .ref q5, .ref q6, .null, .null, .null, .int 0, .null])), (q1, .inl (c1, 2, .inl (fun _ => 0))), (q2, .inl (c2, 36, .inl (fun _ => 0))), (q3, .inl (c3, 12, .inl (fun _ => 0))), (q4, .inl (c4, 12, .inl (fun _ => 0))), (q5, .inl (c5, 32, .inl (fun _ => 0))), (q6, .inl (c6, 32, .inl (fun _ => 0))), (q7, .inl (c7, 2, .inl (fun _ => 0)))] := hD
  refine va_put (D := D) (ci := 3) (v := .ref q7) (ty := .array .boolean) (C := R_R) (T := F_R) (N := 14) (ref := "GearModulesModel") hx hb hts in_R t_R t_R_ok n_R hown hK hP hD hS 0 rfl rfl 9 (by decide) (hts _ (gm_in 319 (by decide +kernel) rfl)) (fun _ h9 => h9) rfl (by decide +kernel) rfl rfl (Nat.le_of_ble_eq_true rfl) d_R_init_55 (fun H locs hP hD hS => ?_)
  have hP : va_P D gm_cl [(h0, .inr (3, [.int 0, .int 0, .int 0, .ref q1, .ref q2, .ref q3, .ref q4, .ref q5, .ref q6, .ref q7, .null, .null, .int 0, .null])), (q1, .inl (c1, 2, .inl (fun _ => 0))), (q2, .inl (c2, 36, .inl (fun _ => 0))), (q3, .inl (c3, 12, .inl (fun _ => 0))), (q4, .inl (c4, 12, .inl (fun _ => 0))), (q5, .inl (c5, 32, .inl (fun _ => 0))), (q6, .inl (c6, 32, .inl (fun _ => 0))), (q7, .inl (c7, 2, .inl (fun _ => 0)))] H := hP
  have hD : va_D A [(h0, .inr (3, [.int 0, .int 0, .int 0, .ref q1, .ref q2, .ref q3, .ref q4, .ref q5, .ref q6, .ref q7, .null, .null, .int 0, .null])), (q1, .inl (c1, 2, .inl (fun _ => 0))), (q2, .inl (c2, 36, .inl (fun _ => 0))), (q3, .inl (c3, 12, .inl (fun _ => 0))), (q4, .inl (c4, 12, .inl (fun _ => 0))), (q5, .inl (c5, 32, .inl (fun _ => 0))), (q6, .inl (c6, 32, .inl (fun _ => 0))), (q7, .inl (c7, 2, .inl (fun _ => 0)))] := hD
  refine lv_aload_n hx hb d_R_init_58 rfl (lv_at hl 0 rfl) ?_
  refine lv_iconst (v := 2) hx hb d_R_init_59 (by decide) ?_
  refine va_newa (ty := .int) (a0 := (2, .inl (fun _ => 0))) (N' := 2) hx hb (hts _ (gm_in 69 (by decide +kernel) rfl)) rfl hK hP hD hS hA (fun _ => rfl) (by decide) rfl (by decide) (by decide) (by decide) d_R_init_60 (fun q8 c8 H hK hP hD hS => ?_)
  have hP : va_P D gm_cl [(h0, .inr (3, [.int 0, .int 0, .int 0, .ref q1, .ref q2, .ref q3, .ref q4, .ref q5, .ref q6, .ref q7, .null, .null, .int 0, .null])), (q1, .inl (c1, 2, .inl (fun _ => 0))), (q2, .inl (c2, 36, .inl (fun _ => 0))), (q3, .inl (c3, 12, .inl (fun _ => 0))), (q4, .inl (c4, 12, .inl (fun _ => 0))), (q5, .inl (c5, 32, .inl (fun _ => 0))), (q6, .inl (c6, 32, .inl (fun _ => 0))), (q7, .inl (c7, 2, .inl (fun _ => 0))), (q8, .inl (c8, 2, .inl (fun _ => 0)))] H := hP
  have hD : va_D A [(h0, .inr (3, [.int 0, .int 0, .int 0, .ref q1, .ref q2, .ref q3, .ref q4, .ref q5, .ref q6, .ref q7, .null, .null, .int 0, .null])), (q1, .inl (c1, 2, .inl (fun _ => 0))), (q2, .inl (c2, 36, .inl (fun _ => 0))), (q3, .inl (c3, 12, .inl (fun _ => 0))), (q4, .inl (c4, 12, .inl (fun _ => 0))), (q5, .inl (c5, 32, .inl (fun _ => 0))), (q6, .inl (c6, 32, .inl (fun _ => 0))), (q7, .inl (c7, 2, .inl (fun _ => 0))), (q8, .inl (c8, 2, .inl (fun _ => 0)))] := hD
  refine va_put (D := D) (ci := 3) (v := .ref q8) (ty := .array .int) (C := R_R) (T := F_R) (N := 14) (ref := "GearModulesModel") hx hb hts in_R t_R t_R_ok n_R hown hK hP hD hS 0 rfl rfl 10 (by decide) (hts _ (gm_in 320 (by decide +kernel) rfl)) (fun _ h9 => h9) rfl (by decide +kernel) rfl rfl (Nat.le_of_ble_eq_true rfl) d_R_init_62 (fun H locs hP hD hS => ?_)
  have hP : va_P D gm_cl [(h0, .inr (3, [.int 0, .int 0, .int 0, .ref q1, .ref q2, .ref q3, .ref q4, .ref q5, .ref q6, .ref q7, .ref q8, .null, .int 0, .null])), (q1, .inl (c1, 2, .inl (fun _ => 0))), (q2, .inl (c2, 36, .inl (fun _ => 0))), (q3, .inl (c3, 12, .inl (fun _ => 0))), (q4, .inl (c4, 12, .inl (fun _ => 0))), (q5, .inl (c5, 32, .inl (fun _ => 0))), (q6, .inl (c6, 32, .inl (fun _ => 0))), (q7, .inl (c7, 2, .inl (fun _ => 0))), (q8, .inl (c8, 2, .inl (fun _ => 0)))] H := hP
  have hD : va_D A [(h0, .inr (3, [.int 0, .int 0, .int 0, .ref q1, .ref q2, .ref q3, .ref q4, .ref q5, .ref q6, .ref q7, .ref q8, .null, .int 0, .null])), (q1, .inl (c1, 2, .inl (fun _ => 0))), (q2, .inl (c2, 36, .inl (fun _ => 0))), (q3, .inl (c3, 12, .inl (fun _ => 0))), (q4, .inl (c4, 12, .inl (fun _ => 0))), (q5, .inl (c5, 32, .inl (fun _ => 0))), (q6, .inl (c6, 32, .inl (fun _ => 0))), (q7, .inl (c7, 2, .inl (fun _ => 0))), (q8, .inl (c8, 2, .inl (fun _ => 0)))] := hD
  refine lv_aload_n hx hb d_R_init_65 rfl (lv_at hl 0 rfl) ?_
  refine lv_bipush (v := 22) hx hb d_R_init_66 (by decide) ?_
  refine va_newa (ty := .int) (a0 := (22, .inl (fun _ => 0))) (N' := 22) hx hb (hts _ (gm_in 69 (by decide +kernel) rfl)) rfl hK hP hD hS hA (fun _ => rfl) (by decide) rfl (by decide) (by decide) (by decide) d_R_init_68 (fun q9 c9 H hK hP hD hS => ?_)
  have hP : va_P D gm_cl [(h0, .inr (3, [.int 0, .int 0, .int 0, .ref q1, .ref q2, .ref q3, .ref q4, .ref q5, .ref q6, .ref q7, .ref q8, .null, .int 0, .null])), (q1, .inl (c1, 2, .inl (fun _ => 0))), (q2, .inl (c2, 36, .inl (fun _ => 0))), (q3, .inl (c3, 12, .inl (fun _ => 0))), (q4, .inl (c4, 12, .inl (fun _ => 0))), (q5, .inl (c5, 32, .inl (fun _ => 0))), (q6, .inl (c6, 32, .inl (fun _ => 0))), (q7, .inl (c7, 2, .inl (fun _ => 0))), (q8, .inl (c8, 2, .inl (fun _ => 0))), (q9, .inl (c9, 22, .inl (fun _ => 0)))] H := hP
  have hD : va_D A [(h0, .inr (3, [.int 0, .int 0, .int 0, .ref q1, .ref q2, .ref q3, .ref q4, .ref q5, .ref q6, .ref q7, .ref q8, .null, .int 0, .null])), (q1, .inl (c1, 2, .inl (fun _ => 0))), (q2, .inl (c2, 36, .inl (fun _ => 0))), (q3, .inl (c3, 12, .inl (fun _ => 0))), (q4, .inl (c4, 12, .inl (fun _ => 0))), (q5, .inl (c5, 32, .inl (fun _ => 0))), (q6, .inl (c6, 32, .inl (fun _ => 0))), (q7, .inl (c7, 2, .inl (fun _ => 0))), (q8, .inl (c8, 2, .inl (fun _ => 0))), (q9, .inl (c9, 22, .inl (fun _ => 0)))] := hD
  refine va_put (D := D) (ci := 3) (v := .ref q9) (ty := .array .int) (C := R_R) (T := F_R) (N := 14) (ref := "GearModulesModel") hx hb hts in_R t_R t_R_ok n_R hown hK hP hD hS 0 rfl rfl 11 (by decide) (hts _ (gm_in 321 (by decide +kernel) rfl)) (fun _ h9 => h9) rfl (by decide +kernel) rfl rfl (Nat.le_of_ble_eq_true rfl) d_R_init_70 (fun H locs hP hD hS => ?_)
  have hP : va_P D gm_cl [(h0, .inr (3, [.int 0, .int 0, .int 0, .ref q1, .ref q2, .ref q3, .ref q4, .ref q5, .ref q6, .ref q7, .ref q8, .ref q9, .int 0, .null])), (q1, .inl (c1, 2, .inl (fun _ => 0))), (q2, .inl (c2, 36, .inl (fun _ => 0))), (q3, .inl (c3, 12, .inl (fun _ => 0))), (q4, .inl (c4, 12, .inl (fun _ => 0))), (q5, .inl (c5, 32, .inl (fun _ => 0))), (q6, .inl (c6, 32, .inl (fun _ => 0))), (q7, .inl (c7, 2, .inl (fun _ => 0))), (q8, .inl (c8, 2, .inl (fun _ => 0))), (q9, .inl (c9, 22, .inl (fun _ => 0)))] H := hP
  have hD : va_D A [(h0, .inr (3, [.int 0, .int 0, .int 0, .ref q1, .ref q2, .ref q3, .ref q4, .ref q5, .ref q6, .ref q7, .ref q8, .ref q9, .int 0, .null])), (q1, .inl (c1, 2, .inl (fun _ => 0))), (q2, .inl (c2, 36, .inl (fun _ => 0))), (q3, .inl (c3, 12, .inl (fun _ => 0))), (q4, .inl (c4, 12, .inl (fun _ => 0))), (q5, .inl (c5, 32, .inl (fun _ => 0))), (q6, .inl (c6, 32, .inl (fun _ => 0))), (q7, .inl (c7, 2, .inl (fun _ => 0))), (q8, .inl (c8, 2, .inl (fun _ => 0))), (q9, .inl (c9, 22, .inl (fun _ => 0)))] := hD
  refine lv_aload_n hx hb d_R_init_73 rfl (lv_at hl 0 rfl) ?_
  refine lv_bipush (v := 16) hx hb d_R_init_74 (by decide) ?_
  refine va_newa (ty := .long) (a0 := (16, .inr (.inl (fun _ => 0)))) (N' := 16) hx hb (hts _ (gm_in 68 (by decide +kernel) rfl)) rfl hK hP hD hS hA (fun _ => rfl) (by decide) rfl (by decide) (by decide) (by decide) d_R_init_76 (fun q10 c10 H hK hP hD hS => ?_)
  have hP : va_P D gm_cl [(h0, .inr (3, [.int 0, .int 0, .int 0, .ref q1, .ref q2, .ref q3, .ref q4, .ref q5, .ref q6, .ref q7, .ref q8, .ref q9, .int 0, .null])), (q1, .inl (c1, 2, .inl (fun _ => 0))), (q2, .inl (c2, 36, .inl (fun _ => 0))), (q3, .inl (c3, 12, .inl (fun _ => 0))), (q4, .inl (c4, 12, .inl (fun _ => 0))), (q5, .inl (c5, 32, .inl (fun _ => 0))), (q6, .inl (c6, 32, .inl (fun _ => 0))), (q7, .inl (c7, 2, .inl (fun _ => 0))), (q8, .inl (c8, 2, .inl (fun _ => 0))), (q9, .inl (c9, 22, .inl (fun _ => 0))), (q10, .inl (c10, 16, .inr (.inl (fun _ => 0))))] H := hP
  have hD : va_D A [(h0, .inr (3, [.int 0, .int 0, .int 0, .ref q1, .ref q2, .ref q3, .ref q4, .ref q5, .ref q6, .ref q7, .ref q8, .ref q9, .int 0, .null])), (q1, .inl (c1, 2, .inl (fun _ => 0))), (q2, .inl (c2, 36, .inl (fun _ => 0))), (q3, .inl (c3, 12, .inl (fun _ => 0))), (q4, .inl (c4, 12, .inl (fun _ => 0))), (q5, .inl (c5, 32, .inl (fun _ => 0))), (q6, .inl (c6, 32, .inl (fun _ => 0))), (q7, .inl (c7, 2, .inl (fun _ => 0))), (q8, .inl (c8, 2, .inl (fun _ => 0))), (q9, .inl (c9, 22, .inl (fun _ => 0))), (q10, .inl (c10, 16, .inr (.inl (fun _ => 0))))] := hD
  refine va_put (D := D) (ci := 3) (v := .ref q10) (ty := .array .long) (C := R_R) (T := F_R) (N := 14) (ref := "GearModulesModel") hx hb hts in_R t_R t_R_ok n_R hown hK hP hD hS 0 rfl rfl 13 (by decide) (hts _ (gm_in 323 (by decide +kernel) rfl)) (fun _ h9 => h9) rfl (by decide +kernel) rfl rfl (Nat.le_of_ble_eq_true rfl) d_R_init_78 (fun H locs hP hD hS => ?_)
  have hP : va_P D gm_cl [(h0, .inr (3, [.int 0, .int 0, .int 0, .ref q1, .ref q2, .ref q3, .ref q4, .ref q5, .ref q6, .ref q7, .ref q8, .ref q9, .int 0, .ref q10])), (q1, .inl (c1, 2, .inl (fun _ => 0))), (q2, .inl (c2, 36, .inl (fun _ => 0))), (q3, .inl (c3, 12, .inl (fun _ => 0))), (q4, .inl (c4, 12, .inl (fun _ => 0))), (q5, .inl (c5, 32, .inl (fun _ => 0))), (q6, .inl (c6, 32, .inl (fun _ => 0))), (q7, .inl (c7, 2, .inl (fun _ => 0))), (q8, .inl (c8, 2, .inl (fun _ => 0))), (q9, .inl (c9, 22, .inl (fun _ => 0))), (q10, .inl (c10, 16, .inr (.inl (fun _ => 0))))] H := hP
  have hD : va_D A [(h0, .inr (3, [.int 0, .int 0, .int 0, .ref q1, .ref q2, .ref q3, .ref q4, .ref q5, .ref q6, .ref q7, .ref q8, .ref q9, .int 0, .ref q10])), (q1, .inl (c1, 2, .inl (fun _ => 0))), (q2, .inl (c2, 36, .inl (fun _ => 0))), (q3, .inl (c3, 12, .inl (fun _ => 0))), (q4, .inl (c4, 12, .inl (fun _ => 0))), (q5, .inl (c5, 32, .inl (fun _ => 0))), (q6, .inl (c6, 32, .inl (fun _ => 0))), (q7, .inl (c7, 2, .inl (fun _ => 0))), (q8, .inl (c8, 2, .inl (fun _ => 0))), (q9, .inl (c9, 22, .inl (fun _ => 0))), (q10, .inl (c10, 16, .inr (.inl (fun _ => 0))))] := hD
  have hK9 : va_K D gm_cl [(c1, .boolean), (c2, .boolean), (c3, .boolean), (c4, .boolean), (c5, .boolean), (c6, .int), (c7, .boolean), (c8, .int), (c9, .int), (c10, .long)] s := hK
  refine W.widen (k := 10) (n := 168) (by decide) (by decide) ?_
  exact W.vret hx hb hr (fun t ht hW => ⟨⟨(), rfl, trivial, q1, c1, q2, c2, q3, c3, q4, c4, q5, c5, q6, c6, q7, c7, q8, c8, q9, c9, q10, c10, by rw [ht]; exact hP, hD, va_K.moved hW.alike hK9⟩, hS.F ht⟩) hS.2.2 d_R_init_81
end
